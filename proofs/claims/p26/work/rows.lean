section
-- ===== PART A: goes FIRST, ahead of the names: the tables' words, and 'selects' of the private methods out of them =====
/-- a private method of a class that the tables say can be made, by its rows of tables_1 -/
def lw_okq (q : MethodName × Nat) : Prop := (q.1.cls ≠ "java/lang/invoke/MethodHandle" ∧ q.1.cls ≠ "java/lang/invoke/VarHandle") ∧ Cond.instantiable q.1.cls q.2 ∈ tables_1 ∧ Cond.privateMethod q.1 ∈ tables_1 ∧ Cond.instanceMethod q.1 ∈ tables_1
theorem lw_p0 : lw_okq (⟨"BagHall", "requireRider", "(I)V"⟩, 17) := ⟨⟨by decide +kernel, by decide +kernel⟩, List.mem_of_getElem? (i := 10) (by decide +kernel), List.mem_of_getElem? (i := 76) (by decide +kernel), List.mem_of_getElem? (i := 77) (by decide +kernel)⟩
theorem lw_p1 : lw_okq (⟨"java/lang/Throwable", "fillInStackTrace", "(I)Ljava/lang/Throwable;"⟩, 6) := ⟨⟨by decide +kernel, by decide +kernel⟩, List.mem_of_getElem? (i := 118) (by decide +kernel), List.mem_of_getElem? (i := 116) (by decide +kernel), List.mem_of_getElem? (i := 117) (by decide +kernel)⟩
theorem lw_p2 : lw_okq (⟨"BagHall", "passOneMinute", "()V"⟩, 17) := ⟨⟨by decide +kernel, by decide +kernel⟩, List.mem_of_getElem? (i := 10) (by decide +kernel), List.mem_of_getElem? (i := 168) (by decide +kernel), List.mem_of_getElem? (i := 169) (by decide +kernel)⟩
theorem lw_p3 : lw_okq (⟨"BagHall", "emptyStore", "()V"⟩, 17) := ⟨⟨by decide +kernel, by decide +kernel⟩, List.mem_of_getElem? (i := 10) (by decide +kernel), List.mem_of_getElem? (i := 172) (by decide +kernel), List.mem_of_getElem? (i := 173) (by decide +kernel)⟩
theorem lw_p4 : lw_okq (⟨"BagHall", "firstToLeaveStore", "()I"⟩, 17) := ⟨⟨by decide +kernel, by decide +kernel⟩, List.mem_of_getElem? (i := 10) (by decide +kernel), List.mem_of_getElem? (i := 176) (by decide +kernel), List.mem_of_getElem? (i := 177) (by decide +kernel)⟩
theorem lw_p5 : lw_okq (⟨"BagHall", "hasOpened", "(I)Z"⟩, 17) := ⟨⟨by decide +kernel, by decide +kernel⟩, List.mem_of_getElem? (i := 10) (by decide +kernel), List.mem_of_getElem? (i := 180) (by decide +kernel), List.mem_of_getElem? (i := 181) (by decide +kernel)⟩
theorem lw_p6 : lw_okq (⟨"BagHall", "bring", "(II)V"⟩, 17) := ⟨⟨by decide +kernel, by decide +kernel⟩, List.mem_of_getElem? (i := 10) (by decide +kernel), List.mem_of_getElem? (i := 184) (by decide +kernel), List.mem_of_getElem? (i := 185) (by decide +kernel)⟩
theorem lw_p7 : lw_okq (⟨"BagHall", "scan", "(II)V"⟩, 17) := ⟨⟨by decide +kernel, by decide +kernel⟩, List.mem_of_getElem? (i := 10) (by decide +kernel), List.mem_of_getElem? (i := 188) (by decide +kernel), List.mem_of_getElem? (i := 189) (by decide +kernel)⟩
theorem lw_p8 : lw_okq (⟨"BagHall", "routeLoop", "()V"⟩, 17) := ⟨⟨by decide +kernel, by decide +kernel⟩, List.mem_of_getElem? (i := 10) (by decide +kernel), List.mem_of_getElem? (i := 192) (by decide +kernel), List.mem_of_getElem? (i := 193) (by decide +kernel)⟩
theorem lw_p9 : lw_okq (⟨"BagHall", "route", "(I)V"⟩, 17) := ⟨⟨by decide +kernel, by decide +kernel⟩, List.mem_of_getElem? (i := 10) (by decide +kernel), List.mem_of_getElem? (i := 196) (by decide +kernel), List.mem_of_getElem? (i := 197) (by decide +kernel)⟩
theorem lw_p10 : lw_okq (⟨"BagHall", "routeTo", "(I)I"⟩, 17) := ⟨⟨by decide +kernel, by decide +kernel⟩, List.mem_of_getElem? (i := 10) (by decide +kernel), List.mem_of_getElem? (i := 200) (by decide +kernel), List.mem_of_getElem? (i := 201) (by decide +kernel)⟩
theorem lw_p11 : lw_okq (⟨"BagHall", "hasClosed", "(I)Z"⟩, 17) := ⟨⟨by decide +kernel, by decide +kernel⟩, List.mem_of_getElem? (i := 10) (by decide +kernel), List.mem_of_getElem? (i := 204) (by decide +kernel), List.mem_of_getElem? (i := 205) (by decide +kernel)⟩
theorem lw_p12 : lw_okq (⟨"BagHall", "closing", "(I)I"⟩, 17) := ⟨⟨by decide +kernel, by decide +kernel⟩, List.mem_of_getElem? (i := 10) (by decide +kernel), List.mem_of_getElem? (i := 208) (by decide +kernel), List.mem_of_getElem? (i := 209) (by decide +kernel)⟩
theorem lw_p13 : lw_okq (⟨"BagHall", "depart", "()V"⟩, 17) := ⟨⟨by decide +kernel, by decide +kernel⟩, List.mem_of_getElem? (i := 10) (by decide +kernel), List.mem_of_getElem? (i := 212) (by decide +kernel), List.mem_of_getElem? (i := 213) (by decide +kernel)⟩
theorem lw_p14 : lw_okq (⟨"BagHall", "settleBags", "(I)V"⟩, 17) := ⟨⟨by decide +kernel, by decide +kernel⟩, List.mem_of_getElem? (i := 10) (by decide +kernel), List.mem_of_getElem? (i := 216) (by decide +kernel), List.mem_of_getElem? (i := 217) (by decide +kernel)⟩
theorem lw_p15 : lw_okq (⟨"BagHall", "settle", "(I)V"⟩, 17) := ⟨⟨by decide +kernel, by decide +kernel⟩, List.mem_of_getElem? (i := 10) (by decide +kernel), List.mem_of_getElem? (i := 220) (by decide +kernel), List.mem_of_getElem? (i := 221) (by decide +kernel)⟩
def lw_privs_1 : List (MethodName × Nat) := [(⟨"BagHall", "requireRider", "(I)V"⟩, 17), (⟨"java/lang/Throwable", "fillInStackTrace", "(I)Ljava/lang/Throwable;"⟩, 6), (⟨"BagHall", "passOneMinute", "()V"⟩, 17), (⟨"BagHall", "emptyStore", "()V"⟩, 17), (⟨"BagHall", "firstToLeaveStore", "()I"⟩, 17), (⟨"BagHall", "hasOpened", "(I)Z"⟩, 17), (⟨"BagHall", "bring", "(II)V"⟩, 17), (⟨"BagHall", "scan", "(II)V"⟩, 17), (⟨"BagHall", "routeLoop", "()V"⟩, 17), (⟨"BagHall", "route", "(I)V"⟩, 17), (⟨"BagHall", "routeTo", "(I)I"⟩, 17), (⟨"BagHall", "hasClosed", "(I)Z"⟩, 17), (⟨"BagHall", "closing", "(I)I"⟩, 17), (⟨"BagHall", "depart", "()V"⟩, 17), (⟨"BagHall", "settleBags", "(I)V"⟩, 17), (⟨"BagHall", "settle", "(I)V"⟩, 17)]
theorem lw_r1 : ∀ q ∈ lw_privs_1, lw_okq q := List.forall_mem_cons.mpr ⟨lw_p0, List.forall_mem_cons.mpr ⟨lw_p1, List.forall_mem_cons.mpr ⟨lw_p2, List.forall_mem_cons.mpr ⟨lw_p3, List.forall_mem_cons.mpr ⟨lw_p4, List.forall_mem_cons.mpr ⟨lw_p5, List.forall_mem_cons.mpr ⟨lw_p6, List.forall_mem_cons.mpr ⟨lw_p7, List.forall_mem_cons.mpr ⟨lw_p8, List.forall_mem_cons.mpr ⟨lw_p9, List.forall_mem_cons.mpr ⟨lw_p10, List.forall_mem_cons.mpr ⟨lw_p11, List.forall_mem_cons.mpr ⟨lw_p12, List.forall_mem_cons.mpr ⟨lw_p13, List.forall_mem_cons.mpr ⟨lw_p14, List.forall_mem_cons.mpr ⟨lw_p15, fun _ h => absurd h List.not_mem_nil⟩⟩⟩⟩⟩⟩⟩⟩⟩⟩⟩⟩⟩⟩⟩⟩
theorem lw_p16 : lw_okq (⟨"BagHall", "mayFly", "(I)Z"⟩, 17) := ⟨⟨by decide +kernel, by decide +kernel⟩, List.mem_of_getElem? (i := 10) (by decide +kernel), List.mem_of_getElem? (i := 224) (by decide +kernel), List.mem_of_getElem? (i := 225) (by decide +kernel)⟩
theorem lw_p17 : lw_okq (⟨"BagHall", "requireBag", "(I)V"⟩, 17) := ⟨⟨by decide +kernel, by decide +kernel⟩, List.mem_of_getElem? (i := 10) (by decide +kernel), List.mem_of_getElem? (i := 240) (by decide +kernel), List.mem_of_getElem? (i := 241) (by decide +kernel)⟩
theorem lw_p18 : lw_okq (⟨"BagHall", "lowestFreeLateral", "(I)I"⟩, 17) := ⟨⟨by decide +kernel, by decide +kernel⟩, List.mem_of_getElem? (i := 10) (by decide +kernel), List.mem_of_getElem? (i := 282) (by decide +kernel), List.mem_of_getElem? (i := 283) (by decide +kernel)⟩
theorem lw_p19 : lw_okq (⟨"BagHall", "isFree", "(II)Z"⟩, 17) := ⟨⟨by decide +kernel, by decide +kernel⟩, List.mem_of_getElem? (i := 10) (by decide +kernel), List.mem_of_getElem? (i := 286) (by decide +kernel), List.mem_of_getElem? (i := 287) (by decide +kernel)⟩
theorem lw_p20 : lw_okq (⟨"BagHall", "takeIn", "(II)I"⟩, 17) := ⟨⟨by decide +kernel, by decide +kernel⟩, List.mem_of_getElem? (i := 10) (by decide +kernel), List.mem_of_getElem? (i := 300) (by decide +kernel), List.mem_of_getElem? (i := 301) (by decide +kernel)⟩
theorem lw_p21 : lw_okq (⟨"BagHall", "requireFlight", "(I)V"⟩, 17) := ⟨⟨by decide +kernel, by decide +kernel⟩, List.mem_of_getElem? (i := 10) (by decide +kernel), List.mem_of_getElem? (i := 304) (by decide +kernel), List.mem_of_getElem? (i := 305) (by decide +kernel)⟩
theorem lw_p22 : lw_okq (⟨"BagHall", "requireNotDeparted", "(I)V"⟩, 17) := ⟨⟨by decide +kernel, by decide +kernel⟩, List.mem_of_getElem? (i := 10) (by decide +kernel), List.mem_of_getElem? (i := 310) (by decide +kernel), List.mem_of_getElem? (i := 311) (by decide +kernel)⟩
theorem lw_p23 : lw_okq (⟨"BagHall", "isLoadedFor", "(II)Z"⟩, 17) := ⟨⟨by decide +kernel, by decide +kernel⟩, List.mem_of_getElem? (i := 10) (by decide +kernel), List.mem_of_getElem? (i := 340) (by decide +kernel), List.mem_of_getElem? (i := 341) (by decide +kernel)⟩
theorem lw_p24 : lw_okq (⟨"BagHall", "requireScan", "(I)V"⟩, 17) := ⟨⟨by decide +kernel, by decide +kernel⟩, List.mem_of_getElem? (i := 10) (by decide +kernel), List.mem_of_getElem? (i := 367) (by decide +kernel), List.mem_of_getElem? (i := 368) (by decide +kernel)⟩
theorem lw_p25 : lw_okq (⟨"BagHall", "requirePlace", "(II)V"⟩, 17) := ⟨⟨by decide +kernel, by decide +kernel⟩, List.mem_of_getElem? (i := 10) (by decide +kernel), List.mem_of_getElem? (i := 398) (by decide +kernel), List.mem_of_getElem? (i := 399) (by decide +kernel)⟩
theorem lw_p26 : lw_okq (⟨"BagHall", "loadedBags", "(I)I"⟩, 17) := ⟨⟨by decide +kernel, by decide +kernel⟩, List.mem_of_getElem? (i := 10) (by decide +kernel), List.mem_of_getElem? (i := 407) (by decide +kernel), List.mem_of_getElem? (i := 408) (by decide +kernel)⟩
def lw_privs_2 : List (MethodName × Nat) := [(⟨"BagHall", "mayFly", "(I)Z"⟩, 17), (⟨"BagHall", "requireBag", "(I)V"⟩, 17), (⟨"BagHall", "lowestFreeLateral", "(I)I"⟩, 17), (⟨"BagHall", "isFree", "(II)Z"⟩, 17), (⟨"BagHall", "takeIn", "(II)I"⟩, 17), (⟨"BagHall", "requireFlight", "(I)V"⟩, 17), (⟨"BagHall", "requireNotDeparted", "(I)V"⟩, 17), (⟨"BagHall", "isLoadedFor", "(II)Z"⟩, 17), (⟨"BagHall", "requireScan", "(I)V"⟩, 17), (⟨"BagHall", "requirePlace", "(II)V"⟩, 17), (⟨"BagHall", "loadedBags", "(I)I"⟩, 17)]
theorem lw_r2 : ∀ q ∈ lw_privs_2, lw_okq q := List.forall_mem_cons.mpr ⟨lw_p16, List.forall_mem_cons.mpr ⟨lw_p17, List.forall_mem_cons.mpr ⟨lw_p18, List.forall_mem_cons.mpr ⟨lw_p19, List.forall_mem_cons.mpr ⟨lw_p20, List.forall_mem_cons.mpr ⟨lw_p21, List.forall_mem_cons.mpr ⟨lw_p22, List.forall_mem_cons.mpr ⟨lw_p23, List.forall_mem_cons.mpr ⟨lw_p24, List.forall_mem_cons.mpr ⟨lw_p25, List.forall_mem_cons.mpr ⟨lw_p26, fun _ h => absurd h List.not_mem_nil⟩⟩⟩⟩⟩⟩⟩⟩⟩⟩⟩
def lw_privs : List (MethodName × Nat) := lw_privs_1 ++ (lw_privs_2)
def lw_tbl : List Cond := k2_sels lw_privs ++ tables_1
theorem lw_privs_ok : ∀ q ∈ lw_privs, lw_okq q := by
  show ∀ q ∈ lw_privs_1 ++ (lw_privs_2), lw_okq q
  exact List.forall_mem_append.mpr ⟨lw_r1, lw_r2⟩
/-! ===== BEGIN words of one list among another's, by their places ===== -/
theorem goodIn_r {big : List Cond} (ws : List Cond) (ps : List Nat) (hp : ws = ps.filterMap (fun i => big[i]?)) (h : ws.all goodWord = true) : GoodIn big ws := by
  intro w hw
  have h1 := List.all_eq_true.mp h w hw
  rw [hp] at hw
  obtain ⟨i, -, hi⟩ := List.mem_filterMap.mp hw
  have hm : w ∈ big := by first | exact List.mem_of_getElem? hi | exact List.getElem?_mem hi
  exact ⟨hm, good_of_word h1⟩
theorem goodIn_app {big a b : List Cond} (ha : GoodIn big a) (hb : GoodIn big b) : GoodIn big (a ++ b) := fun w h => (List.mem_append.mp h).elim (ha w) (hb w)
theorem goodIn_ca {big a b : List Cond} {c : Cond} (ha : GoodIn big (c :: a)) (hb : GoodIn big b) : GoodIn big (c :: (a ++ b)) := fun w h => (List.mem_cons.mp h).elim (fun e => ha w (List.mem_cons.mpr (Or.inl e))) (fun h => (List.mem_append.mp h).elim (fun h => ha w (List.mem_cons.mpr (Or.inr h))) (hb w))
theorem goodIn_sub {big ws : List Cond} (hm : ∀ w ∈ ws, w ∈ big) (h : ws.all goodWord = true) : GoodIn big ws := fun w hw => ⟨hm w hw, good_of_word (List.all_eq_true.mp h w hw)⟩
/-! ===== END ===== -/

/-! ===== BEGIN exceptions that leave a method, and their catching by the caller (launches without stack traces) ===== -/
section VXA
/-! The laws vx_back, vx_callV, vx_callS, vx_callSW, vx_throw0, vx_throwS follow proofs of the library, with one case more: JvmDerived/Free/Laws.lean (Back.of_free), Shelf42/LK1.lean (callV, callS), Shelf/KitTraced.lean (throwNew0V, throwNewS). -/
/-- where a method has thrown q: the class by its name, the cell, what was written, the world -/
def vx_T (XC : String → State → State → Prop) (st : State) (q : Addr) (t : State) (mc ms : Nat) (free : Addr → Prop) : Prop :=
  ∃ (E : String) (ce : Cell) (L : List Loc), XC E st t ∧ t.heap[q]? = some ce ∧ ce.vm = .none ∧ st.vm.findClass E = some ce.cls ∧ st.WarmedH t.vm ∧ st.sameButNew ({ t with vm := st.vm } : State) L mc ms ∧ ∀ z ∈ L, free z.base
def vx_Q (Qc : Array Value → State → Outcome → State → Prop) (XC : String → State → State → Prop) (mc ms : Nat) (free : Addr → Prop) : Array Value → State → Outcome → State → Prop := fun a st o t =>
  (Qc a st o t ∧ ∃ L, FrameEnd st o t L mc ms ∧ ∀ q ∈ L, free q.base) ∨ ∃ q, o = .threw q ∧ vx_T XC st q t mc ms free
/-- a callee that returns or throws -/
def vx_Met (l : Launch) (y : MethodName) (ws : List Cond) (rm : Room) (Pc : Array Value → State → Prop) (Qc : Array Value → State → Outcome → State → Prop) (XC : String → State → State → Prop) (mc ms : Nat) (free : Addr → Prop) : Prop :=
  MetFree l y (headSpec ws rm) Pc (fun _ _ _ _ _ => True) (vx_Q Qc XC mc ms free)
def vx_Post (XC : String → State → State → Prop) (mc ms : Nat) (free : Addr → Prop) : Pt → Array Value → Addr → Pt → Prop := fun A a q B =>
  ∃ (g : JFrame) (mk : MethodId) (t : State) (L : List Loc) (E : String) (ce : Cell), B.U.heap = t.heap ∧ B.U.vm = t.vm ∧ XC E (A.U.calling g mk a) t ∧ t.heap[q]? = some ce ∧ ce.vm = .none ∧ A.U.vm.findClass E = some ce.cls ∧ B.locs = A.locs ++ L ∧ (∀ z ∈ L, free z.base) ∧ B.cells = A.cells + mc ∧ B.slots = A.slots + ms
def vx_Back (l : Launch) (R : Room) (p : Program) (e : Env) (below : List Frame) (s : State) (sargs : Array Value) (y : MethodName) (len W9 : Nat)
    (Pre : Pt → Array Value → Prop) (Post : Pt → Array Value → Option Value → Pt → Prop) (PostX : Pt → Array Value → Addr → Pt → Prop) : Prop :=
  ∀ (m : MethodId) (meth : Method) (c : Code) (A : Pt) (g : JFrame) (ig : Instr) (mk : MethodId) (a : Array Value),
    Stand p l e R s m sargs below meth c A.U A.locs A.cells A.slots → g.method = m → g.locals.size = c.maxLocals → decode c.code g.pc = .ok (ig, len) →
    2 * g.monitorRoom + (g.stack.map fun v => v.category).sum ≤ W9 → A.U.methodNamed? y = some mk → Pre A a →
    (∃ (v : Option Value) (B : Pt), Stand p l e R s m sargs below meth c B.U B.locs B.cells B.slots ∧ Post A a v B ∧
      Steps p.tables e below (doInvoke e (A.U.setTop g) [] mk a).1 (B.U.setTop { g with pc := g.pc + len, stack := v.toList ++ g.stack })) ∨
    (∃ (q : Addr) (B : Pt), Stand p l e R s m sargs below meth c B.U B.locs B.cells B.slots ∧ PostX A a q B ∧
      Steps p.tables e below (doInvoke e (A.U.setTop g) [] mk a).1 ((B.U.setTop g).pushFrame (.throwing q)))
section Payer
variable {l : Launch} {R : Room} {p : Program} {e : Env} {below : List Frame} {s : State} {sargs : Array Value} {y : MethodName} {len W9 : Nat}
theorem vx_back {ws : List Cond} {rm : Room} {Pc : Array Value → State → Prop} {Qc : Array Value → State → Outcome → State → Prop} {XC : String → State → State → Prop} {mc ms : Nat} {free : Addr → Prop} {bytes : ByteArray} {maxL : Nat} {ret : Option FieldType}
    (hM : vx_Met l y ws rm Pc Qc XC mc ms free) (hblind : FrameBlind Pc) (hrc : rm.cells = mc) (hrs : rm.slots = ms)
    (hframes : rm.frames + 1 ≤ R.frames) (hlocals : W9 + (maxL + 11) + rm.locals ≤ R.locals)
    (hws : ∀ w ∈ ws, ∀ a' U, s.WarmedH U.vm → w.before a' U = true) (hcode : Cond.code y bytes maxL ret ∈ ws) (hinit : ∀ a' U, s.WarmedH U.vm → (Cond.initialized y.cls).before a' U = true) :
    vx_Back l R p e below s sargs y len W9 (PreOf R mc ms Pc) (PostOf Qc mc ms free) (vx_Post XC mc ms free) := by
  intro m meth c A g ig mk a X hg hsize hdg hW hn hp
  have h1 : (headSpec ws rm).pre.before a A.U = true := atoms_intro fun w hw => hws w hw _ _ X.warmed
  have h2 : (Cond.code y bytes maxL ret).before a A.U = true := hws _ hcode _ _ X.warmed
  have h3 : (Cond.initialized y.cls).before a A.U = true := hinit _ _ X.warmed
  have h4 : A.cells + (headSpec ws rm).room.cells ≤ R.cells := by rw [show (headSpec ws rm).room.cells = mc from hrc]; exact hp.1
  have h5 : A.slots + (headSpec ws rm).room.slots ≤ R.slots := by rw [show (headSpec ws rm).room.slots = ms from hrs]; exact hp.2.1
  have hPc : Pc a (A.U.calling g mk a) := hblind _ _ _ _ hp.2.2
  obtain ⟨U, Ls, c0, s0⟩ := A
  dsimp only [Pt.U, Pt.locs, Pt.cells, Pt.slots] at h1 h2 h3 h4 h5 X hn hPc ⊢
  obtain ⟨methY, cY, hmY, hcY, -, hlY, -, -, -, -⟩ := Cond.code_spec hn h2
  obtain ⟨kY, hkY, -⟩ := className_of_methodNamed hn
  have hinitY : kY.init = .initialized := Cond.initialized_spec (findClass_of_methodNamed hn) hkY h3
  have h : At U g.method c below := by rw [hg]; exact X.here
  have hlocals9 : W9 + (maxL + 11) + (headSpec ws rm).room.locals ≤ R.locals := hlocals
  have happ : (headSpec ws rm).appliesLoose y e.platform (U.calling g mk a) = true :=
    Spec.appliesLoose_calling (g := g) h hdg hn hkY hinitY
      (X.room_calling (g := g) (R' := (headSpec ws rm).room) hsize hmY hcY hframes (by rw [hlY]; omega) h4 h5) h1
  obtain ⟨mid, hmid⟩ := h.above
  have hfr : (U.setTop g).frames = (.java g :: mid) ++ below := by rw [State.frames_setTop' g h.top, hmid]; rfl
  obtain ⟨o, s₂, hsteps, -, hend, hq⟩ := Steps.callFree hM p X.admits X.cas X.clock (acts := []) hfr happ hPc trivial
  have hq' : vx_Q Qc XC mc ms free a (U.calling g mk a) o s₂ := hq
  rw [State.frames_setTop' g h.top] at hend
  obtain ⟨g₀, hg0⟩ := Option.isSome_iff_exists.mp h.top
  obtain ⟨r, hr⟩ := State.topJava?_eq_some.mp hg0
  have hr' : (({ U with heap := s₂.heap, slotsUsed := s₂.slotsUsed } : State).setVm s₂.vm).frames = .java g₀ :: r := hr
  rcases hq' with ⟨hqc, L, hfe, hL⟩ | ⟨q, rfl, E, ce, L, hx, hce, hcv, hcl, hW₂, hsm, hL⟩
  · obtain ⟨⟨v, rfl⟩, hW₂, e2, q2, q3, q4, q5, q6⟩ := id hfe
    have e3 : s₂ = ({ (U.calling g mk a).setFrames s₂.frames with heap := s₂.heap, slotsUsed := s₂.slotsUsed } : State).setVm s₂.vm := by
      have : s₂ = ({ s₂ with vm := (U.calling g mk a).vm } : State).setVm s₂.vm := rfl
      rw [e2] at this
      exact this
    obtain ⟨c₂, i₂, len₂, hc₂, hd₂, hf₂⟩ := hend
    have hW' : U.WarmedH s₂.vm := hW₂
    have hcc : c₂ = c := by
      have h1 : s₂.code? g.method = U.code? g.method := by
        rw [State.code?_eq, State.code?_eq, hW'.alike.method?]
      exact Option.some.inj (hc₂.symm.trans (h1.trans h.code))
    subst hcc
    have hlen : len₂ = len := by rw [hdg] at hd₂; cases hd₂; rfl
    subst hlen
    have hs₂ : s₂ = (({ U with heap := s₂.heap, slotsUsed := s₂.slotsUsed } : State).setVm s₂.vm).setTop { g with pc := g.pc + len₂, stack := v.toList ++ g.stack } := by
      refine e3.trans ?_
      rw [hf₂, State.calling_eq h.top, State.setFrames_setFrames, State.setTop_of_frames _ hr', hr]
      rfl
    have hsame : U.sameButNew ({ U with heap := s₂.heap, slotsUsed := s₂.slotsUsed } : State) L mc ms := by
      refine ⟨?_, q2, q3, q4, q5, q6⟩
      obtain ⟨t, ht, -⟩ := State.frames_cons hr
      show ({ U with heap := s₂.heap, slotsUsed := s₂.slotsUsed } : State) = { U.setFrames U.frames with heap := s₂.heap, slotsUsed := s₂.slotsUsed }
      rw [State.setFrames_self ht]
    subst hg
    refine Or.inl ⟨v, ⟨(({ U with heap := s₂.heap, slotsUsed := s₂.slotsUsed } : State).setVm s₂.vm), Ls ++ L, c0 + mc, s0 + ms⟩,
      ⟨X.admits, X.cas, X.clock, X.frames, X.room, X.hears, X.method, X.code, (X.here.setHeapUsed s₂.heap s₂.slotsUsed).setVm hW'.alike, X.tail, State.WarmedH.trans X.warmed hW', X.limits, X.bytes, X.same.trans (hsame.setVm s.vm)⟩,
      ⟨g, mk, s₂, L, rfl, rfl, hqc, rfl, hL, rfl, rfl⟩, ?_⟩
    show Steps p.tables e below _ ((({ U with heap := s₂.heap, slotsUsed := s₂.slotsUsed } : State).setVm s₂.vm).setTop { g with pc := g.pc + len₂, stack := v.toList ++ g.stack })
    rw [← hs₂]
    exact hsteps
  · obtain ⟨e2, q2, q3, q4, q5, q6⟩ := id hsm
    have e3 : s₂ = ({ (U.calling g mk a).setFrames s₂.frames with heap := s₂.heap, slotsUsed := s₂.slotsUsed } : State).setVm s₂.vm := by
      have : s₂ = ({ s₂ with vm := (U.calling g mk a).vm } : State).setVm s₂.vm := rfl
      rw [e2] at this
      exact this
    have hf₂ : s₂.frames = .throwing q :: .java g :: U.frames.tail := hend
    have hW' : U.WarmedH s₂.vm := hW₂
    have hs₂ : s₂ = ((({ U with heap := s₂.heap, slotsUsed := s₂.slotsUsed } : State).setVm s₂.vm).setTop g).pushFrame (.throwing q) := by
      refine e3.trans ?_
      rw [hf₂, State.calling_eq h.top, State.setFrames_setFrames, State.pushFrame, State.frames_setTop _ hr', State.setTop_of_frames _ hr', State.setFrames_setFrames, hr]
      rfl
    have hsame : U.sameButNew ({ U with heap := s₂.heap, slotsUsed := s₂.slotsUsed } : State) L mc ms := by
      refine ⟨?_, q2, q3, q4, q5, q6⟩
      obtain ⟨t, ht, -⟩ := State.frames_cons hr
      show ({ U with heap := s₂.heap, slotsUsed := s₂.slotsUsed } : State) = { U.setFrames U.frames with heap := s₂.heap, slotsUsed := s₂.slotsUsed }
      rw [State.setFrames_self ht]
    subst hg
    refine Or.inr ⟨q, ⟨(({ U with heap := s₂.heap, slotsUsed := s₂.slotsUsed } : State).setVm s₂.vm), Ls ++ L, c0 + mc, s0 + ms⟩,
      ⟨X.admits, X.cas, X.clock, X.frames, X.room, X.hears, X.method, X.code, (X.here.setHeapUsed s₂.heap s₂.slotsUsed).setVm hW'.alike, X.tail, State.WarmedH.trans X.warmed hW', X.limits, X.bytes, X.same.trans (hsame.setVm s.vm)⟩,
      ⟨g, mk, s₂, L, E, ce, rfl, rfl, hx, hce, hcv, hcl, rfl, hL, rfl, rfl⟩, ?_⟩
    show Steps p.tables e below _ (((({ U with heap := s₂.heap, slotsUsed := s₂.slotsUsed } : State).setVm s₂.vm).setTop g).pushFrame (.throwing q))
    rw [← hs₂]
    exact hsteps
end Payer
section Calls
variable {p : Program} {l : Launch} {e : Env} {R : Room} {s : State} {m : MethodId} {args : Array Value} {below : List Frame} {meth : Method} {c : Code} {T : State} {locs : List Loc} {cells slots : Nat}
theorem vx_callV (X : Stand p l e R s m args below meth c T locs cells slots) (hexec : p.tables.exec = Jvm.exec) {own C : String} {index : Nat} {y : MethodName} {bytes : ByteArray} {maxL : Nat} {ret : Option FieldType}
    (hown : s.vm.findClass own = some m.cls) (hlink : (Cond.methodLink own index y).before args s = true) (hinst : (Cond.instanceMethod y).before args s = true) (hsel : (Cond.selects C y y).before args s = true)
    (hcode : (Cond.code y bytes maxL ret).before args s = true) (hy : y.cls ≠ "java/lang/invoke/MethodHandle" ∧ y.cls ≠ "java/lang/invoke/VarHandle")
    {W9 : Nat} {Pre : Pt → Array Value → Prop} {Post : Pt → Array Value → Option Value → Pt → Prop} {PostX : Pt → Array Value → Addr → Pt → Prop} (hK : vx_Back l R p e below s args y 3 W9 Pre Post PostX)
    {b : Addr} {cellB : Cell} (hcell : T.heap[b]? = some cellB) (hobj : cellB.vm.isStatics = false) (hcls : s.vm.findClass C = some cellB.cls)
    {g : JFrame} (hg : g.method = m) (hsize : g.locals.size = c.maxLocals) {argsL rest : List Value} (hlen : ∀ sig, parseMethodDescriptor y.desc = some sig → argsL.length = sig.parameters.length)
    (hstack : g.stack = argsL.reverse ++ .ref b :: rest) (hW : 2 * g.monitorRoom + (rest.map fun v => v.category).sum ≤ W9) (hdg : decode c.code g.pc = .ok (.invokevirtual index, 3))
    (hpre : ∀ vm₁, s.WarmedH vm₁ → Pre ⟨T.setVm vm₁, locs, cells, slots⟩ (Value.ref b :: argsL).toArray) :
    (∃ (v : Option Value) (vm₁ : Vm) (B : Pt), s.WarmedH vm₁ ∧ Stand p l e R s m args below meth c B.U B.locs B.cells B.slots ∧ Post ⟨T.setVm vm₁, locs, cells, slots⟩ (Value.ref b :: argsL).toArray v B ∧
      ∀ target, Steps p.tables e below (B.U.setTop { g with pc := g.pc + 3, stack := v.toList ++ rest }) target → Steps p.tables e below (T.setTop g) target) ∨
    (∃ (q : Addr) (vm₁ : Vm) (B : Pt), s.WarmedH vm₁ ∧ Stand p l e R s m args below meth c B.U B.locs B.cells B.slots ∧ PostX ⟨T.setVm vm₁, locs, cells, slots⟩ (Value.ref b :: argsL).toArray q B ∧
      Steps p.tables e below (T.setTop g) ((B.U.setTop { g with stack := rest }).pushFrame (.throwing q))) := by
  obtain ⟨mk, methM, hnamed, hmethM, hstM, habM⟩ := Cond.instanceMethod_spec hinst
  obtain ⟨methM', cM, hmethM', -, -, -, -, -, -, hsigM⟩ := Cond.code_spec hnamed hcode
  cases hmethM.symm.trans hmethM'
  obtain ⟨c2, r2, m2, q1, q2, q3, q4, kP, hkP, hkPi⟩ := Cond.selects_spec hsel
  cases hcls.symm.trans q1
  cases (State.methodFound?_of_named hnamed hy).symm.trans q2
  cases hnamed.symm.trans q3
  have hselP : selectMethod e.platform s.vm cellB.cls mk = .method mk := by rw [Launch.admits_selectMethod X.admits]; exact q4
  obtain ⟨vm₁, X₁, hstep₁⟩ := X.invokevirtual hexec hown hlink hnamed hmethM hstM hkP hkPi hy (a := b) (cell := cellB) hcell
    (fun z h => by rw [h] at hobj; cases hobj) hselP hmethM habM hkP hkPi (g := g) hg (argsL := argsL) (rest := rest) (hlen _ hsigM) hstack hdg
  rcases hK m meth c ⟨T.setVm vm₁, locs, cells, slots⟩ { g with stack := rest } (.invokevirtual index) mk (Value.ref b :: argsL).toArray X₁ hg hsize hdg hW (X₁.named hnamed) (hpre vm₁ X₁.warmed) with ⟨v, B, X', hpost, hsteps⟩ | ⟨q, B, X', hpost, hsteps⟩
  · exact Or.inl ⟨v, vm₁, B, X₁.warmed, X', hpost, fun target h => hstep₁ _ fun acts => by rw [doInvoke_state]; exact hsteps.trans h⟩
  · exact Or.inr ⟨q, vm₁, B, X₁.warmed, X', hpost, hstep₁ _ fun acts => by rw [doInvoke_state]; exact hsteps⟩
theorem vx_callS (X : Stand p l e R s m args below meth c T locs cells slots) (hexec : p.tables.exec = Jvm.exec) {own : String} {index : Nat} {y : MethodName} {bytes : ByteArray} {maxL : Nat} {ret : Option FieldType}
    (hown : s.vm.findClass own = some m.cls) (hlink : (Cond.methodLink own index y).before args s = true) (hstat : (Cond.static y).before args s = true) (hinit : (Cond.initialized y.cls).before args s = true)
    (hcode : (Cond.code y bytes maxL ret).before args s = true) (hy : y.cls ≠ "java/lang/invoke/MethodHandle" ∧ y.cls ≠ "java/lang/invoke/VarHandle")
    {W9 : Nat} {Pre : Pt → Array Value → Prop} {Post : Pt → Array Value → Option Value → Pt → Prop} {PostX : Pt → Array Value → Addr → Pt → Prop} (hK : vx_Back l R p e below s args y 3 W9 Pre Post PostX)
    {g : JFrame} (hg : g.method = m) (hsize : g.locals.size = c.maxLocals) {argsL rest : List Value} (hlen : ∀ sig, parseMethodDescriptor y.desc = some sig → argsL.length = sig.parameters.length)
    (hstack : g.stack = argsL.reverse ++ rest) (hW : 2 * g.monitorRoom + (rest.map fun v => v.category).sum ≤ W9) (hdg : decode c.code g.pc = .ok (.invokestatic index, 3))
    (hpre : ∀ vm₁, s.WarmedH vm₁ → Pre ⟨T.setVm vm₁, locs, cells, slots⟩ argsL.toArray) :
    (∃ (v : Option Value) (vm₁ : Vm) (B : Pt), s.WarmedH vm₁ ∧ Stand p l e R s m args below meth c B.U B.locs B.cells B.slots ∧ Post ⟨T.setVm vm₁, locs, cells, slots⟩ argsL.toArray v B ∧
      ∀ target, Steps p.tables e below (B.U.setTop { g with pc := g.pc + 3, stack := v.toList ++ rest }) target → Steps p.tables e below (T.setTop g) target) ∨
    (∃ (q : Addr) (vm₁ : Vm) (B : Pt), s.WarmedH vm₁ ∧ Stand p l e R s m args below meth c B.U B.locs B.cells B.slots ∧ PostX ⟨T.setVm vm₁, locs, cells, slots⟩ argsL.toArray q B ∧
      Steps p.tables e below (T.setTop g) ((B.U.setTop { g with stack := rest }).pushFrame (.throwing q))) := by
  obtain ⟨mk, hnamed⟩ := Cond.code_named hcode
  obtain ⟨methM, cM, hmethM, -, -, -, -, -, -, hsigM⟩ := Cond.code_spec hnamed hcode
  have hstatic : methM.isStatic = true := Cond.static_spec hnamed hmethM hstat
  obtain ⟨kP, hkP, -⟩ := className_of_methodNamed hnamed
  have hinitP : kP.init = .initialized := Cond.initialized_spec (findClass_of_methodNamed hnamed) hkP hinit
  obtain ⟨vm₁, X₁, hstep₁⟩ := X.invokestatic hexec hown hlink hnamed hmethM hstatic hkP hinitP hy (g := g) hg (argsL := argsL) (rest := rest) (hlen _ hsigM) hstack hdg
  rcases hK m meth c ⟨T.setVm vm₁, locs, cells, slots⟩ { g with stack := rest } (.invokestatic index) mk argsL.toArray X₁ hg hsize hdg hW (X₁.named hnamed) (hpre vm₁ X₁.warmed) with ⟨v, B, X', hpost, hsteps⟩ | ⟨q, B, X', hpost, hsteps⟩
  · exact Or.inl ⟨v, vm₁, B, X₁.warmed, X', hpost, fun target h => hstep₁ _ fun acts => by rw [doInvoke_state]; exact hsteps.trans h⟩
  · exact Or.inr ⟨q, vm₁, B, X₁.warmed, X', hpost, hstep₁ _ fun acts => by rw [doInvoke_state]; exact hsteps⟩
end Calls
theorem vx_cls {s : State} {T : State} {vm₁ : Vm} {E : String} {k : ClassId} (hW : s.WarmedH vm₁) (h : (T.setVm vm₁).vm.findClass E = some k) : s.vm.findClass E = some k := by
  have h1 : vm₁.findClass E = some k := h
  rw [hW.alike.findClass] at h1
  exact h1
/-- the method's frame g, with q thrown over it -/
def vx_W (p : Program) (l : Launch) (e : Env) (R : Room) (s : State) (m : MethodId) (args : Array Value) (below : List Frame) (meth : Method) (c : Code) (H : Heap) (locs : List Loc) (cells slots : Nat) (Q : State → Prop) (g : JFrame) (q : Addr) : Prop :=
  ∀ T : State, T.heap = H → Stand p l e R s m args below meth c T locs cells slots → ∃ t, Steps p.tables e below ((T.setTop g).pushFrame (.throwing q)) t ∧ Q t
def vx_Run (p : Program) (l : Launch) (e : Env) (R : Room) (s : State) (m : MethodId) (args : Array Value) (below : List Frame) (meth : Method) (c : Code) (H : Heap) (locs : List Loc) (cells slots mc ms : Nat) (g : JFrame) (rest : List Value) (Qa : State → Outcome → State → Prop) (XC : String → State → State → Prop) (free : Addr → Prop) : Prop :=
  ∀ T : State, T.heap = H → Stand p l e R s m args below meth c T locs cells slots →
    (∃ (v : Option Value) (st₀ t T' : State) (L : List Loc), st₀.heap = H ∧ Stand p l e R s m args below meth c T' (locs ++ L) (cells + mc) (slots + ms) ∧ (∀ q ∈ L, free q.base) ∧ T'.heap = t.heap ∧ T'.vm = t.vm ∧ Qa st₀ (.returned v) t ∧
      Goes p e below T g T' { g with pc := g.pc + 3, stack := v.toList ++ rest }) ∨
    (∃ (q : Addr) (st₀ t T' : State) (L : List Loc) (E : String) (ce : Cell), st₀.heap = H ∧ Stand p l e R s m args below meth c T' (locs ++ L) (cells + mc) (slots + ms) ∧ (∀ z ∈ L, free z.base) ∧ T'.heap = t.heap ∧ T'.vm = t.vm ∧ XC E st₀ t ∧ t.heap[q]? = some ce ∧ ce.vm = .none ∧ s.vm.findClass E = some ce.cls ∧
      Steps p.tables e below (T.setTop g) ((T'.setTop { g with stack := rest }).pushFrame (.throwing q)))
def vx_X {S : Type} (px : S → Prop) (B : String → S → State → Prop) (A : Nat → Prop) : String → State → State → Prop := fun E st t => ∃ u : S, px u ∧ B E u t ∧ va_F A st t
section Runs
variable {p : Program} {l : Launch} {e : Env} {R : Room} {s : State} {m : MethodId} {args : Array Value} {below : List Frame} {meth : Method} {c : Code} {H : Heap} {locs : List Loc} {cells slots : Nat}
variable {y : MethodName} {bytes cc : ByteArray} {maxL nL mc ms n index : Nat} {ret : Option FieldType} {ws : List Cond} {rm : Room} {Pc : Array Value → State → Prop} {Qc : Array Value → State → Outcome → State → Prop} {XC : String → State → State → Prop} {free : Addr → Prop} {Ts : List Cond} {own C : String} {b : Addr} {As rest : List Value} {g : JFrame}
theorem vx_callBack (cb : CallB R s args own index y bytes maxL ret ws rm mc ms n) (hM : vx_Met l y ws rm Pc Qc XC mc ms free) (hbl : FrameBlind Pc) : vx_Back l R p e below s args y 3 8 (PreOf R mc ms Pc) (PostOf Qc mc ms free) (vx_Post XC mc ms free) := by
  obtain ⟨hrc, hrs, hfr, hlo, hws, hcw, -, hini, -⟩ := cb
  exact vx_back (bytes := bytes) (maxL := maxL) (ret := ret) hM hbl hrc hrs hfr hlo hws hcw (fun a' U hW => word_at hW (Or.inl (by first | rfl | simp [Cond.onTables, Cond.keeps, Cond.steady])) hini)
theorem vx_runV (S : CallFix p m c cc nL s args Ts own) (hM : vx_Met l y ws rm Pc Qc XC mc ms free) (cw : CallW R s args own C index y bytes maxL ret ws rm mc ms n) (hp : PreV s H C b Pc As)
    (hg : g.method = m) (hn : As.length = n) (hsize : g.locals.size = nL) (hstack : g.stack = As.reverse ++ .ref b :: rest) (hW : 2 * g.monitorRoom + (rest.map fun v => v.category).sum ≤ 8) (hdg : decode cc g.pc = .ok (.invokevirtual index, 3)) (hf : cells + mc ≤ R.cells ∧ slots + ms ≤ R.slots) :
    vx_Run p l e R s m args below meth c H locs cells slots mc ms g rest (Qc (Value.ref b :: As).toArray) XC free := by
  have hK : vx_Back l R p e below s args y 3 8 (PreOf R mc ms Pc) (PostOf Qc mc ms free) (vx_Post XC mc ms free) := vx_callBack cw.1 hM hp.1
  obtain ⟨⟨-, -, -, -, -, -, hcode, -, hy, hlen, hl⟩, hin, hse⟩ := cw
  obtain ⟨hx, hb, hml, ho, -⟩ := S
  obtain ⟨-, ⟨cellB, hcB, hoB, hclB⟩, hPc⟩ := hp
  intro T hT X
  rcases vx_callV X hx (C := C) (bytes := bytes) (maxL := maxL) (ret := ret) ho hl hin hse hcode hy hK (by rw [hT]; exact hcB) hoB hclB hg (hsize.trans hml.symm) (argsL := As) (rest := rest) (fun sig h => hn.trans (hlen sig h)) hstack hW (by rw [hb]; exact hdg)
    (fun vm₁ hW₁ => ⟨hf.1, hf.2, hPc (T.setVm vm₁) hT hW₁⟩) with ⟨v, vm₁, ⟨U', l2, c2, s2⟩, hW₁, X', ⟨g', mk, t, L, e1, e2, hq, h1, hL, h2, h3⟩, st⟩ | ⟨q, vm₁, ⟨U', l2, c2, s2⟩, hW₁, X', ⟨g', mk, t, L, E, ce, e1, e2, hq, hce, hcv, hcl, h1, hL, h2, h3⟩, st⟩
  · dsimp only [Pt.U, Pt.locs, Pt.cells, Pt.slots] at X' e1 e2 h1 h2 h3 st
    subst h1; subst h2; subst h3
    exact Or.inl ⟨v, (T.setVm vm₁).calling g' mk (Value.ref b :: As).toArray, t, U', L, hT, X', hL, e1, e2, hq, st⟩
  · dsimp only [Pt.U, Pt.locs, Pt.cells, Pt.slots] at X' e1 e2 h1 h2 h3 st hcl
    subst h1; subst h2; subst h3
    exact Or.inr ⟨q, (T.setVm vm₁).calling g' mk (Value.ref b :: As).toArray, t, U', L, E, ce, hT, X', hL, e1, e2, hq, hce, hcv, vx_cls hW₁ hcl, st⟩
theorem vx_runS (S : CallFix p m c cc nL s args Ts own) (hM : vx_Met l y ws rm Pc Qc XC mc ms free) (cw : CallB R s args own index y bytes maxL ret ws rm mc ms n ∧ (Cond.static y).before args s = true) (hp : PreS s H Pc As)
    (hg : g.method = m) (hn : As.length = n) (hsize : g.locals.size = nL) (hstack : g.stack = As.reverse ++ rest) (hW : 2 * g.monitorRoom + (rest.map fun v => v.category).sum ≤ 8) (hdg : decode cc g.pc = .ok (.invokestatic index, 3)) (hf : cells + mc ≤ R.cells ∧ slots + ms ≤ R.slots) :
    vx_Run p l e R s m args below meth c H locs cells slots mc ms g rest (Qc As.toArray) XC free := by
  have hK : vx_Back l R p e below s args y 3 8 (PreOf R mc ms Pc) (PostOf Qc mc ms free) (vx_Post XC mc ms free) := vx_callBack cw.1 hM hp.1
  obtain ⟨⟨-, -, -, -, -, -, hcode, hini, hy, hlen, hl⟩, hstt⟩ := cw
  obtain ⟨hx, hb, hml, ho, -⟩ := S
  intro T hT X
  rcases vx_callS X hx (bytes := bytes) (maxL := maxL) (ret := ret) ho hl hstt hini hcode hy hK hg (hsize.trans hml.symm) (argsL := As) (rest := rest) (fun sig h => hn.trans (hlen sig h)) hstack hW (by rw [hb]; exact hdg)
    (fun vm₁ hW₁ => ⟨hf.1, hf.2, hp.2 (T.setVm vm₁) hT hW₁⟩) with ⟨v, vm₁, ⟨U', l2, c2, s2⟩, hW₁, X', ⟨g', mk, t, L, e1, e2, hq, h1, hL, h2, h3⟩, st⟩ | ⟨q, vm₁, ⟨U', l2, c2, s2⟩, hW₁, X', ⟨g', mk, t, L, E, ce, e1, e2, hq, hce, hcv, hcl, h1, hL, h2, h3⟩, st⟩
  · dsimp only [Pt.U, Pt.locs, Pt.cells, Pt.slots] at X' e1 e2 h1 h2 h3 st
    subst h1; subst h2; subst h3
    exact Or.inl ⟨v, (T.setVm vm₁).calling g' mk As.toArray, t, U', L, hT, X', hL, e1, e2, hq, st⟩
  · dsimp only [Pt.U, Pt.locs, Pt.cells, Pt.slots] at X' e1 e2 h1 h2 h3 st hcl
    subst h1; subst h2; subst h3
    exact Or.inr ⟨q, (T.setVm vm₁).calling g' mk As.toArray, t, U', L, E, ce, hT, X', hL, e1, e2, hq, hce, hcv, vx_cls hW₁ hcl, st⟩
end Runs
section Rows
variable {p : Program} {l : Launch} {e : Env} {R : Room} {s : State} {m : MethodId} {args : Array Value} {below : List Frame} {meth : Method} {c : Code} {H : Heap} {locs : List Loc} {cells slots : Nat} {Q : State → Prop}
variable {mc ms : Nat} {free : Addr → Prop} {A0 A1 : Nat → Prop} {H0 : Heap} {a : Array Value} {pc : Nat} {ls : Array Slot} {st0 rest : List Value}
theorem vx_keep {st₀ t T' : State} {L : List Loc} (h0 : st₀.heap = H) (e1 : T'.heap = t.heap) (hS : va_S A0 H0 H locs) (hA : ∀ q, q < H.size → A1 q → A0 q) (hf : ∀ q, free q → A0 q) (hL : ∀ q ∈ L, free q.base) (hF : va_F A1 st₀ t) :
    H.size ≤ T'.heap.size ∧ (∀ q : Nat, q < H.size → ¬ A1 q → T'.heap[q]? = H[q]?) ∧ va_S A0 H0 T'.heap (locs ++ L) := by
  obtain ⟨hz, hk⟩ := hF
  rw [h0] at hz hk
  exact ⟨by rw [e1]; exact hz, fun q h1 h2 => by rw [e1]; exact hk q h1 h2,
    ⟨Nat.le_trans hS.1 (by rw [e1]; exact hz), fun q h1 h2 => by rw [e1, hk q (Nat.lt_of_lt_of_le h1 hS.1) (fun z => h2 (hA q (Nat.lt_of_lt_of_le h1 hS.1) z))]; exact hS.2.1 q h1 h2, fun q hq => by
      rcases List.mem_append.mp hq with h | h
      · exact hS.2.2 q h
      · exact hf _ (hL q h)⟩⟩
theorem vx_calli {S SX : Type} {post : Int32 → S → Prop} {px : SX → Prop} {B : S → State → Prop} {BX : String → SX → State → Prop} {AX : Nat → Prop} (hr : vx_Run p l e R s m args below meth c H locs cells slots mc ms (F0 m pc ls st0) rest (va_Qi post B A1 a) (vx_X px BX AX) free) (hS : va_S A0 H0 H locs) (hA : ∀ q, q < H.size → A1 q → A0 q) (hf : ∀ q, free q → A0 q) (hAX : ∀ q, q < H.size → AX q → A0 q)
    (kx : ∀ (E : String) (ce : Cell) (q9 : Addr) (u : SX) (t : State) (H1 : Heap) (locs1 : List Loc), t.heap = H1 → s.vm.Alike t.vm → px u → BX E u t → H.size ≤ H1.size → (∀ q : Nat, q < H.size → ¬ AX q → H1[q]? = H[q]?) → va_S A0 H0 H1 locs1 → H1[q9]? = some ce → ce.vm = .none → s.vm.findClass E = some ce.cls → vx_W p l e R s m args below meth c H1 locs1 (cells + mc) (slots + ms) Q (F0 m pc ls rest) q9)
    (kk : ∀ (r : Int32) (u : S) (t : State) (H1 : Heap) (locs1 : List Loc), t.heap = H1 → s.vm.Alike t.vm → post r u → B u t → H.size ≤ H1.size → (∀ q : Nat, q < H.size → ¬ A1 q → H1[q]? = H[q]?) → va_S A0 H0 H1 locs1 → W p l e R s m args below meth c H1 locs1 (cells + mc) (slots + ms) Q (F0 m (pc + 3) ls (.int r :: rest))) : W p l e R s m args below meth c H locs cells slots Q (F0 m pc ls st0) := by
  intro T hT X
  rcases hr T hT X with ⟨v, st₀, t, T', L, h0, X', hL, e1, e2, ⟨⟨r, u, hv, hp, hb⟩, hF⟩, st⟩ | ⟨q, st₀, t, T', L, E, ce, h0, X', hL, e1, e2, ⟨u, hp, hb, hF⟩, hce, hcv, hcl, st⟩
  · cases hv
    obtain ⟨k1, k2, k3⟩ := vx_keep h0 e1 hS hA hf hL hF
    obtain ⟨t2, a1, b1⟩ := kk r u t T'.heap (locs ++ L) e1.symm (by rw [← e2]; exact X'.warmed.alike) hp hb k1 k2 k3 T' rfl X'
    exact ⟨t2, st t2 a1, b1⟩
  · obtain ⟨k1, k2, k3⟩ := vx_keep h0 e1 hS hAX hf hL hF
    obtain ⟨t2, a1, b1⟩ := kx E ce q u t T'.heap (locs ++ L) e1.symm (by rw [← e2]; exact X'.warmed.alike) hp hb k1 k2 k3 (by rw [e1]; exact hce) hcv hcl T' rfl X'
    exact ⟨t2, st.trans a1, b1⟩
theorem vx_calll {S SX : Type} {post : Int64 → S → Prop} {px : SX → Prop} {B : S → State → Prop} {BX : String → SX → State → Prop} {AX : Nat → Prop} (hr : vx_Run p l e R s m args below meth c H locs cells slots mc ms (F0 m pc ls st0) rest (va_Ql post B A1 a) (vx_X px BX AX) free) (hS : va_S A0 H0 H locs) (hA : ∀ q, q < H.size → A1 q → A0 q) (hf : ∀ q, free q → A0 q) (hAX : ∀ q, q < H.size → AX q → A0 q)
    (kx : ∀ (E : String) (ce : Cell) (q9 : Addr) (u : SX) (t : State) (H1 : Heap) (locs1 : List Loc), t.heap = H1 → s.vm.Alike t.vm → px u → BX E u t → H.size ≤ H1.size → (∀ q : Nat, q < H.size → ¬ AX q → H1[q]? = H[q]?) → va_S A0 H0 H1 locs1 → H1[q9]? = some ce → ce.vm = .none → s.vm.findClass E = some ce.cls → vx_W p l e R s m args below meth c H1 locs1 (cells + mc) (slots + ms) Q (F0 m pc ls rest) q9)
    (kk : ∀ (r : Int64) (u : S) (t : State) (H1 : Heap) (locs1 : List Loc), t.heap = H1 → s.vm.Alike t.vm → post r u → B u t → H.size ≤ H1.size → (∀ q : Nat, q < H.size → ¬ A1 q → H1[q]? = H[q]?) → va_S A0 H0 H1 locs1 → W p l e R s m args below meth c H1 locs1 (cells + mc) (slots + ms) Q (F0 m (pc + 3) ls (.long r :: rest))) : W p l e R s m args below meth c H locs cells slots Q (F0 m pc ls st0) := by
  intro T hT X
  rcases hr T hT X with ⟨v, st₀, t, T', L, h0, X', hL, e1, e2, ⟨⟨r, u, hv, hp, hb⟩, hF⟩, st⟩ | ⟨q, st₀, t, T', L, E, ce, h0, X', hL, e1, e2, ⟨u, hp, hb, hF⟩, hce, hcv, hcl, st⟩
  · cases hv
    obtain ⟨k1, k2, k3⟩ := vx_keep h0 e1 hS hA hf hL hF
    obtain ⟨t2, a1, b1⟩ := kk r u t T'.heap (locs ++ L) e1.symm (by rw [← e2]; exact X'.warmed.alike) hp hb k1 k2 k3 T' rfl X'
    exact ⟨t2, st t2 a1, b1⟩
  · obtain ⟨k1, k2, k3⟩ := vx_keep h0 e1 hS hAX hf hL hF
    obtain ⟨t2, a1, b1⟩ := kx E ce q u t T'.heap (locs ++ L) e1.symm (by rw [← e2]; exact X'.warmed.alike) hp hb k1 k2 k3 (by rw [e1]; exact hce) hcv hcl T' rfl X'
    exact ⟨t2, st.trans a1, b1⟩
theorem vx_callf {S SX : Type} {post : UInt32 → S → Prop} {px : SX → Prop} {B : S → State → Prop} {BX : String → SX → State → Prop} {AX : Nat → Prop} (hr : vx_Run p l e R s m args below meth c H locs cells slots mc ms (F0 m pc ls st0) rest (va_Qf post B A1 a) (vx_X px BX AX) free) (hS : va_S A0 H0 H locs) (hA : ∀ q, q < H.size → A1 q → A0 q) (hf : ∀ q, free q → A0 q) (hAX : ∀ q, q < H.size → AX q → A0 q)
    (kx : ∀ (E : String) (ce : Cell) (q9 : Addr) (u : SX) (t : State) (H1 : Heap) (locs1 : List Loc), t.heap = H1 → s.vm.Alike t.vm → px u → BX E u t → H.size ≤ H1.size → (∀ q : Nat, q < H.size → ¬ AX q → H1[q]? = H[q]?) → va_S A0 H0 H1 locs1 → H1[q9]? = some ce → ce.vm = .none → s.vm.findClass E = some ce.cls → vx_W p l e R s m args below meth c H1 locs1 (cells + mc) (slots + ms) Q (F0 m pc ls rest) q9)
    (kk : ∀ (r : UInt32) (u : S) (t : State) (H1 : Heap) (locs1 : List Loc), t.heap = H1 → s.vm.Alike t.vm → post r u → B u t → H.size ≤ H1.size → (∀ q : Nat, q < H.size → ¬ A1 q → H1[q]? = H[q]?) → va_S A0 H0 H1 locs1 → W p l e R s m args below meth c H1 locs1 (cells + mc) (slots + ms) Q (F0 m (pc + 3) ls (.float r :: rest))) : W p l e R s m args below meth c H locs cells slots Q (F0 m pc ls st0) := by
  intro T hT X
  rcases hr T hT X with ⟨v, st₀, t, T', L, h0, X', hL, e1, e2, ⟨⟨r, u, hv, hp, hb⟩, hF⟩, st⟩ | ⟨q, st₀, t, T', L, E, ce, h0, X', hL, e1, e2, ⟨u, hp, hb, hF⟩, hce, hcv, hcl, st⟩
  · cases hv
    obtain ⟨k1, k2, k3⟩ := vx_keep h0 e1 hS hA hf hL hF
    obtain ⟨t2, a1, b1⟩ := kk r u t T'.heap (locs ++ L) e1.symm (by rw [← e2]; exact X'.warmed.alike) hp hb k1 k2 k3 T' rfl X'
    exact ⟨t2, st t2 a1, b1⟩
  · obtain ⟨k1, k2, k3⟩ := vx_keep h0 e1 hS hAX hf hL hF
    obtain ⟨t2, a1, b1⟩ := kx E ce q u t T'.heap (locs ++ L) e1.symm (by rw [← e2]; exact X'.warmed.alike) hp hb k1 k2 k3 (by rw [e1]; exact hce) hcv hcl T' rfl X'
    exact ⟨t2, st.trans a1, b1⟩
theorem vx_calld {S SX : Type} {post : UInt64 → S → Prop} {px : SX → Prop} {B : S → State → Prop} {BX : String → SX → State → Prop} {AX : Nat → Prop} (hr : vx_Run p l e R s m args below meth c H locs cells slots mc ms (F0 m pc ls st0) rest (va_Qd post B A1 a) (vx_X px BX AX) free) (hS : va_S A0 H0 H locs) (hA : ∀ q, q < H.size → A1 q → A0 q) (hf : ∀ q, free q → A0 q) (hAX : ∀ q, q < H.size → AX q → A0 q)
    (kx : ∀ (E : String) (ce : Cell) (q9 : Addr) (u : SX) (t : State) (H1 : Heap) (locs1 : List Loc), t.heap = H1 → s.vm.Alike t.vm → px u → BX E u t → H.size ≤ H1.size → (∀ q : Nat, q < H.size → ¬ AX q → H1[q]? = H[q]?) → va_S A0 H0 H1 locs1 → H1[q9]? = some ce → ce.vm = .none → s.vm.findClass E = some ce.cls → vx_W p l e R s m args below meth c H1 locs1 (cells + mc) (slots + ms) Q (F0 m pc ls rest) q9)
    (kk : ∀ (r : UInt64) (u : S) (t : State) (H1 : Heap) (locs1 : List Loc), t.heap = H1 → s.vm.Alike t.vm → post r u → B u t → H.size ≤ H1.size → (∀ q : Nat, q < H.size → ¬ A1 q → H1[q]? = H[q]?) → va_S A0 H0 H1 locs1 → W p l e R s m args below meth c H1 locs1 (cells + mc) (slots + ms) Q (F0 m (pc + 3) ls (.double r :: rest))) : W p l e R s m args below meth c H locs cells slots Q (F0 m pc ls st0) := by
  intro T hT X
  rcases hr T hT X with ⟨v, st₀, t, T', L, h0, X', hL, e1, e2, ⟨⟨r, u, hv, hp, hb⟩, hF⟩, st⟩ | ⟨q, st₀, t, T', L, E, ce, h0, X', hL, e1, e2, ⟨u, hp, hb, hF⟩, hce, hcv, hcl, st⟩
  · cases hv
    obtain ⟨k1, k2, k3⟩ := vx_keep h0 e1 hS hA hf hL hF
    obtain ⟨t2, a1, b1⟩ := kk r u t T'.heap (locs ++ L) e1.symm (by rw [← e2]; exact X'.warmed.alike) hp hb k1 k2 k3 T' rfl X'
    exact ⟨t2, st t2 a1, b1⟩
  · obtain ⟨k1, k2, k3⟩ := vx_keep h0 e1 hS hAX hf hL hF
    obtain ⟨t2, a1, b1⟩ := kx E ce q u t T'.heap (locs ++ L) e1.symm (by rw [← e2]; exact X'.warmed.alike) hp hb k1 k2 k3 (by rw [e1]; exact hce) hcv hcl T' rfl X'
    exact ⟨t2, st.trans a1, b1⟩
theorem vx_callv {S SX : Type} {post : S → Prop} {px : SX → Prop} {B : S → State → Prop} {BX : String → SX → State → Prop} {AX : Nat → Prop} (hr : vx_Run p l e R s m args below meth c H locs cells slots mc ms (F0 m pc ls st0) rest (va_Qv post B A1 a) (vx_X px BX AX) free) (hS : va_S A0 H0 H locs) (hA : ∀ q, q < H.size → A1 q → A0 q) (hf : ∀ q, free q → A0 q) (hAX : ∀ q, q < H.size → AX q → A0 q)
    (kx : ∀ (E : String) (ce : Cell) (q9 : Addr) (u : SX) (t : State) (H1 : Heap) (locs1 : List Loc), t.heap = H1 → s.vm.Alike t.vm → px u → BX E u t → H.size ≤ H1.size → (∀ q : Nat, q < H.size → ¬ AX q → H1[q]? = H[q]?) → va_S A0 H0 H1 locs1 → H1[q9]? = some ce → ce.vm = .none → s.vm.findClass E = some ce.cls → vx_W p l e R s m args below meth c H1 locs1 (cells + mc) (slots + ms) Q (F0 m pc ls rest) q9)
    (kk : ∀ (u : S) (t : State) (H1 : Heap) (locs1 : List Loc), t.heap = H1 → s.vm.Alike t.vm → post u → B u t → H.size ≤ H1.size → (∀ q : Nat, q < H.size → ¬ A1 q → H1[q]? = H[q]?) → va_S A0 H0 H1 locs1 → W p l e R s m args below meth c H1 locs1 (cells + mc) (slots + ms) Q (F0 m (pc + 3) ls (rest))) : W p l e R s m args below meth c H locs cells slots Q (F0 m pc ls st0) := by
  intro T hT X
  rcases hr T hT X with ⟨v, st₀, t, T', L, h0, X', hL, e1, e2, ⟨⟨u, hv, hp, hb⟩, hF⟩, st⟩ | ⟨q, st₀, t, T', L, E, ce, h0, X', hL, e1, e2, ⟨u, hp, hb, hF⟩, hce, hcv, hcl, st⟩
  · cases hv
    obtain ⟨k1, k2, k3⟩ := vx_keep h0 e1 hS hA hf hL hF
    obtain ⟨t2, a1, b1⟩ := kk u t T'.heap (locs ++ L) e1.symm (by rw [← e2]; exact X'.warmed.alike) hp hb k1 k2 k3 T' rfl X'
    exact ⟨t2, st t2 a1, b1⟩
  · obtain ⟨k1, k2, k3⟩ := vx_keep h0 e1 hS hAX hf hL hF
    obtain ⟨t2, a1, b1⟩ := kx E ce q u t T'.heap (locs ++ L) e1.symm (by rw [← e2]; exact X'.warmed.alike) hp hb k1 k2 k3 (by rw [e1]; exact hce) hcv hcl T' rfl X'
    exact ⟨t2, st.trans a1, b1⟩
/-- caught by the row x of this method's table; the rows ahead don't take it -/
theorem vx_catch {own name : String} {E : String} {ce : Cell} {q : Addr} (hown : s.vm.findClass own = some m.cls) (pre : List ExceptionTableEntry) (x : ExceptionTableEntry) (suf : List ExceptionTableEntry) (hsplit : c.exceptionTable.toList = pre ++ x :: suf)
    (hpass : ∀ z ∈ pre, covers z pc = false ∨ (z.catchType ≠ 0 ∧ ∃ nm : String, (Cond.classLink own z.catchType nm).before args s = true ∧ va_Nc E nm s)) (hx : covers x pc = true) (h0 : x.catchType ≠ 0)
    (hlink : (Cond.classLink own x.catchType name).before args s = true) (hcast : (Cond.castable E name).before args s = true) (hcell : H[q]? = some ce) (hv : ce.vm = .none) (hcl : s.vm.findClass E = some ce.cls)
    (kk : W p l e R s m args below meth c H locs cells slots Q (F0 m x.handlerPc ls [.ref q])) : vx_W p l e R s m args below meth c H locs cells slots Q (F0 m pc ls rest) q := by
  intro T hT X
  have hpl : e.platform.magicAccessors = ({} : Platform).magicAccessors := by rw [X.admits.platform]
  obtain ⟨c3, c4, hc3, hc4, hasg⟩ := Cond.castable_spec hcast
  cases Option.some.inj (hc3.symm.trans hcl)
  obtain ⟨c5, hc5, hcl5⟩ := Cond.classLink_spec hown hlink e.platform hpl
  cases Option.some.inj (hc4.symm.trans hc5)
  obtain ⟨vm', X', st⟩ := X.thenCaughtThrough q (g := F0 m pc ls rest) rfl (Steps.refl _) (by rw [hT]; exact hcell) (by rw [hv]; rfl) (by obtain ⟨k9, h9, -⟩ := Vm.findClass_spec hcl; exact ⟨k9, h9⟩) pre x suf hsplit
    (fun z hz => by
      rcases hpass z hz with h | ⟨hz0, nm, hl1, hn1⟩
      · exact Or.inl h
      · obtain ⟨c6, hc6, hcl6⟩ := Cond.classLink_spec hown hl1 e.platform hpl
        obtain ⟨a8, b8, h1, h2, h3⟩ := hn1
        cases Option.some.inj (h1.symm.trans hcl)
        cases Option.some.inj (h2.symm.trans hc6)
        exact Or.inr ⟨hz0, _, hcl6, h3⟩) hx (Or.inr ⟨h0, c4, hcl5, hasg⟩)
  obtain ⟨t, a1, b1⟩ := kk (T.setVm vm') hT X'
  exact ⟨t, st.trans a1, b1⟩
end Rows
section Ends
variable {p : Program} {l : Launch} {e : Env} {R : Room} {s : State} {m : MethodId} {args : Array Value} {below : List Frame} {meth : Method} {c : Code} {H : Heap} {locs : List Loc} {cells slots : Nat} {Q : State → Prop}
variable {mc ms : Nat} {free : Addr → Prop} {A0 A1 : Nat → Prop} {H0 : Heap} {a : Array Value} {ls : Array Slot} {st0 rest : List Value}
variable {Qc : Array Value → State → Outcome → State → Prop} {XC : String → State → State → Prop}
/-- what a body that may throw owes at its end -/
def vx_MQ (below : List Frame) (Qc : Array Value → State → Outcome → State → Prop) (XC : String → State → State → Prop) (a : Array Value) (s : State) (mc ms : Nat) (free : Addr → Prop) : State → Prop := fun t =>
  ∃ o, t.status = .running ∧ Ended t below o ∧ vx_Q Qc XC mc ms free a s o t
theorem vx_ret {g : JFrame} {mc ms : Nat} (k : W p l e R s m args below meth c H locs cells slots (MQ below Qc args s mc ms free) g) : W p l e R s m args below meth c H locs cells slots (vx_MQ below Qc XC args s mc ms free) g := by
  intro T hT X
  obtain ⟨t, a1, o, b1, b2, b3, b4⟩ := k T hT X
  exact ⟨t, a1, o, b1, b2, Or.inl ⟨b3, b4⟩⟩
/-- not caught here: it goes on to the caller -/
theorem vx_widen {g : JFrame} {q : Addr} {k n : Nat} (h1 : cells ≤ k) (h2 : slots ≤ n) (kk : vx_W p l e R s m args below meth c H locs k n Q g q) : vx_W p l e R s m args below meth c H locs cells slots Q g q := fun T hT X => kk T hT (stand_widen X h1 h2)
theorem vx_out {pc : Nat} {E : String} {ce : Cell} {q : Addr} {mc ms : Nat} (hout : ∀ x ∈ c.exceptionTable.toList, covers x pc = false) (hlocks : meth.locks = false) (hcell : H[q]? = some ce) (hv : ce.vm = .none) (hcl : s.vm.findClass E = some ce.cls)
    (hx : ∀ t : State, t.heap = H → s.vm.Alike t.vm → XC E s t) (hf : ∀ z ∈ locs, free z.base) (hc : cells ≤ mc) (hs : slots ≤ ms) :
    vx_W p l e R s m args below meth c H locs cells slots (vx_MQ below Qc XC args s mc ms free) (F0 m pc ls rest) q := by
  intro T hT X
  obtain ⟨st1, hrun, hend, hW, hsm⟩ := X.leaveThrown q (g := F0 m pc ls rest) rfl rfl rfl hout hlocks
  have hcell9 : (T.setFrames (.throwing q :: below)).heap[q]? = some ce := by
    show T.heap[q]? = some ce
    rw [hT]; exact hcell
  exact ⟨_, st1, .threw q, hrun, hend, Or.inr ⟨q, rfl, E, ce, locs, hx _ hT hW.alike, hcell9, hv, hcl, hW, hsm.mono hc hs, hf⟩⟩
theorem vx_frame {U : State} {k n : Nat} (h : s.sameButNew ({ U with vm := s.vm } : State) locs k n) : s.heap.size ≤ U.heap.size ∧ ∀ q : Nat, q < s.heap.size → (∀ z ∈ locs, z.base ≠ q) → U.heap[q]? = s.heap[q]? := by
  obtain ⟨-, h2, -, -, -, h6⟩ := h
  refine ⟨h2, fun q hq hz => ?_⟩
  obtain ⟨c9, e1, e2, e3, e4⟩ := h6 q _ (Array.getElem?_eq_getElem hq)
  have hs : c9.slots = (s.heap[q]).slots := Array.ext_getElem? fun i => e4 i fun hm => hz _ hm rfl
  have h9 : c9 = s.heap[q] := by
    rw [hs] at e2
    exact e2
  have e5 : U.heap[q]? = some c9 := e1
  rw [e5, h9, Array.getElem?_eq_getElem hq]
/-- the words of a throw but the four that speak of the heap -/
def vx_no (w : Cond) : Bool := decide (w ≠ .isRef (.static Bundle.tN "UNASSIGNED_STACK" Bundle.steD)) && decide (w ≠ .isRef (.static Bundle.tN "SUPPRESSED_SENTINEL" Bundle.listD)) && decide (w ≠ .laysStatic Bundle.tN "UNASSIGNED_STACK" Bundle.steD) && decide (w ≠ .laysStatic Bundle.tN "SUPPRESSED_SENTINEL" Bundle.listD)
def vx_at0 (own : String) (ic : Nat) (X : String) (names : List String) : List Cond := (Bundle.ownAtoms0 own ic X names).filter vx_no
def vx_atS (own : String) (ic : Nat) (X : String) (names : List String) : List Cond := (Bundle.ownAtoms own ic X names).filter vx_no
/-- a word that the tables alone decide, or a good one -/
def vx_ot (w : Cond) : Bool := w.onTables || goodWord w
theorem vx_ot_at {args a' : Array Value} {s U : State} {w : Cond} (hW : s.WarmedH U.vm) (hvm : s.vm = U.vm) (hg : vx_ot w = true) (h : w.before args s = true) : w.before a' U = true := by
  simp only [vx_ot, Bool.or_eq_true] at hg
  rcases hg with hg | hg
  · exact va_tabs hg hvm h
  · exact word_at hW (good_of_word hg) h
/-- a list's words: the good ones out of the method's own list, the others by premises of their own -/
theorem vx_hat {args : Array Value} {s : State} {L B : List Cond} (h1 : ∀ w ∈ L.filter goodWord, w.before args s = true) (h2 : ∀ w ∈ L.filter (fun w => !goodWord w), w ∈ B) (h3 : ∀ w ∈ B, w.before args s = true) : ∀ w ∈ L, w.before args s = true := by
  intro w hw
  by_cases g : goodWord w = true
  · exact h1 w (List.mem_filter.mpr ⟨hw, g⟩)
  · refine h3 w (h2 w (List.mem_filter.mpr ⟨hw, ?_⟩))
    show (!goodWord w) = true
    cases hgw : goodWord w
    · rfl
    · exact absurd hgw g
theorem vx_c {args : Array Value} {s : State} {w : Cond} {B : List Cond} (h : w.before args s = true) (t : ∀ w ∈ B, w.before args s = true) : ∀ w' ∈ w :: B, w'.before args s = true := fun w' h' => (List.mem_cons.mp h').elim (fun e => by rw [e]; exact h) (t w')
theorem vx_n {args : Array Value} {s : State} : ∀ w ∈ ([] : List Cond), w.before args s = true := fun _ h => nomatch h
theorem vx_own {args : Array Value} {s : State} {L : List Cond} (h1 : ∀ w ∈ L.filter vx_no, w.before args s = true)
    (hU : (Cond.isRef (.static Bundle.tN "UNASSIGNED_STACK" Bundle.steD)).before args s = true) (hN : (Cond.isRef (.static Bundle.tN "SUPPRESSED_SENTINEL" Bundle.listD)).before args s = true)
    (lU : (Cond.laysStatic Bundle.tN "UNASSIGNED_STACK" Bundle.steD).before args s = true) (lN : (Cond.laysStatic Bundle.tN "SUPPRESSED_SENTINEL" Bundle.listD).before args s = true) : ∀ w ∈ L, w.before args s = true := by
  intro w hw
  by_cases e1 : w = .isRef (.static Bundle.tN "UNASSIGNED_STACK" Bundle.steD)
  · rw [e1]; exact hU
  · by_cases e2 : w = .isRef (.static Bundle.tN "SUPPRESSED_SENTINEL" Bundle.listD)
    · rw [e2]; exact hN
    · by_cases e3 : w = .laysStatic Bundle.tN "UNASSIGNED_STACK" Bundle.steD
      · rw [e3]; exact lU
      · by_cases e4 : w = .laysStatic Bundle.tN "SUPPRESSED_SENTINEL" Bundle.listD
        · rw [e4]; exact lN
        · exact h1 w (List.mem_filter.mpr ⟨hw, by unfold vx_no; rw [decide_eq_true e1, decide_eq_true e2, decide_eq_true e3, decide_eq_true e4]; rfl⟩)
/-- where a static field lies, its class's statics cell in H -/
def vx_L (C n d : String) (A : Nat → Prop) (U : State) (H : Heap) : Prop := ∃ (c : ClassId) (k : Class) (i : Nat) (f : Field) (a : Nat) (cell : Cell), U.vm.findClass C = some c ∧ U.fieldFound? C n d = some (c, k, i, f) ∧ f.isStatic = true ∧ k.statics = some a ∧ H[a]? = some cell ∧ cell.vm.isStatics = true ∧ cell.cls = c ∧ f.slot < cell.slots.size ∧ k.staticTypes[f.slot]? = some f.type ∧ ¬ A a
theorem vx_L.moved {C n d : String} {A : Nat → Prop} {u U : State} {H : Heap} (hvm : u.vm.Alike U.vm) (h : vx_L C n d A u H) : vx_L C n d A U H := by
  obtain ⟨c, k, i, f, a, cell, h1, h2, h3, h4, h5, h6, h7, h8, h9, h10⟩ := h
  obtain ⟨k', hi', he⟩ := State.fieldFound?_setVm hvm h2
  exact ⟨c, k', i, f, a, cell, by rw [hvm.findClass]; exact h1, hi', h3, by rw [he]; exact h4, h5, h6, h7, h8, by rw [he]; exact h9, h10⟩
theorem vx_L.kept {C n d : String} {A : Nat → Prop} {U : State} {H H1 : Heap} (h : vx_L C n d A U H) (hq : ∀ a : Nat, a < H.size → ¬ A a → H1[a]? = H[a]?) : vx_L C n d A U H1 := by
  obtain ⟨c, k, i, f, a, cell, h1, h2, h3, h4, h5, h6, h7, h8, h9, h10⟩ := h
  exact ⟨c, k, i, f, a, cell, h1, h2, h3, h4, by rw [hq a (Array.getElem?_eq_some_iff.mp h5).1 h10]; exact h5, h6, h7, h8, h9, h10⟩
theorem vx_L.narrow {C n d : String} {A B : Nat → Prop} {U : State} {H : Heap} (h : vx_L C n d A U H) (hAB : ∀ q, B q → A q) : vx_L C n d B U H := by
  obtain ⟨c, k, i, f, a, cell, h1, h2, h3, h4, h5, h6, h7, h8, h9, h10⟩ := h
  exact ⟨c, k, i, f, a, cell, h1, h2, h3, h4, h5, h6, h7, h8, h9, fun z => h10 (hAB _ z)⟩
theorem vx_L.word {C n d : String} {A : Nat → Prop} {s : State} {args : Array Value} (h : vx_L C n d A s s.heap) : (Cond.laysStatic C n d).before args s = true := by
  obtain ⟨c, k, i, f, a, cell, h1, h2, h3, h4, h5, h6, h7, h8, h9, -⟩ := h
  show (Cond.laysStatic C n d).holds args s none s [] = true
  exact Cond.laysStatic_of h1 h2 h3 h4 h5 h6 h7 h8 h9
/-- .. and what it holds: null or some reference -/
def vx_Zq (C n d : String) (A : Nat → Prop) (U : State) (H : Heap) : Prop := va_Zq C n d A U H ∧ vx_L C n d A U H
theorem vx_Zq.moved {C n d : String} {A : Nat → Prop} {u U : State} {H : Heap} (hvm : u.vm.Alike U.vm) (h : vx_Zq C n d A u H) : vx_Zq C n d A U H := ⟨va_Zq.moved hvm h.1, vx_L.moved hvm h.2⟩
theorem vx_Zq.kept {C n d : String} {A : Nat → Prop} {U : State} {H H1 : Heap} (h : vx_Zq C n d A U H) (hq : ∀ a : Nat, a < H.size → ¬ A a → H1[a]? = H[a]?) : vx_Zq C n d A U H1 := ⟨va_Zq.kept h.1 hq, vx_L.kept h.2 hq⟩
theorem vx_Zq.narrow {C n d : String} {A B : Nat → Prop} {U : State} {H : Heap} (h : vx_Zq C n d A U H) (hAB : ∀ q, B q → A q) : vx_Zq C n d B U H := ⟨va_Zq.narrow h.1 hAB, vx_L.narrow h.2 hAB⟩
theorem vx_Zqof {args : Array Value} {s : State} {C n d : String} {A : Nat → Prop} (hl : (Cond.laysStatic C n d).before args s = true) (hini : (Cond.initialized C).before args s = true) (h : (Cond.isRef (.static C n d)).before args s = true) (hA : ∀ a : Nat, a < s.heap.size → ¬ A a) : vx_Zq C n d A s s.heap := by
  refine ⟨va_Zqof hl hini h hA, ?_⟩
  obtain ⟨c, k, i, f, a, cell, h1, h2, h3, h4, h5, h6, h7, h8, h9⟩ := Cond.laysStatic_spec hl
  exact ⟨c, k, i, f, a, cell, h1, h2, h3, h4, h5, h6, h7, h8, h9, hA a (Array.getElem?_eq_some_iff.mp h5).1⟩
theorem vx_isRef {C n d : String} {v : Value} {A : Nat → Prop} {s : State} {args : Array Value} (h : va_Z C n d v A s s.heap) (hv : v.isRef = true) : (Cond.isRef (.static C n d)).before args s = true := by
  obtain ⟨cf, kf, fi, f, a, cell, h1, h2, h3, h4, h5, h6, h7, -⟩ := h
  have he : (Term.static C n d).eval args s none [] s = some v := by
    simp [Term.eval, State.fieldNamed?, h1, h2, h4, h5, h6, h7]
  simp only [Cond.before, Cond.holds, Cond.value, he]
  cases v <;> simp_all [Value.isRef]
theorem vx_isRefq {C n d : String} {A : Nat → Prop} {s : State} {args : Array Value} (h : va_Zq C n d A s s.heap) : (Cond.isRef (.static C n d)).before args s = true := by
  rcases h with h | ⟨t, h⟩
  · exact vx_isRef h rfl
  · exact vx_isRef h rfl
/-- the same frame, seen from here: as if the method were called anew in this heap -/
theorem vx_rebase {T : State} (X : Stand p l e R s m args below meth c T locs cells slots) {R' : Room} (hf : R'.frames ≤ R.frames) (hl : R'.locals ≤ R.locals) (hc : cells + R'.cells ≤ R.cells) (hs : slots + R'.slots ≤ R.slots) :
    Stand p l e R' ((T.setVm s.vm).setFrames (.invoking m args :: below)) m args below meth c T [] 0 0 := by
  have htop : (T.setVm s.vm).topJava?.isSome := X.here.top
  have hF : ((T.setVm s.vm).setFrames (.invoking m args :: below)).frames = .invoking m args :: below := State.frames_setFrames _ (State.cur_lt_of_top htop)
  obtain ⟨g₀, hg0⟩ := Option.isSome_iff_exists.mp htop
  obtain ⟨r, hr⟩ := State.topJava?_eq_some.mp hg0
  have hl9 : e.platform.stackLimits (T.setVm s.vm).me = e.platform.stackLimits s.me := X.limits
  have hb9 : (T.setVm s.vm).me.stackBytes = s.me.stackBytes := X.bytes
  refine ⟨X.admits, X.cas, X.clock, hF, ?_, X.hears, X.method, X.code, X.here, X.tail, X.warmed, ?_, ?_, ?_⟩
  · have h := X.room
    have hU : ((T.setVm s.vm).setFrames (.invoking m args :: below)).localsInUse = s.localsInUse := by
      rw [State.localsInUse_invoking hF (meth := meth) (c := c) X.method X.code, State.localsInUse_invoking X.frames X.method X.code]
    simp only [State.hasRoom, Bool.and_eq_true, decide_eq_true_eq] at h ⊢
    obtain ⟨⟨⟨⟨h1, h2, h3, h4, h5, h6⟩, h7⟩, h8⟩, h9⟩ := h
    rw [X.frames, List.length_cons] at h2 h3
    have q1 := X.heapSize
    have q2 := X.used
    simp only [hF, hU, List.length_cons, State.stackLimits_setFrames, State.stackBytes_setFrames, hl9, hb9]
    refine ⟨⟨⟨⟨by omega, by omega, by omega, by omega, by omega, h6⟩, ?_⟩, ?_⟩, X.book⟩
    · show T.heap.size + R'.cells ≤ e.platform.maxCells
      omega
    · show T.slotsUsed + R'.slots ≤ e.platform.maxSlots
      omega
  · rw [State.stackLimits_setFrames]; rfl
  · rw [State.stackBytes_setFrames]; rfl
  · refine ⟨?_, Nat.le_refl _, Nat.le_refl _, ?_, ?_, fun a c9 h9 => ⟨c9, h9, rfl, rfl, fun _ _ => rfl⟩⟩
    · obtain ⟨t, ht, -⟩ := State.frames_cons hr
      show T.setVm s.vm = { ((T.setVm s.vm).setFrames (.invoking m args :: below)).setFrames (T.setVm s.vm).frames with heap := T.heap, slotsUsed := T.slotsUsed }
      rw [State.setFrames_setFrames, State.setFrames_self ht]
      rfl
    · show T.slotsUsed = T.slotsUsed + ((T.heap.toList.drop T.heap.size).map (·.slots.size)).sum
      rw [List.drop_eq_nil_of_le (Nat.le_of_eq Array.length_toList)]
      rfl
    · show ((T.heap.toList.drop T.heap.size).map (·.slots.size)).sum ≤ 0
      rw [List.drop_eq_nil_of_le (Nat.le_of_eq Array.length_toList)]
      exact Nat.le_refl _
/-- 'throw new E()': new; dup; invokespecial; athrow -/
theorem vx_throw0 {cc : ByteArray} {pc : Nat} (hexec : p.tables.exec = Jvm.exec) (hb : c.code = cc) (hl : l.stackTraces = false) {own cls : String} {names : List String} {ik ic mc ms : Nat} {A : Nat → Prop}
    (hown : s.vm.findClass own = some m.cls) (hcls : Bundle.fit cls = true) (hnames : ∀ n ∈ names, Bundle.fit n = true)
    (hk : (Cond.classLink own ik cls).before args s = true) (hini : (Cond.initialized cls).before args s = true) (hat : ∀ w ∈ vx_at0 own ic cls names, w.before args s = true)
    (hgood : ∀ w ∈ Cond.classLink own ik cls :: Cond.initialized cls :: vx_at0 own ic cls names, vx_ot w = true)
    (hU : vx_Zq Bundle.tN "UNASSIGNED_STACK" Bundle.steD A s s.heap) (hN : vx_Zq Bundle.tN "SUPPRESSED_SENTINEL" Bundle.listD A s s.heap) (hS : va_S A s.heap H locs) (hsize : ls.size = c.maxLocals)
    (d0 : decode cc pc = .ok (.new ik, 3)) (d3 : decode cc (pc + 3) = .ok (.dup, 1)) (d4 : decode cc (pc + 4) = .ok (.invokespecial ic, 3)) (d7 : decode cc (pc + 7) = .ok (.athrow, 1))
    (hout : ∀ x ∈ c.exceptionTable.toList, covers x (pc + 7) = false)
    (hRframes : names.length + 3 < R.frames) (hRlocals : (rest.map fun v => v.category).sum + (13 * (names.length + 1) + 42) ≤ R.locals) (hRcells : cells + 1 ≤ R.cells) (hRslots : slots + 6 ≤ R.slots) (hlocks : meth.locks = false)
    (hx : ∀ t : State, s.vm.Alike t.vm → H.size ≤ t.heap.size → (∀ q : Nat, q < H.size → t.heap[q]? = H[q]?) → XC cls s t)
    (hf : ∀ z ∈ locs, free z.base) (hc : cells + 1 ≤ mc) (hs : slots + 6 ≤ ms) :
    W p l e R s m args below meth c H locs cells slots (vx_MQ below Qc XC args s mc ms free) (F0 m pc ls rest) := by
  intro T hT X
  have htr : e.platform.stackTraces = false := (show e.platform.stackTraces = l.stackTraces by rw [X.admits.platform]).trans hl
  have Y := vx_rebase X (R' := { frames := R.frames, locals := R.locals, cells := 1, slots := 6 }) (Nat.le_refl _) (Nat.le_refl _) hRcells hRslots
  obtain ⟨s', hA⟩ : ∃ z, z = (T.setVm s.vm).setFrames (.invoking m args :: below) := ⟨_, rfl⟩
  rw [← hA] at Y
  have hvm : s'.vm = s.vm := by rw [hA]; rfl
  have hhp : s'.heap = H := by rw [hA]; exact hT
  have hW0 : s.WarmedH s'.vm := by rw [hvm]; exact State.WarmedH.refl s
  have hat' : ∀ w ∈ vx_at0 own ic cls names, w.before args s' = true := fun w hw => vx_ot_at hW0 hvm.symm (hgood w (List.mem_cons_of_mem _ (List.mem_cons_of_mem _ hw))) (hat w hw)
  have hk' : (Cond.classLink own ik cls).before args s' = true := vx_ot_at hW0 hvm.symm (hgood _ List.mem_cons_self) hk
  have hini' : (Cond.initialized cls).before args s' = true := vx_ot_at hW0 hvm.symm (hgood _ (List.mem_cons_of_mem _ List.mem_cons_self)) hini
  have hU' : vx_Zq Bundle.tN "UNASSIGNED_STACK" Bundle.steD A s' s'.heap := by rw [hhp]; exact vx_Zq.moved hW0.alike (hU.kept hS.2.1)
  have hN' : vx_Zq Bundle.tN "SUPPRESSED_SENTINEL" Bundle.listD A s' s'.heap := by rw [hhp]; exact vx_Zq.moved hW0.alike (hN.kept hS.2.1)
  have h : ∀ w ∈ Bundle.ownAtoms0 own ic cls names, w.before args s' = true := vx_own hat' (vx_isRefq hU'.1) (vx_isRefq hN'.1) hU'.2.word hN'.2.word
  have hown' : s'.vm.findClass own = some m.cls := by rw [hvm]; exact hown
  have hins : (Cond.instantiable cls 6).before args s' = true := h _ (by simp [Bundle.ownAtoms0])
  obtain ⟨vm₁, cX, kX, hfX, hkX, -, -, X₁, st1⟩ := Y.newCold hexec (own := own) (C := cls) (index := ik) (n := 6) hown' hk' hins hini'
    (g := F0 m pc ls rest) rfl (by rw [hb]; exact d0) (Nat.le_refl _) (Nat.le_refl _)
  generalize hT1 : (T.setVm vm₁).pushCell { cls := cX, slots := kX.instanceTypes.map defaultValue, vm := .none } = T1 at X₁ st1
  have hcat : (Value.ref T.heap.size).category = 1 := rfl
  have hcellA : T1.heap[T.heap.size]? = some (freshCell cX kX) := by rw [← hT1]; exact State.heap_pushCell_size _ _
  have d3' : decode c.code (pc + 3) = .ok (.dup, 1) := by rw [hb]; exact d3
  obtain ⟨U, hsteps, hrun, hend, hW, hsame, ce, hce, hO⟩ := X₁.ctorThrow0 hexec htr (own := own) (cls := cls) (names := names) (ic := ic) hown' hcls hnames h (fun x hx => nomatch hx) hfX hkX hcellA (by rw [hhp, hT]; exact Nat.le_refl _)
    (g := { method := m, pc := pc + 4, locals := ls, stack := .ref T.heap.size :: .ref T.heap.size :: rest, locked := none }) rfl hsize rfl rfl (rest := rest) rfl
    (by rw [hb]; exact d4) (by rw [hb]; exact d7) hout hRframes (by simp only [List.map_cons, List.sum_cons, hcat]; omega) hlocks
  obtain ⟨f1, f2⟩ := vx_frame hsame
  rw [hhp] at f1 f2
  have hWs : s.WarmedH U.vm := State.WarmedH.trans hW0 hW
  have hcl : s.vm.findClass cls = some ce.cls := by
    have h9 := hO.cls
    rw [hvm] at h9
    exact h9
  have hall : s.sameButNew ({ U with vm := s.vm } : State) locs mc ms := by
    subst hA
    obtain ⟨e1, e2⟩ := hsame
    rw [State.setFrames_setFrames] at e1
    have h2 : (T.setVm s.vm).sameButNew ({ U with vm := s.vm } : State) [] (0 + 1) (0 + 6) := ⟨e1, e2⟩
    have h3 := X.same.trans h2
    rw [List.append_nil] at h3
    exact h3.mono hc hs
  refine ⟨U, ?_, .threw T.heap.size, hrun, hend, Or.inr ⟨T.heap.size, rfl, cls, ce, locs, hx U hWs.alike f1 (fun q hq => f2 q hq (fun z hz => nomatch hz)), hce, hO.vm, hcl, hWs, hall, hf⟩⟩
  refine st1 _ ?_
  show Steps p.tables e below (T1.setTop { method := m, pc := pc + 3, locals := ls, stack := .ref T.heap.size :: rest, locked := none }) _
  jvm_step X₁.here [X₁.here.top, hexec, d3', Value.category]
  exact hsteps
/-- 'throw new E("text")': new; dup; ldc; invokespecial; athrow -/
theorem vx_throwS {cc : ByteArray} {pc : Nat} (hexec : p.tables.exec = Jvm.exec) (hb : c.code = cc) (hl : l.stackTraces = false) {own cls text : String} {names : List String} {ik is ic mc ms sa : Nat} {A : Nat → Prop}
    (hown : s.vm.findClass own = some m.cls) (hcls : Bundle.fit cls = true) (hnames : ∀ n ∈ names, Bundle.fit n = true)
    (hk : (Cond.classLink own ik cls).before args s = true) (hini : (Cond.initialized cls).before args s = true) (hstr : vk_R own is text sa s) (hat : ∀ w ∈ vx_atS own ic cls names, w.before args s = true)
    (hgood : ∀ w ∈ Cond.classLink own ik cls :: Cond.initialized cls :: vx_atS own ic cls names, vx_ot w = true)
    (hU : vx_Zq Bundle.tN "UNASSIGNED_STACK" Bundle.steD A s s.heap) (hN : vx_Zq Bundle.tN "SUPPRESSED_SENTINEL" Bundle.listD A s s.heap) (hS : va_S A s.heap H locs) (hsize : ls.size = c.maxLocals)
    (d0 : decode cc pc = .ok (.new ik, 3)) (d3 : decode cc (pc + 3) = .ok (.dup, 1)) (d4 : decode cc (pc + 4) = .ok (.ldc is, 2)) (d6 : decode cc (pc + 6) = .ok (.invokespecial ic, 3)) (d9 : decode cc (pc + 9) = .ok (.athrow, 1))
    (hout : ∀ x ∈ c.exceptionTable.toList, covers x (pc + 9) = false)
    (hRframes : names.length + 3 < R.frames) (hRlocals : (rest.map fun v => v.category).sum + (13 * (names.length + 1) + 43) ≤ R.locals) (hRcells : cells + 1 ≤ R.cells) (hRslots : slots + 6 ≤ R.slots) (hlocks : meth.locks = false)
    (hx : ∀ t : State, s.vm.Alike t.vm → H.size ≤ t.heap.size → (∀ q : Nat, q < H.size → t.heap[q]? = H[q]?) → XC cls s t)
    (hf : ∀ z ∈ locs, free z.base) (hc : cells + 1 ≤ mc) (hs : slots + 6 ≤ ms) :
    W p l e R s m args below meth c H locs cells slots (vx_MQ below Qc XC args s mc ms free) (F0 m pc ls rest) := by
  intro T hT X
  have htr : e.platform.stackTraces = false := (show e.platform.stackTraces = l.stackTraces by rw [X.admits.platform]).trans hl
  have Y := vx_rebase X (R' := { frames := R.frames, locals := R.locals, cells := 1, slots := 6 }) (Nat.le_refl _) (Nat.le_refl _) hRcells hRslots
  obtain ⟨s', hA⟩ : ∃ z, z = (T.setVm s.vm).setFrames (.invoking m args :: below) := ⟨_, rfl⟩
  rw [← hA] at Y
  have hvm : s'.vm = s.vm := by rw [hA]; rfl
  have hhp : s'.heap = H := by rw [hA]; exact hT
  have hW0 : s.WarmedH s'.vm := by rw [hvm]; exact State.WarmedH.refl s
  have hat' : ∀ w ∈ vx_atS own ic cls names, w.before args s' = true := fun w hw => vx_ot_at hW0 hvm.symm (hgood w (List.mem_cons_of_mem _ (List.mem_cons_of_mem _ hw))) (hat w hw)
  have hk' : (Cond.classLink own ik cls).before args s' = true := vx_ot_at hW0 hvm.symm (hgood _ List.mem_cons_self) hk
  have hini' : (Cond.initialized cls).before args s' = true := vx_ot_at hW0 hvm.symm (hgood _ (List.mem_cons_of_mem _ List.mem_cons_self)) hini
  have hU' : vx_Zq Bundle.tN "UNASSIGNED_STACK" Bundle.steD A s' s'.heap := by rw [hhp]; exact vx_Zq.moved hW0.alike (hU.kept hS.2.1)
  have hN' : vx_Zq Bundle.tN "SUPPRESSED_SENTINEL" Bundle.listD A s' s'.heap := by rw [hhp]; exact vx_Zq.moved hW0.alike (hN.kept hS.2.1)
  have h : ∀ w ∈ Bundle.ownAtoms own ic cls names, w.before args s' = true := vx_own hat' (vx_isRefq hU'.1) (vx_isRefq hN'.1) hU'.2.word hN'.2.word
  have hown' : s'.vm.findClass own = some m.cls := by rw [hvm]; exact hown
  have hins : (Cond.instantiable cls 6).before args s' = true := h _ (by simp [Bundle.ownAtoms])
  obtain ⟨vm₁, cX, kX, hfX, hkX, -, -, X₁, st1⟩ := Y.newCold hexec (own := own) (C := cls) (index := ik) (n := 6) hown' hk' hins hini'
    (g := F0 m pc ls rest) rfl (by rw [hb]; exact d0) (Nat.le_refl _) (Nat.le_refl _)
  generalize hT1 : (T.setVm vm₁).pushCell { cls := cX, slots := kX.instanceTypes.map defaultValue, vm := .none } = T1 at X₁ st1
  have hcat : (Value.ref T.heap.size).category = 1 := rfl
  have hcellA : T1.heap[T.heap.size]? = some (freshCell cX kX) := by rw [← hT1]; exact State.heap_pushCell_size _ _
  have d3' : decode c.code (pc + 3) = .ok (.dup, 1) := by rw [hb]; exact d3
  have d4' : decode c.code (pc + 4) = .ok (.ldc is, 2) := by rw [hb]; exact d4
  have hstr' : vk_R own is text sa s' := vk_R.warm hW0 hstr
  obtain ⟨U, hsteps, hrun, hend, hW, hsame, ce, hce, hO⟩ := X₁.ctorThrowS hexec htr (own := own) (cls := cls) (names := names) (ic := ic) hown' hcls hnames h (fun x hx => nomatch hx) hfX hkX hcellA (by rw [hhp, hT]; exact Nat.le_refl _) (msg := .ref sa) rfl
    (g := { method := m, pc := pc + 6, locals := ls, stack := .ref sa :: .ref T.heap.size :: .ref T.heap.size :: rest, locked := none }) rfl hsize rfl rfl (rest := rest) rfl
    (by rw [hb]; exact d6) (by rw [hb]; exact d9) hout hRframes (by simp only [List.map_cons, List.sum_cons, hcat]; omega) hlocks
  obtain ⟨f1, f2⟩ := vx_frame hsame
  rw [hhp] at f1 f2
  have hWs : s.WarmedH U.vm := State.WarmedH.trans hW0 hW
  have hcl : s.vm.findClass cls = some ce.cls := by
    have h9 := hO.cls
    rw [hvm] at h9
    exact h9
  have hall : s.sameButNew ({ U with vm := s.vm } : State) locs mc ms := by
    subst hA
    obtain ⟨e1, e2⟩ := hsame
    rw [State.setFrames_setFrames] at e1
    have h2 : (T.setVm s.vm).sameButNew ({ U with vm := s.vm } : State) [] (0 + 1) (0 + 6) := ⟨e1, e2⟩
    have h3 := X.same.trans h2
    rw [List.append_nil] at h3
    exact h3.mono hc hs
  refine ⟨U, ?_, .threw T.heap.size, hrun, hend, Or.inr ⟨T.heap.size, rfl, cls, ce, locs, hx U hWs.alike f1 (fun q hq => f2 q hq (fun z hz => nomatch hz)), hce, hO.vm, hcl, hWs, hall, hf⟩⟩
  refine st1 _ ?_
  show Steps p.tables e below (T1.setTop { method := m, pc := pc + 3, locals := ls, stack := .ref T.heap.size :: rest, locked := none }) _
  jvm_step X₁.here [X₁.here.top, hexec, d3', Value.category]
  exact X₁.ldcString hexec (own := own) (text := text) (index := is) (a := sa) hown' hstr'.1 hstr'.2
    (g := { method := m, pc := pc + 4, locals := ls, stack := .ref T.heap.size :: .ref T.heap.size :: rest, locked := none }) rfl d4' _ hsteps
/-- 'throw new E("text")', the text by a wide index -/
theorem vx_throwSW {cc : ByteArray} {pc : Nat} (hexec : p.tables.exec = Jvm.exec) (hb : c.code = cc) (hl : l.stackTraces = false) {own cls text : String} {names : List String} {ik is ic mc ms sa : Nat} {A : Nat → Prop}
    (hown : s.vm.findClass own = some m.cls) (hcls : Bundle.fit cls = true) (hnames : ∀ n ∈ names, Bundle.fit n = true)
    (hk : (Cond.classLink own ik cls).before args s = true) (hini : (Cond.initialized cls).before args s = true) (hstr : vk_R own is text sa s) (hat : ∀ w ∈ vx_atS own ic cls names, w.before args s = true)
    (hgood : ∀ w ∈ Cond.classLink own ik cls :: Cond.initialized cls :: vx_atS own ic cls names, vx_ot w = true)
    (hU : vx_Zq Bundle.tN "UNASSIGNED_STACK" Bundle.steD A s s.heap) (hN : vx_Zq Bundle.tN "SUPPRESSED_SENTINEL" Bundle.listD A s s.heap) (hS : va_S A s.heap H locs) (hsize : ls.size = c.maxLocals)
    (d0 : decode cc pc = .ok (.new ik, 3)) (d3 : decode cc (pc + 3) = .ok (.dup, 1)) (d4 : decode cc (pc + 4) = .ok (.ldc_w is, 3)) (d7 : decode cc (pc + 7) = .ok (.invokespecial ic, 3)) (d10 : decode cc (pc + 10) = .ok (.athrow, 1))
    (hout : ∀ x ∈ c.exceptionTable.toList, covers x (pc + 10) = false)
    (hRframes : names.length + 3 < R.frames) (hRlocals : (rest.map fun v => v.category).sum + (13 * (names.length + 1) + 43) ≤ R.locals) (hRcells : cells + 1 ≤ R.cells) (hRslots : slots + 6 ≤ R.slots) (hlocks : meth.locks = false)
    (hx : ∀ t : State, s.vm.Alike t.vm → H.size ≤ t.heap.size → (∀ q : Nat, q < H.size → t.heap[q]? = H[q]?) → XC cls s t)
    (hf : ∀ z ∈ locs, free z.base) (hc : cells + 1 ≤ mc) (hs : slots + 6 ≤ ms) :
    W p l e R s m args below meth c H locs cells slots (vx_MQ below Qc XC args s mc ms free) (F0 m pc ls rest) := by
  intro T hT X
  have htr : e.platform.stackTraces = false := (show e.platform.stackTraces = l.stackTraces by rw [X.admits.platform]).trans hl
  have Y := vx_rebase X (R' := { frames := R.frames, locals := R.locals, cells := 1, slots := 6 }) (Nat.le_refl _) (Nat.le_refl _) hRcells hRslots
  obtain ⟨s', hA⟩ : ∃ z, z = (T.setVm s.vm).setFrames (.invoking m args :: below) := ⟨_, rfl⟩
  rw [← hA] at Y
  have hvm : s'.vm = s.vm := by rw [hA]; rfl
  have hhp : s'.heap = H := by rw [hA]; exact hT
  have hW0 : s.WarmedH s'.vm := by rw [hvm]; exact State.WarmedH.refl s
  have hat' : ∀ w ∈ vx_atS own ic cls names, w.before args s' = true := fun w hw => vx_ot_at hW0 hvm.symm (hgood w (List.mem_cons_of_mem _ (List.mem_cons_of_mem _ hw))) (hat w hw)
  have hk' : (Cond.classLink own ik cls).before args s' = true := vx_ot_at hW0 hvm.symm (hgood _ List.mem_cons_self) hk
  have hini' : (Cond.initialized cls).before args s' = true := vx_ot_at hW0 hvm.symm (hgood _ (List.mem_cons_of_mem _ List.mem_cons_self)) hini
  have hU' : vx_Zq Bundle.tN "UNASSIGNED_STACK" Bundle.steD A s' s'.heap := by rw [hhp]; exact vx_Zq.moved hW0.alike (hU.kept hS.2.1)
  have hN' : vx_Zq Bundle.tN "SUPPRESSED_SENTINEL" Bundle.listD A s' s'.heap := by rw [hhp]; exact vx_Zq.moved hW0.alike (hN.kept hS.2.1)
  have h : ∀ w ∈ Bundle.ownAtoms own ic cls names, w.before args s' = true := vx_own hat' (vx_isRefq hU'.1) (vx_isRefq hN'.1) hU'.2.word hN'.2.word
  have hown' : s'.vm.findClass own = some m.cls := by rw [hvm]; exact hown
  have hins : (Cond.instantiable cls 6).before args s' = true := h _ (by simp [Bundle.ownAtoms])
  obtain ⟨vm₁, cX, kX, hfX, hkX, -, -, X₁, st1⟩ := Y.newCold hexec (own := own) (C := cls) (index := ik) (n := 6) hown' hk' hins hini'
    (g := F0 m pc ls rest) rfl (by rw [hb]; exact d0) (Nat.le_refl _) (Nat.le_refl _)
  generalize hT1 : (T.setVm vm₁).pushCell { cls := cX, slots := kX.instanceTypes.map defaultValue, vm := .none } = T1 at X₁ st1
  have hcat : (Value.ref T.heap.size).category = 1 := rfl
  have hcellA : T1.heap[T.heap.size]? = some (freshCell cX kX) := by rw [← hT1]; exact State.heap_pushCell_size _ _
  have d3' : decode c.code (pc + 3) = .ok (.dup, 1) := by rw [hb]; exact d3
  have d4' : decode c.code (pc + 4) = .ok (.ldc_w is, 3) := by rw [hb]; exact d4
  have hstr' : vk_R own is text sa s' := vk_R.warm hW0 hstr
  obtain ⟨U, hsteps, hrun, hend, hW, hsame, ce, hce, hO⟩ := X₁.ctorThrowS hexec htr (own := own) (cls := cls) (names := names) (ic := ic) hown' hcls hnames h (fun x hx => nomatch hx) hfX hkX hcellA (by rw [hhp, hT]; exact Nat.le_refl _) (msg := .ref sa) rfl
    (g := { method := m, pc := pc + 7, locals := ls, stack := .ref sa :: .ref T.heap.size :: .ref T.heap.size :: rest, locked := none }) rfl hsize rfl rfl (rest := rest) rfl
    (by rw [hb]; exact d7) (by rw [hb]; exact d10) hout hRframes (by simp only [List.map_cons, List.sum_cons, hcat]; omega) hlocks
  obtain ⟨f1, f2⟩ := vx_frame hsame
  rw [hhp] at f1 f2
  have hWs : s.WarmedH U.vm := State.WarmedH.trans hW0 hW
  have hcl : s.vm.findClass cls = some ce.cls := by
    have h9 := hO.cls
    rw [hvm] at h9
    exact h9
  have hall : s.sameButNew ({ U with vm := s.vm } : State) locs mc ms := by
    subst hA
    obtain ⟨e1, e2⟩ := hsame
    rw [State.setFrames_setFrames] at e1
    have h2 : (T.setVm s.vm).sameButNew ({ U with vm := s.vm } : State) [] (0 + 1) (0 + 6) := ⟨e1, e2⟩
    have h3 := X.same.trans h2
    rw [List.append_nil] at h3
    exact h3.mono hc hs
  refine ⟨U, ?_, .threw T.heap.size, hrun, hend, Or.inr ⟨T.heap.size, rfl, cls, ce, locs, hx U hWs.alike f1 (fun q hq => f2 q hq (fun z hz => nomatch hz)), hce, hO.vm, hcl, hWs, hall, hf⟩⟩
  refine st1 _ ?_
  show Steps p.tables e below (T1.setTop { method := m, pc := pc + 3, locals := ls, stack := .ref T.heap.size :: rest, locked := none }) _
  jvm_step X₁.here [X₁.here.top, hexec, d3', Value.category]
  exact X₁.ldcStringW hexec (own := own) (text := text) (index := is) (a := sa) hown' hstr'.1 hstr'.2
    (g := { method := m, pc := pc + 4, locals := ls, stack := .ref T.heap.size :: .ref T.heap.size :: rest, locked := none }) rfl d4' _ hsteps
end Ends
section Bodies
variable {l : Launch}
theorem vx_ofW {y : MethodName} {ws ws' : List Cond} {rm : Room} {Pc : Array Value → State → Prop} {Qc : Array Value → State → Outcome → State → Prop} {XC : String → State → State → Prop} {mc ms : Nat} {free : Addr → Prop} {cc : ByteArray} {maxL : Nat} {ret : Option FieldType}
    (hy : plainName y.cls = true) (hw : ws = Cond.code y cc maxL ret :: ws')
    (body : ∀ p e s m args below meth c s₁, BodyLoose p l y (headSpec ws rm) cc maxL ret e s m args below meth c s₁ → c.maxLocals = maxL → (∀ x ∈ c.exceptionTable.toList, False) → Pc args s →
      W p l e (headSpec ws rm).room s m args below meth c s.heap [] 0 0 (vx_MQ below Qc XC args s mc ms free) (entryFrame m args maxL)) : vx_Met l y ws rm Pc Qc XC mc ms free := by
  refine MetFree.of_bodyS (code := cc) (maxLocals := maxL) (ret := ret) hy ?_ ?_
  · intro args s m h hn
    obtain ⟨meth, c, h1, h2, h3, h4, h5, h6, -, -⟩ := Cond.code_spec hn (atoms_spec (ws := ws) h _ (by rw [hw]; exact List.mem_cons_self))
    exact ⟨meth, c, h1, h2, h3, h4, h5, h6⟩
  · intro p e s m args below meth c s₁ B hml hP _
    have hh0 : s₁.heap = s.heap := by rw [B.state]; rfl
    have ht : ∀ x ∈ c.exceptionTable.toList, False := by
      obtain ⟨meth9, c9, h1, h2, -, -, -, -, h7, -⟩ := Cond.code_spec B.named (atoms_spec (ws := ws) B.pre _ (by rw [hw]; exact List.mem_cons_self))
      cases Option.some.inj (h1.symm.trans B.method)
      cases Option.some.inj (h2.symm.trans (Stand.of_body B).code)
      intro x hx
      rw [Array.isEmpty_iff.mp h7] at hx
      cases hx
    obtain ⟨t, a1, o, b1, b2, b3⟩ := body p e s m args below meth c s₁ B hml ht hP s₁ hh0 (Stand.of_body B)
    exact ⟨t, o, a1, b1, b2, b3⟩
/-- the table of a body with handlers -/
theorem vx_table {p : Program} {x y : MethodName} {S : Spec} {cc bytes : ByteArray} {maxL maxL' : Nat} {ret ret' : Option FieldType} {e : Env} {s s₁ : State} {m : MethodId} {args : Array Value} {below : List Frame} {meth : Method} {c : Code} {hh : List (Nat × Nat × Nat × Nat)}
    (B : BodyLoose p l y S cc maxL ret e s m args below meth c s₁) (h : (Cond.codeWith y bytes maxL' ret' hh).before args s = true) : c.exceptionTable.toList = tableOf hh := by
  obtain ⟨m9, meth9, c9, hn9, h1, h2, -, -, h6, -⟩ := Cond.codeWith_spec h
  cases Option.some.inj (hn9.symm.trans B.named)
  cases Option.some.inj (h1.symm.trans B.method)
  cases Option.some.inj (h2.symm.trans (Stand.of_body B).code)
  rw [← h6, table_eq]
end Bodies
end VXA
/-! ===== END ===== -/
/-! ===== BEGIN a static call of a method with an exception table ===== -/
section VXS
variable {p : Program} {l : Launch} {e : Env} {R : Room} {s : State} {m : MethodId} {args : Array Value} {below : List Frame} {meth : Method} {c : Code} {T : State} {H : Heap} {locs : List Loc} {cells slots : Nat}
abbrev vx_CSW (R : Room) (s : State) (args : Array Value) (own : String) (index : Nat) (y : MethodName) (bytes : ByteArray) (maxL : Nat) (ret : Option FieldType) (hh : List (Nat × Nat × Nat × Nat)) (ws : List Cond) (rm : Room) (mc ms n : Nat) : Prop :=
  (rm.cells = mc ∧ rm.slots = ms ∧ rm.frames + 1 ≤ R.frames ∧ 8 + (maxL + 11) + rm.locals ≤ R.locals ∧ (∀ w ∈ ws, ∀ (a' : Array Value) (U : State), s.WarmedH U.vm → w.before a' U = true) ∧ Cond.codeWith y bytes maxL ret hh ∈ ws) ∧
  (Cond.codeWith y bytes maxL ret hh).before args s = true ∧ (Cond.initialized y.cls).before args s = true ∧ (y.cls ≠ "java/lang/invoke/MethodHandle" ∧ y.cls ≠ "java/lang/invoke/VarHandle") ∧
  (∀ sig, parseMethodDescriptor y.desc = some sig → n = sig.parameters.length) ∧ (Cond.methodLink own index y).before args s = true ∧ (Cond.static y).before args s = true
theorem vx_cwSW {own : String} {index maxL mc ms : Nat} {y : MethodName} {bytes : ByteArray} {ret : Option FieldType} {hh : List (Nat × Nat × Nat × Nat)} {Ts ws ws' : List Cond} {rm : Room} (n : Nat) (ht : ∀ w ∈ Ts, w.before args s = true) (hT : GoodIn Ts (va_wsS own index y ws)) (hw : ws = Cond.codeWith y bytes maxL ret hh :: ws') (hrc : rm.cells = mc) (hrs : rm.slots = ms)
    (hd : y.cls ≠ "java/lang/invoke/MethodHandle" ∧ y.cls ≠ "java/lang/invoke/VarHandle" ∧ (parseMethodDescriptor y.desc).map (fun d => d.parameters.length) = some n) (hR : rm.frames + 1 ≤ R.frames ∧ 8 + (maxL + 11) + rm.locals ≤ R.locals) :
    vx_CSW R s args own index y bytes maxL ret hh ws rm mc ms n := by
  have ok : ∀ w ∈ va_wsS own index y ws, w.before args s = true := fun w h => ht w (hT w h).1
  have hG : GoodIn Ts ws := fun w h => hT w (by unfold va_wsS; exact List.mem_append_right _ h)
  have hc : Cond.codeWith y bytes maxL ret hh ∈ ws := by rw [hw]; exact List.mem_cons_self
  refine ⟨⟨hrc, hrs, hR.1, hR.2, pay_in ht hG, hc⟩, ht _ (hG _ hc).1, ok _ (by simp [va_wsS]), ⟨hd.1, hd.2.1⟩, fun sig h => ?_, ok _ (by simp [va_wsS]), ok _ (by simp [va_wsS])⟩
  have h2 := hd.2.2
  rw [h] at h2
  exact (Option.some.inj h2).symm
theorem vx_callSW (X : Stand p l e R s m args below meth c T locs cells slots) (hexec : p.tables.exec = Jvm.exec) {own : String} {index : Nat} {y : MethodName} {bytes : ByteArray} {maxL : Nat} {ret : Option FieldType} {hh : List (Nat × Nat × Nat × Nat)}
    (hown : s.vm.findClass own = some m.cls) (hlink : (Cond.methodLink own index y).before args s = true) (hstat : (Cond.static y).before args s = true) (hinit : (Cond.initialized y.cls).before args s = true)
    (hcode : (Cond.codeWith y bytes maxL ret hh).before args s = true) (hy : y.cls ≠ "java/lang/invoke/MethodHandle" ∧ y.cls ≠ "java/lang/invoke/VarHandle")
    {W9 : Nat} {Pre : Pt → Array Value → Prop} {Post : Pt → Array Value → Option Value → Pt → Prop} (hK : Back l R p e below s args y 3 W9 Pre Post)
    {g : JFrame} (hg : g.method = m) (hsize : g.locals.size = c.maxLocals) {argsL rest : List Value} (hlen : ∀ sig, parseMethodDescriptor y.desc = some sig → argsL.length = sig.parameters.length)
    (hstack : g.stack = argsL.reverse ++ rest) (hW : 2 * g.monitorRoom + (rest.map fun v => v.category).sum ≤ W9) (hdg : decode c.code g.pc = .ok (.invokestatic index, 3))
    (hpre : ∀ vm₁, s.WarmedH vm₁ → Pre ⟨T.setVm vm₁, locs, cells, slots⟩ argsL.toArray) :
    ∃ (v : Option Value) (vm₁ : Vm) (B : Pt), s.WarmedH vm₁ ∧ Stand p l e R s m args below meth c B.U B.locs B.cells B.slots ∧ Post ⟨T.setVm vm₁, locs, cells, slots⟩ argsL.toArray v B ∧
      ∀ target, Steps p.tables e below (B.U.setTop { g with pc := g.pc + 3, stack := v.toList ++ rest }) target → Steps p.tables e below (T.setTop g) target := by
  obtain ⟨mk, methM, cM, hnamed, hmethM, -, -, -, -, -, -, hsigM⟩ := Cond.codeWith_spec hcode
  have hstatic : methM.isStatic = true := Cond.static_spec hnamed hmethM hstat
  obtain ⟨kP, hkP, -⟩ := className_of_methodNamed hnamed
  have hinitP : kP.init = .initialized := Cond.initialized_spec (findClass_of_methodNamed hnamed) hkP hinit
  obtain ⟨vm₁, X₁, hstep₁⟩ := X.invokestatic hexec hown hlink hnamed hmethM hstatic hkP hinitP hy (g := g) hg (argsL := argsL) (rest := rest) (hlen _ hsigM) hstack hdg
  obtain ⟨v, B, X', hpost, hsteps⟩ := hK m meth c ⟨T.setVm vm₁, locs, cells, slots⟩ { g with stack := rest } (.invokestatic index) mk argsL.toArray X₁ hg hsize hdg hW (X₁.named hnamed) (hpre vm₁ X₁.warmed)
  exact ⟨v, vm₁, B, X₁.warmed, X', hpost, fun target h => hstep₁ _ fun acts => by rw [doInvoke_state]; exact hsteps.trans h⟩
theorem vx_runSW {y : MethodName} {bytes cc : ByteArray} {maxL nL mc ms n index : Nat} {ret : Option FieldType} {hh : List (Nat × Nat × Nat × Nat)} {ws : List Cond} {rm : Room} {Pc : Array Value → State → Prop} {Qc : Array Value → State → Outcome → State → Prop} {free : Addr → Prop} {Ts : List Cond} {own : String} {As rest : List Value} {g : JFrame}
    (S : CallFix p m c cc nL s args Ts own) (hM : Met l y ws rm Pc Qc mc ms free) (cw : vx_CSW R s args own index y bytes maxL ret hh ws rm mc ms n) (hp : PreS s H Pc As)
    (hg : g.method = m) (hn : As.length = n) (hsize : g.locals.size = nL) (hstack : g.stack = As.reverse ++ rest) (hW : 2 * g.monitorRoom + (rest.map fun v => v.category).sum ≤ 8) (hdg : decode cc g.pc = .ok (.invokestatic index, 3)) (hf : cells + mc ≤ R.cells ∧ slots + ms ≤ R.slots) :
    va_Run p l e R s m args below meth c H locs cells slots mc ms g rest (Qc As.toArray) (free) := by
  obtain ⟨⟨hrc, hrs, hfr, hlo, hws, hcw⟩, hcode, hini, hy, hlen, hl, hstt⟩ := cw
  have hK : Back l R p e below s args y 3 8 (PreOf R mc ms Pc) (PostOf Qc mc ms free) := va_backW (hh := hh) (bytes := bytes) (maxL := maxL) (ret := ret) hM hp.1 hrc hrs hfr hlo hws hcw (fun a' U hW => word_at hW (Or.inl (by first | rfl | simp [Cond.onTables, Cond.keeps, Cond.steady])) hini)
  obtain ⟨hx, hb, hml, ho, -⟩ := S
  intro T hT X
  obtain ⟨v, vm₁, ⟨U', l2, c2, s2⟩, hW₁, X', ⟨g', mk, t, L, e1, e2, hq, h1, hL, h2, h3⟩, st⟩ := vx_callSW X hx (hh := hh) (bytes := bytes) (maxL := maxL) (ret := ret) ho hl hstt hini hcode hy hK hg (hsize.trans hml.symm) (argsL := As) (rest := rest) (fun sig h => hn.trans (hlen sig h)) hstack hW (by rw [hb]; exact hdg)
    (fun vm₁ hW₁ => ⟨hf.1, hf.2, hp.2 (T.setVm vm₁) hT hW₁⟩)
  dsimp only [Pt.U, Pt.locs, Pt.cells, Pt.slots] at X' e1 e2 h1 h2 h3 st
  subst h1; subst h2; subst h3
  exact ⟨v, (T.setVm vm₁).calling g' mk As.toArray, t, U', L, hT, X', hL, e1, e2, hq, st⟩
/-- not caught here, past rows that name other classes: it goes on to the caller -/
theorem vx_outP {p : Program} {l : Launch} {e : Env} {R : Room} {s : State} {m : MethodId} {args : Array Value} {below : List Frame} {meth : Method} {c : Code} {H : Heap} {locs : List Loc} {cells slots : Nat} {free : Addr → Prop} {ls : Array Slot} {rest : List Value} {Qc : Array Value → State → Outcome → State → Prop} {XC : String → State → State → Prop}
    {pc : Nat} {own E : String} {ce : Cell} {q : Addr} {mc ms : Nat} (hown : s.vm.findClass own = some m.cls) (hlocks : meth.locks = false)
    (hpass : ∀ z ∈ c.exceptionTable.toList, covers z pc = false ∨ (z.catchType ≠ 0 ∧ ∃ nm : String, (Cond.classLink own z.catchType nm).before args s = true ∧ va_Nc E nm s)) (hcell : H[q]? = some ce) (hv : ce.vm = .none) (hcl : s.vm.findClass E = some ce.cls)
    (hx : ∀ t : State, t.heap = H → s.vm.Alike t.vm → XC E s t) (hf : ∀ z ∈ locs, free z.base) (hc : cells ≤ mc) (hs : slots ≤ ms) :
    vx_W p l e R s m args below meth c H locs cells slots (vx_MQ below Qc XC args s mc ms free) (F0 m pc ls rest) q := by
  intro T hT X
  have hpl : e.platform.magicAccessors = ({} : Platform).magicAccessors := by rw [X.admits.platform]
  obtain ⟨vm', hW', X', st⟩ := X.outThrough hlocks q (g := F0 m pc ls rest) rfl rfl rfl (cell := ce) (by rw [hT]; exact hcell) (by rw [hv]; rfl)
    (by obtain ⟨k9, h9, -⟩ := Vm.findClass_spec hcl; exact ⟨k9, h9⟩) (fun z hz => by
      rcases hpass z hz with h | ⟨hz0, nm, hl1, hn1⟩
      · exact Or.inl h
      · obtain ⟨c6, hc6, hcl6⟩ := Cond.classLink_spec hown hl1 e.platform hpl
        obtain ⟨a8, b8, h1, h2, h3⟩ := hn1
        cases Option.some.inj (h1.symm.trans hcl)
        cases Option.some.inj (h2.symm.trans hc6)
        exact Or.inr ⟨hz0, _, hcl6, h3⟩)
  obtain ⟨g₀, hfr⟩ := X'.frames_eq
  have hcell9 : ((T.setVm vm').setFrames (.throwing q :: below)).heap[q]? = some ce := by
    show T.heap[q]? = some ce
    rw [hT]; exact hcell
  have hend : Ended ((T.setVm vm').setFrames (.throwing q :: below)) below (.threw q) := State.frames_setFrames _ (State.cur_lt_of_frames hfr)
  refine ⟨(T.setVm vm').setFrames (.throwing q :: below), ?_, .threw q, X'.here.running, hend, Or.inr ⟨q, rfl, E, ce, locs, hx _ hT (X'.ends _).1.alike, hcell9, hv, hcl, (X'.ends _).1, (X'.ends _).2.mono hc hs, hf⟩⟩
  rw [X.pushThrowing_eq]
  exact st
/-- a thing of a world lies in the heap -/
theorem vx_lt {D : va_G} {cl : List vw_C} {ws : va_W} {H1 : Heap} (h : va_P D cl ws H1) {k : Nat} {q : Nat × va_E} (hk : ws[k]? = some q) : q.1 < H1.size := (h k q hk).lt
end VXS
/-! ===== END ===== -/
/-! ===== BEGIN methods with a table of their own: called by a name, returning or throwing ===== -/
section VXH
/-! vx_backW, vx_callVX, vx_callSX, vx_callVW, vx_runVW, vx_runVX, vx_runSX, vx_ofWH follow the same proofs as their sisters above (Free/Laws.lean, Shelf42/LK1.lean); vx_outP calls Shelf42/NT130.lean (outThrough). -/
section
variable {l : Launch} {R : Room} {p : Program} {e : Env} {below : List Frame} {s : State} {sargs : Array Value} {y : MethodName} {len W9 : Nat}
theorem vx_backW {ws : List Cond} {rm : Room} {Pc : Array Value → State → Prop} {Qc : Array Value → State → Outcome → State → Prop} {XC : String → State → State → Prop} {mc ms : Nat} {free : Addr → Prop} {bytes : ByteArray} {maxL : Nat} {ret : Option FieldType} {hh : List (Nat × Nat × Nat × Nat)}
    (hM : vx_Met l y ws rm Pc Qc XC mc ms free) (hblind : FrameBlind Pc) (hrc : rm.cells = mc) (hrs : rm.slots = ms)
    (hframes : rm.frames + 1 ≤ R.frames) (hlocals : W9 + (maxL + 11) + rm.locals ≤ R.locals)
    (hws : ∀ w ∈ ws, ∀ a' U, s.WarmedH U.vm → w.before a' U = true) (hcode : Cond.codeWith y bytes maxL ret hh ∈ ws) (hinit : ∀ a' U, s.WarmedH U.vm → (Cond.initialized y.cls).before a' U = true) :
    vx_Back l R p e below s sargs y len W9 (PreOf R mc ms Pc) (PostOf Qc mc ms free) (vx_Post XC mc ms free) := by
  intro m meth c A g ig mk a X hg hsize hdg hW hn hp
  have h1 : (headSpec ws rm).pre.before a A.U = true := atoms_intro fun w hw => hws w hw _ _ X.warmed
  have h2 : (Cond.codeWith y bytes maxL ret hh).before a A.U = true := hws _ hcode _ _ X.warmed
  have h3 : (Cond.initialized y.cls).before a A.U = true := hinit _ _ X.warmed
  have h4 : A.cells + (headSpec ws rm).room.cells ≤ R.cells := by rw [show (headSpec ws rm).room.cells = mc from hrc]; exact hp.1
  have h5 : A.slots + (headSpec ws rm).room.slots ≤ R.slots := by rw [show (headSpec ws rm).room.slots = ms from hrs]; exact hp.2.1
  have hPc : Pc a (A.U.calling g mk a) := hblind _ _ _ _ hp.2.2
  obtain ⟨U, Ls, c0, s0⟩ := A
  dsimp only [Pt.U, Pt.locs, Pt.cells, Pt.slots] at h1 h2 h3 h4 h5 X hn hPc ⊢
  obtain ⟨m9, methY, cY, hn9, hmY, hcY, -, hlY, -⟩ := Cond.codeWith_spec h2
  cases Option.some.inj (hn9.symm.trans hn)
  obtain ⟨kY, hkY, -⟩ := className_of_methodNamed hn
  have hinitY : kY.init = .initialized := Cond.initialized_spec (findClass_of_methodNamed hn) hkY h3
  have h : At U g.method c below := by rw [hg]; exact X.here
  have hlocals9 : W9 + (maxL + 11) + (headSpec ws rm).room.locals ≤ R.locals := hlocals
  have happ : (headSpec ws rm).appliesLoose y e.platform (U.calling g mk a) = true :=
    Spec.appliesLoose_calling (g := g) h hdg hn hkY hinitY
      (X.room_calling (g := g) (R' := (headSpec ws rm).room) hsize hmY hcY hframes (by rw [hlY]; omega) h4 h5) h1
  obtain ⟨mid, hmid⟩ := h.above
  have hfr : (U.setTop g).frames = (.java g :: mid) ++ below := by rw [State.frames_setTop' g h.top, hmid]; rfl
  obtain ⟨o, s₂, hsteps, -, hend, hq⟩ := Steps.callFree hM p X.admits X.cas X.clock (acts := []) hfr happ hPc trivial
  have hq' : vx_Q Qc XC mc ms free a (U.calling g mk a) o s₂ := hq
  rw [State.frames_setTop' g h.top] at hend
  obtain ⟨g₀, hg0⟩ := Option.isSome_iff_exists.mp h.top
  obtain ⟨r, hr⟩ := State.topJava?_eq_some.mp hg0
  have hr' : (({ U with heap := s₂.heap, slotsUsed := s₂.slotsUsed } : State).setVm s₂.vm).frames = .java g₀ :: r := hr
  rcases hq' with ⟨hqc, L, hfe, hL⟩ | ⟨q, rfl, E, ce, L, hx, hce, hcv, hcl, hW₂, hsm, hL⟩
  · obtain ⟨⟨v, rfl⟩, hW₂, e2, q2, q3, q4, q5, q6⟩ := id hfe
    have e3 : s₂ = ({ (U.calling g mk a).setFrames s₂.frames with heap := s₂.heap, slotsUsed := s₂.slotsUsed } : State).setVm s₂.vm := by
      have : s₂ = ({ s₂ with vm := (U.calling g mk a).vm } : State).setVm s₂.vm := rfl
      rw [e2] at this
      exact this
    obtain ⟨c₂, i₂, len₂, hc₂, hd₂, hf₂⟩ := hend
    have hW' : U.WarmedH s₂.vm := hW₂
    have hcc : c₂ = c := by
      have h1 : s₂.code? g.method = U.code? g.method := by
        rw [State.code?_eq, State.code?_eq, hW'.alike.method?]
      exact Option.some.inj (hc₂.symm.trans (h1.trans h.code))
    subst hcc
    have hlen : len₂ = len := by rw [hdg] at hd₂; cases hd₂; rfl
    subst hlen
    have hs₂ : s₂ = (({ U with heap := s₂.heap, slotsUsed := s₂.slotsUsed } : State).setVm s₂.vm).setTop { g with pc := g.pc + len₂, stack := v.toList ++ g.stack } := by
      refine e3.trans ?_
      rw [hf₂, State.calling_eq h.top, State.setFrames_setFrames, State.setTop_of_frames _ hr', hr]
      rfl
    have hsame : U.sameButNew ({ U with heap := s₂.heap, slotsUsed := s₂.slotsUsed } : State) L mc ms := by
      refine ⟨?_, q2, q3, q4, q5, q6⟩
      obtain ⟨t, ht, -⟩ := State.frames_cons hr
      show ({ U with heap := s₂.heap, slotsUsed := s₂.slotsUsed } : State) = { U.setFrames U.frames with heap := s₂.heap, slotsUsed := s₂.slotsUsed }
      rw [State.setFrames_self ht]
    subst hg
    refine Or.inl ⟨v, ⟨(({ U with heap := s₂.heap, slotsUsed := s₂.slotsUsed } : State).setVm s₂.vm), Ls ++ L, c0 + mc, s0 + ms⟩,
      ⟨X.admits, X.cas, X.clock, X.frames, X.room, X.hears, X.method, X.code, (X.here.setHeapUsed s₂.heap s₂.slotsUsed).setVm hW'.alike, X.tail, State.WarmedH.trans X.warmed hW', X.limits, X.bytes, X.same.trans (hsame.setVm s.vm)⟩,
      ⟨g, mk, s₂, L, rfl, rfl, hqc, rfl, hL, rfl, rfl⟩, ?_⟩
    show Steps p.tables e below _ ((({ U with heap := s₂.heap, slotsUsed := s₂.slotsUsed } : State).setVm s₂.vm).setTop { g with pc := g.pc + len₂, stack := v.toList ++ g.stack })
    rw [← hs₂]
    exact hsteps
  · obtain ⟨e2, q2, q3, q4, q5, q6⟩ := id hsm
    have e3 : s₂ = ({ (U.calling g mk a).setFrames s₂.frames with heap := s₂.heap, slotsUsed := s₂.slotsUsed } : State).setVm s₂.vm := by
      have : s₂ = ({ s₂ with vm := (U.calling g mk a).vm } : State).setVm s₂.vm := rfl
      rw [e2] at this
      exact this
    have hf₂ : s₂.frames = .throwing q :: .java g :: U.frames.tail := hend
    have hW' : U.WarmedH s₂.vm := hW₂
    have hs₂ : s₂ = ((({ U with heap := s₂.heap, slotsUsed := s₂.slotsUsed } : State).setVm s₂.vm).setTop g).pushFrame (.throwing q) := by
      refine e3.trans ?_
      rw [hf₂, State.calling_eq h.top, State.setFrames_setFrames, State.pushFrame, State.frames_setTop _ hr', State.setTop_of_frames _ hr', State.setFrames_setFrames, hr]
      rfl
    have hsame : U.sameButNew ({ U with heap := s₂.heap, slotsUsed := s₂.slotsUsed } : State) L mc ms := by
      refine ⟨?_, q2, q3, q4, q5, q6⟩
      obtain ⟨t, ht, -⟩ := State.frames_cons hr
      show ({ U with heap := s₂.heap, slotsUsed := s₂.slotsUsed } : State) = { U.setFrames U.frames with heap := s₂.heap, slotsUsed := s₂.slotsUsed }
      rw [State.setFrames_self ht]
    subst hg
    refine Or.inr ⟨q, ⟨(({ U with heap := s₂.heap, slotsUsed := s₂.slotsUsed } : State).setVm s₂.vm), Ls ++ L, c0 + mc, s0 + ms⟩,
      ⟨X.admits, X.cas, X.clock, X.frames, X.room, X.hears, X.method, X.code, (X.here.setHeapUsed s₂.heap s₂.slotsUsed).setVm hW'.alike, X.tail, State.WarmedH.trans X.warmed hW', X.limits, X.bytes, X.same.trans (hsame.setVm s.vm)⟩,
      ⟨g, mk, s₂, L, E, ce, rfl, rfl, hx, hce, hcv, hcl, rfl, hL, rfl, rfl⟩, ?_⟩
    show Steps p.tables e below _ (((({ U with heap := s₂.heap, slotsUsed := s₂.slotsUsed } : State).setVm s₂.vm).setTop g).pushFrame (.throwing q))
    rw [← hs₂]
    exact hsteps
end
variable {p : Program} {l : Launch} {e : Env} {R : Room} {s : State} {m : MethodId} {args : Array Value} {below : List Frame} {meth : Method} {c : Code} {T : State} {H : Heap} {locs : List Loc} {cells slots : Nat}
theorem vx_callVX (X : Stand p l e R s m args below meth c T locs cells slots) (hexec : p.tables.exec = Jvm.exec) {own C : String} {index : Nat} {y : MethodName} {bytes : ByteArray} {maxL : Nat} {ret : Option FieldType} {hh : List (Nat × Nat × Nat × Nat)}
    (hown : s.vm.findClass own = some m.cls) (hlink : (Cond.methodLink own index y).before args s = true) (hinst : (Cond.instanceMethod y).before args s = true) (hsel : (Cond.selects C y y).before args s = true)
    (hcode : (Cond.codeWith y bytes maxL ret hh).before args s = true) (hy : y.cls ≠ "java/lang/invoke/MethodHandle" ∧ y.cls ≠ "java/lang/invoke/VarHandle")
    {W9 : Nat} {Pre : Pt → Array Value → Prop} {Post : Pt → Array Value → Option Value → Pt → Prop} {PostX : Pt → Array Value → Addr → Pt → Prop} (hK : vx_Back l R p e below s args y 3 W9 Pre Post PostX)
    {b : Addr} {cellB : Cell} (hcell : T.heap[b]? = some cellB) (hobj : cellB.vm.isStatics = false) (hcls : s.vm.findClass C = some cellB.cls)
    {g : JFrame} (hg : g.method = m) (hsize : g.locals.size = c.maxLocals) {argsL rest : List Value} (hlen : ∀ sig, parseMethodDescriptor y.desc = some sig → argsL.length = sig.parameters.length)
    (hstack : g.stack = argsL.reverse ++ .ref b :: rest) (hW : 2 * g.monitorRoom + (rest.map fun v => v.category).sum ≤ W9) (hdg : decode c.code g.pc = .ok (.invokevirtual index, 3))
    (hpre : ∀ vm₁, s.WarmedH vm₁ → Pre ⟨T.setVm vm₁, locs, cells, slots⟩ (Value.ref b :: argsL).toArray) :
    (∃ (v : Option Value) (vm₁ : Vm) (B : Pt), s.WarmedH vm₁ ∧ Stand p l e R s m args below meth c B.U B.locs B.cells B.slots ∧ Post ⟨T.setVm vm₁, locs, cells, slots⟩ (Value.ref b :: argsL).toArray v B ∧
      ∀ target, Steps p.tables e below (B.U.setTop { g with pc := g.pc + 3, stack := v.toList ++ rest }) target → Steps p.tables e below (T.setTop g) target) ∨
    (∃ (q : Addr) (vm₁ : Vm) (B : Pt), s.WarmedH vm₁ ∧ Stand p l e R s m args below meth c B.U B.locs B.cells B.slots ∧ PostX ⟨T.setVm vm₁, locs, cells, slots⟩ (Value.ref b :: argsL).toArray q B ∧
      Steps p.tables e below (T.setTop g) ((B.U.setTop { g with stack := rest }).pushFrame (.throwing q))) := by
  obtain ⟨mk, methM, hnamed, hmethM, hstM, habM⟩ := Cond.instanceMethod_spec hinst
  obtain ⟨m8, methM', cM, hn8, hmethM', -, -, -, -, -, -, hsigM⟩ := Cond.codeWith_spec hcode
  cases Option.some.inj (hn8.symm.trans hnamed)
  cases hmethM.symm.trans hmethM'
  obtain ⟨c2, r2, m2, q1, q2, q3, q4, kP, hkP, hkPi⟩ := Cond.selects_spec hsel
  cases hcls.symm.trans q1
  cases (State.methodFound?_of_named hnamed hy).symm.trans q2
  cases hnamed.symm.trans q3
  have hselP : selectMethod e.platform s.vm cellB.cls mk = .method mk := by rw [Launch.admits_selectMethod X.admits]; exact q4
  obtain ⟨vm₁, X₁, hstep₁⟩ := X.invokevirtual hexec hown hlink hnamed hmethM hstM hkP hkPi hy (a := b) (cell := cellB) hcell
    (fun z h => by rw [h] at hobj; cases hobj) hselP hmethM habM hkP hkPi (g := g) hg (argsL := argsL) (rest := rest) (hlen _ hsigM) hstack hdg
  rcases hK m meth c ⟨T.setVm vm₁, locs, cells, slots⟩ { g with stack := rest } (.invokevirtual index) mk (Value.ref b :: argsL).toArray X₁ hg hsize hdg hW (X₁.named hnamed) (hpre vm₁ X₁.warmed) with ⟨v, B, X', hpost, hsteps⟩ | ⟨q, B, X', hpost, hsteps⟩
  · exact Or.inl ⟨v, vm₁, B, X₁.warmed, X', hpost, fun target h => hstep₁ _ fun acts => by rw [doInvoke_state]; exact hsteps.trans h⟩
  · exact Or.inr ⟨q, vm₁, B, X₁.warmed, X', hpost, hstep₁ _ fun acts => by rw [doInvoke_state]; exact hsteps⟩
theorem vx_callSX (X : Stand p l e R s m args below meth c T locs cells slots) (hexec : p.tables.exec = Jvm.exec) {own : String} {index : Nat} {y : MethodName} {bytes : ByteArray} {maxL : Nat} {ret : Option FieldType} {hh : List (Nat × Nat × Nat × Nat)}
    (hown : s.vm.findClass own = some m.cls) (hlink : (Cond.methodLink own index y).before args s = true) (hstat : (Cond.static y).before args s = true) (hinit : (Cond.initialized y.cls).before args s = true)
    (hcode : (Cond.codeWith y bytes maxL ret hh).before args s = true) (hy : y.cls ≠ "java/lang/invoke/MethodHandle" ∧ y.cls ≠ "java/lang/invoke/VarHandle")
    {W9 : Nat} {Pre : Pt → Array Value → Prop} {Post : Pt → Array Value → Option Value → Pt → Prop} {PostX : Pt → Array Value → Addr → Pt → Prop} (hK : vx_Back l R p e below s args y 3 W9 Pre Post PostX)
    {g : JFrame} (hg : g.method = m) (hsize : g.locals.size = c.maxLocals) {argsL rest : List Value} (hlen : ∀ sig, parseMethodDescriptor y.desc = some sig → argsL.length = sig.parameters.length)
    (hstack : g.stack = argsL.reverse ++ rest) (hW : 2 * g.monitorRoom + (rest.map fun v => v.category).sum ≤ W9) (hdg : decode c.code g.pc = .ok (.invokestatic index, 3))
    (hpre : ∀ vm₁, s.WarmedH vm₁ → Pre ⟨T.setVm vm₁, locs, cells, slots⟩ argsL.toArray) :
    (∃ (v : Option Value) (vm₁ : Vm) (B : Pt), s.WarmedH vm₁ ∧ Stand p l e R s m args below meth c B.U B.locs B.cells B.slots ∧ Post ⟨T.setVm vm₁, locs, cells, slots⟩ argsL.toArray v B ∧
      ∀ target, Steps p.tables e below (B.U.setTop { g with pc := g.pc + 3, stack := v.toList ++ rest }) target → Steps p.tables e below (T.setTop g) target) ∨
    (∃ (q : Addr) (vm₁ : Vm) (B : Pt), s.WarmedH vm₁ ∧ Stand p l e R s m args below meth c B.U B.locs B.cells B.slots ∧ PostX ⟨T.setVm vm₁, locs, cells, slots⟩ argsL.toArray q B ∧
      Steps p.tables e below (T.setTop g) ((B.U.setTop { g with stack := rest }).pushFrame (.throwing q))) := by
  obtain ⟨mk, methM, cM, hnamed, hmethM, -, -, -, -, -, -, hsigM⟩ := Cond.codeWith_spec hcode
  have hstatic : methM.isStatic = true := Cond.static_spec hnamed hmethM hstat
  obtain ⟨kP, hkP, -⟩ := className_of_methodNamed hnamed
  have hinitP : kP.init = .initialized := Cond.initialized_spec (findClass_of_methodNamed hnamed) hkP hinit
  obtain ⟨vm₁, X₁, hstep₁⟩ := X.invokestatic hexec hown hlink hnamed hmethM hstatic hkP hinitP hy (g := g) hg (argsL := argsL) (rest := rest) (hlen _ hsigM) hstack hdg
  rcases hK m meth c ⟨T.setVm vm₁, locs, cells, slots⟩ { g with stack := rest } (.invokestatic index) mk argsL.toArray X₁ hg hsize hdg hW (X₁.named hnamed) (hpre vm₁ X₁.warmed) with ⟨v, B, X', hpost, hsteps⟩ | ⟨q, B, X', hpost, hsteps⟩
  · exact Or.inl ⟨v, vm₁, B, X₁.warmed, X', hpost, fun target h => hstep₁ _ fun acts => by rw [doInvoke_state]; exact hsteps.trans h⟩
  · exact Or.inr ⟨q, vm₁, B, X₁.warmed, X', hpost, hstep₁ _ fun acts => by rw [doInvoke_state]; exact hsteps⟩
theorem vx_callVW (X : Stand p l e R s m args below meth c T locs cells slots) (hexec : p.tables.exec = Jvm.exec) {own C : String} {index : Nat} {y : MethodName} {bytes : ByteArray} {maxL : Nat} {ret : Option FieldType} {hh : List (Nat × Nat × Nat × Nat)}
    (hown : s.vm.findClass own = some m.cls) (hlink : (Cond.methodLink own index y).before args s = true) (hinst : (Cond.instanceMethod y).before args s = true) (hsel : (Cond.selects C y y).before args s = true)
    (hcode : (Cond.codeWith y bytes maxL ret hh).before args s = true) (hy : y.cls ≠ "java/lang/invoke/MethodHandle" ∧ y.cls ≠ "java/lang/invoke/VarHandle")
    {W9 : Nat} {Pre : Pt → Array Value → Prop} {Post : Pt → Array Value → Option Value → Pt → Prop} (hK : Back l R p e below s args y 3 W9 Pre Post)
    {b : Addr} {cellB : Cell} (hcell : T.heap[b]? = some cellB) (hobj : cellB.vm.isStatics = false) (hcls : s.vm.findClass C = some cellB.cls)
    {g : JFrame} (hg : g.method = m) (hsize : g.locals.size = c.maxLocals) {argsL rest : List Value} (hlen : ∀ sig, parseMethodDescriptor y.desc = some sig → argsL.length = sig.parameters.length)
    (hstack : g.stack = argsL.reverse ++ .ref b :: rest) (hW : 2 * g.monitorRoom + (rest.map fun v => v.category).sum ≤ W9) (hdg : decode c.code g.pc = .ok (.invokevirtual index, 3))
    (hpre : ∀ vm₁, s.WarmedH vm₁ → Pre ⟨T.setVm vm₁, locs, cells, slots⟩ (Value.ref b :: argsL).toArray) :
    ∃ (v : Option Value) (vm₁ : Vm) (B : Pt), s.WarmedH vm₁ ∧ Stand p l e R s m args below meth c B.U B.locs B.cells B.slots ∧ Post ⟨T.setVm vm₁, locs, cells, slots⟩ (Value.ref b :: argsL).toArray v B ∧
      ∀ target, Steps p.tables e below (B.U.setTop { g with pc := g.pc + 3, stack := v.toList ++ rest }) target → Steps p.tables e below (T.setTop g) target := by
  obtain ⟨mk, methM, hnamed, hmethM, hstM, habM⟩ := Cond.instanceMethod_spec hinst
  obtain ⟨m8, methM', cM, hn8, hmethM', -, -, -, -, -, -, hsigM⟩ := Cond.codeWith_spec hcode
  cases Option.some.inj (hn8.symm.trans hnamed)
  cases hmethM.symm.trans hmethM'
  obtain ⟨c2, r2, m2, q1, q2, q3, q4, kP, hkP, hkPi⟩ := Cond.selects_spec hsel
  cases hcls.symm.trans q1
  cases (State.methodFound?_of_named hnamed hy).symm.trans q2
  cases hnamed.symm.trans q3
  have hselP : selectMethod e.platform s.vm cellB.cls mk = .method mk := by rw [Launch.admits_selectMethod X.admits]; exact q4
  obtain ⟨vm₁, X₁, hstep₁⟩ := X.invokevirtual hexec hown hlink hnamed hmethM hstM hkP hkPi hy (a := b) (cell := cellB) hcell
    (fun z h => by rw [h] at hobj; cases hobj) hselP hmethM habM hkP hkPi (g := g) hg (argsL := argsL) (rest := rest) (hlen _ hsigM) hstack hdg
  obtain ⟨v, B, X', hpost, hsteps⟩ := hK m meth c ⟨T.setVm vm₁, locs, cells, slots⟩ { g with stack := rest } (.invokevirtual index) mk (Value.ref b :: argsL).toArray X₁ hg hsize hdg hW (X₁.named hnamed) (hpre vm₁ X₁.warmed)
  exact ⟨v, vm₁, B, X₁.warmed, X', hpost, fun target h => hstep₁ _ fun acts => by rw [doInvoke_state]; exact hsteps.trans h⟩
abbrev vx_CVW (R : Room) (s : State) (args : Array Value) (own C : String) (index : Nat) (y : MethodName) (bytes : ByteArray) (maxL : Nat) (ret : Option FieldType) (hh : List (Nat × Nat × Nat × Nat)) (ws : List Cond) (rm : Room) (mc ms n : Nat) : Prop :=
  (rm.cells = mc ∧ rm.slots = ms ∧ rm.frames + 1 ≤ R.frames ∧ 8 + (maxL + 11) + rm.locals ≤ R.locals ∧ (∀ w ∈ ws, ∀ (a' : Array Value) (U : State), s.WarmedH U.vm → w.before a' U = true) ∧ Cond.codeWith y bytes maxL ret hh ∈ ws) ∧
  (Cond.codeWith y bytes maxL ret hh).before args s = true ∧ (Cond.initialized y.cls).before args s = true ∧ (y.cls ≠ "java/lang/invoke/MethodHandle" ∧ y.cls ≠ "java/lang/invoke/VarHandle") ∧
  (∀ sig, parseMethodDescriptor y.desc = some sig → n = sig.parameters.length) ∧ (Cond.methodLink own index y).before args s = true ∧ (Cond.instanceMethod y).before args s = true ∧ (Cond.selects C y y).before args s = true
theorem vx_cwVW {own C : String} {index maxL mc ms : Nat} {y : MethodName} {bytes : ByteArray} {ret : Option FieldType} {hh : List (Nat × Nat × Nat × Nat)} {Ts ws ws' : List Cond} {rm : Room} (n : Nat) (ht : ∀ w ∈ Ts, w.before args s = true) (hT : GoodIn Ts (wsV own index C y ws)) (hw : ws = Cond.codeWith y bytes maxL ret hh :: ws') (hrc : rm.cells = mc) (hrs : rm.slots = ms)
    (hd : y.cls = C ∧ y.cls ≠ "java/lang/invoke/MethodHandle" ∧ y.cls ≠ "java/lang/invoke/VarHandle" ∧ (parseMethodDescriptor y.desc).map (fun d => d.parameters.length) = some n) (hR : rm.frames + 1 ≤ R.frames ∧ 8 + (maxL + 11) + rm.locals ≤ R.locals) :
    vx_CVW R s args own C index y bytes maxL ret hh ws rm mc ms n := by
  obtain ⟨hC, hd⟩ := hd
  subst hC
  have ok : ∀ w ∈ wsV own index y.cls y ws, w.before args s = true := fun w h => ht w (hT w h).1
  have hG : GoodIn Ts ws := fun w h => hT w (by unfold wsV; exact List.mem_append_right _ h)
  have hc : Cond.codeWith y bytes maxL ret hh ∈ ws := by rw [hw]; exact List.mem_cons_self
  refine ⟨⟨hrc, hrs, hR.1, hR.2, pay_in ht hG, hc⟩, ht _ (hG _ hc).1, ok _ (by simp [wsV]), ⟨hd.1, hd.2.1⟩, fun sig h => ?_, ok _ (by simp [wsV]), ok _ (by simp [wsV]), ok _ (by simp [wsV])⟩
  have h2 := hd.2.2
  rw [h] at h2
  exact (Option.some.inj h2).symm
theorem vx_runVW {y : MethodName} {bytes cc : ByteArray} {maxL nL mc ms n index : Nat} {ret : Option FieldType} {hh : List (Nat × Nat × Nat × Nat)} {ws : List Cond} {rm : Room} {Pc : Array Value → State → Prop} {Qc : Array Value → State → Outcome → State → Prop} {free : Addr → Prop} {Ts : List Cond} {own C : String} {b : Addr} {As rest : List Value} {g : JFrame}
    (S : CallFix p m c cc nL s args Ts own) (hM : Met l y ws rm Pc Qc mc ms free) (cw : vx_CVW R s args own C index y bytes maxL ret hh ws rm mc ms n) (hp : PreV s H C b Pc As)
    (hg : g.method = m) (hn : As.length = n) (hsize : g.locals.size = nL) (hstack : g.stack = As.reverse ++ .ref b :: rest) (hW : 2 * g.monitorRoom + (rest.map fun v => v.category).sum ≤ 8) (hdg : decode cc g.pc = .ok (.invokevirtual index, 3)) (hf : cells + mc ≤ R.cells ∧ slots + ms ≤ R.slots) :
    va_Run p l e R s m args below meth c H locs cells slots mc ms g rest (Qc (Value.ref b :: As).toArray) free := by
  obtain ⟨⟨hrc, hrs, hfr, hlo, hws, hcw⟩, hcode, hini, hy, hlen, hl, hin, hse⟩ := cw
  have hK : Back l R p e below s args y 3 8 (PreOf R mc ms Pc) (PostOf Qc mc ms free) := va_backW (hh := hh) (bytes := bytes) (maxL := maxL) (ret := ret) hM hp.1 hrc hrs hfr hlo hws hcw (fun a' U hW => word_at hW (Or.inl (by first | rfl | simp [Cond.onTables, Cond.keeps, Cond.steady])) hini)
  obtain ⟨hx, hb, hml, ho, -⟩ := S
  obtain ⟨-, ⟨cellB, hcB, hoB, hclB⟩, hPc⟩ := hp
  intro T hT X
  obtain ⟨v, vm₁, ⟨U', l2, c2, s2⟩, hW₁, X', ⟨g', mk, t, L, e1, e2, hq, h1, hL, h2, h3⟩, st⟩ := vx_callVW X hx (C := C) (hh := hh) (bytes := bytes) (maxL := maxL) (ret := ret) ho hl hin hse hcode hy hK (by rw [hT]; exact hcB) hoB hclB hg (hsize.trans hml.symm) (argsL := As) (rest := rest) (fun sig h => hn.trans (hlen sig h)) hstack hW (by rw [hb]; exact hdg)
    (fun vm₁ hW₁ => ⟨hf.1, hf.2, hPc (T.setVm vm₁) hT hW₁⟩)
  dsimp only [Pt.U, Pt.locs, Pt.cells, Pt.slots] at X' e1 e2 h1 h2 h3 st
  subst h1; subst h2; subst h3
  exact ⟨v, (T.setVm vm₁).calling g' mk (Value.ref b :: As).toArray, t, U', L, hT, X', hL, e1, e2, hq, st⟩
section
variable {y : MethodName} {bytes cc : ByteArray} {maxL nL mc ms n index : Nat} {ret : Option FieldType} {ws : List Cond} {rm : Room} {Pc : Array Value → State → Prop} {Qc : Array Value → State → Outcome → State → Prop} {XC : String → State → State → Prop} {free : Addr → Prop} {Ts : List Cond} {own C : String} {b : Addr} {As rest : List Value} {g : JFrame}
theorem vx_runVX {hh : List (Nat × Nat × Nat × Nat)} (S : CallFix p m c cc nL s args Ts own) (hM : vx_Met l y ws rm Pc Qc XC mc ms free) (cw : vx_CVW R s args own C index y bytes maxL ret hh ws rm mc ms n) (hp : PreV s H C b Pc As)
    (hg : g.method = m) (hn : As.length = n) (hsize : g.locals.size = nL) (hstack : g.stack = As.reverse ++ .ref b :: rest) (hW : 2 * g.monitorRoom + (rest.map fun v => v.category).sum ≤ 8) (hdg : decode cc g.pc = .ok (.invokevirtual index, 3)) (hf : cells + mc ≤ R.cells ∧ slots + ms ≤ R.slots) :
    vx_Run p l e R s m args below meth c H locs cells slots mc ms g rest (Qc (Value.ref b :: As).toArray) XC free := by
  obtain ⟨⟨hrc, hrs, hfr, hlo, hws, hcw⟩, hcode, hini, hy, hlen, hl, hin, hse⟩ := cw
  have hK : vx_Back l R p e below s args y 3 8 (PreOf R mc ms Pc) (PostOf Qc mc ms free) (vx_Post XC mc ms free) := vx_backW (hh := hh) (bytes := bytes) (maxL := maxL) (ret := ret) hM hp.1 hrc hrs hfr hlo hws hcw (fun a' U hW => word_at hW (Or.inl (by first | rfl | simp [Cond.onTables, Cond.keeps, Cond.steady])) hini)
  obtain ⟨hx, hb, hml, ho, -⟩ := S
  obtain ⟨-, ⟨cellB, hcB, hoB, hclB⟩, hPc⟩ := hp
  intro T hT X
  rcases vx_callVX X hx (C := C) (hh := hh) (bytes := bytes) (maxL := maxL) (ret := ret) ho hl hin hse hcode hy hK (by rw [hT]; exact hcB) hoB hclB hg (hsize.trans hml.symm) (argsL := As) (rest := rest) (fun sig h => hn.trans (hlen sig h)) hstack hW (by rw [hb]; exact hdg)
    (fun vm₁ hW₁ => ⟨hf.1, hf.2, hPc (T.setVm vm₁) hT hW₁⟩) with ⟨v, vm₁, ⟨U', l2, c2, s2⟩, hW₁, X', ⟨g', mk, t, L, e1, e2, hq, h1, hL, h2, h3⟩, st⟩ | ⟨q, vm₁, ⟨U', l2, c2, s2⟩, hW₁, X', ⟨g', mk, t, L, E, ce, e1, e2, hq, hce, hcv, hcl, h1, hL, h2, h3⟩, st⟩
  · dsimp only [Pt.U, Pt.locs, Pt.cells, Pt.slots] at X' e1 e2 h1 h2 h3 st
    subst h1; subst h2; subst h3
    exact Or.inl ⟨v, (T.setVm vm₁).calling g' mk (Value.ref b :: As).toArray, t, U', L, hT, X', hL, e1, e2, hq, st⟩
  · dsimp only [Pt.U, Pt.locs, Pt.cells, Pt.slots] at X' e1 e2 h1 h2 h3 st hcl
    subst h1; subst h2; subst h3
    exact Or.inr ⟨q, (T.setVm vm₁).calling g' mk (Value.ref b :: As).toArray, t, U', L, E, ce, hT, X', hL, e1, e2, hq, hce, hcv, vx_cls hW₁ hcl, st⟩
theorem vx_runSX {hh : List (Nat × Nat × Nat × Nat)} (S : CallFix p m c cc nL s args Ts own) (hM : vx_Met l y ws rm Pc Qc XC mc ms free) (cw : vx_CSW R s args own index y bytes maxL ret hh ws rm mc ms n) (hp : PreS s H Pc As)
    (hg : g.method = m) (hn : As.length = n) (hsize : g.locals.size = nL) (hstack : g.stack = As.reverse ++ rest) (hW : 2 * g.monitorRoom + (rest.map fun v => v.category).sum ≤ 8) (hdg : decode cc g.pc = .ok (.invokestatic index, 3)) (hf : cells + mc ≤ R.cells ∧ slots + ms ≤ R.slots) :
    vx_Run p l e R s m args below meth c H locs cells slots mc ms g rest (Qc As.toArray) XC free := by
  obtain ⟨⟨hrc, hrs, hfr, hlo, hws, hcw⟩, hcode, hini, hy, hlen, hl, hstt⟩ := cw
  have hK : vx_Back l R p e below s args y 3 8 (PreOf R mc ms Pc) (PostOf Qc mc ms free) (vx_Post XC mc ms free) := vx_backW (hh := hh) (bytes := bytes) (maxL := maxL) (ret := ret) hM hp.1 hrc hrs hfr hlo hws hcw (fun a' U hW => word_at hW (Or.inl (by first | rfl | simp [Cond.onTables, Cond.keeps, Cond.steady])) hini)
  obtain ⟨hx, hb, hml, ho, -⟩ := S
  intro T hT X
  rcases vx_callSX X hx (hh := hh) (bytes := bytes) (maxL := maxL) (ret := ret) ho hl hstt hini hcode hy hK hg (hsize.trans hml.symm) (argsL := As) (rest := rest) (fun sig h => hn.trans (hlen sig h)) hstack hW (by rw [hb]; exact hdg)
    (fun vm₁ hW₁ => ⟨hf.1, hf.2, hp.2 (T.setVm vm₁) hT hW₁⟩) with ⟨v, vm₁, ⟨U', l2, c2, s2⟩, hW₁, X', ⟨g', mk, t, L, e1, e2, hq, h1, hL, h2, h3⟩, st⟩ | ⟨q, vm₁, ⟨U', l2, c2, s2⟩, hW₁, X', ⟨g', mk, t, L, E, ce, e1, e2, hq, hce, hcv, hcl, h1, hL, h2, h3⟩, st⟩
  · dsimp only [Pt.U, Pt.locs, Pt.cells, Pt.slots] at X' e1 e2 h1 h2 h3 st
    subst h1; subst h2; subst h3
    exact Or.inl ⟨v, (T.setVm vm₁).calling g' mk As.toArray, t, U', L, hT, X', hL, e1, e2, hq, st⟩
  · dsimp only [Pt.U, Pt.locs, Pt.cells, Pt.slots] at X' e1 e2 h1 h2 h3 st hcl
    subst h1; subst h2; subst h3
    exact Or.inr ⟨q, (T.setVm vm₁).calling g' mk As.toArray, t, U', L, E, ce, hT, X', hL, e1, e2, hq, hce, hcv, vx_cls hW₁ hcl, st⟩
end
end VXH
theorem vx_ofWH {l : Launch} {y : MethodName} {ws ws' : List Cond} {rm : Room} {Pc : Array Value → State → Prop} {Qc : Array Value → State → Outcome → State → Prop} {XC : String → State → State → Prop} {mc ms : Nat} {free : Addr → Prop} {cc : ByteArray} {maxL : Nat} {ret : Option FieldType} {hh : List (Nat × Nat × Nat × Nat)}
    (hy : plainName y.cls = true) (hw : ws = Cond.codeWith y cc maxL ret hh :: ws')
    (body : ∀ p e s m args below meth c s₁, BodyLoose p l y (headSpec ws rm) cc maxL ret e s m args below meth c s₁ → c.maxLocals = maxL → Pc args s →
      W p l e (headSpec ws rm).room s m args below meth c s.heap [] 0 0 (vx_MQ below Qc XC args s mc ms free) (entryFrame m args maxL)) : vx_Met l y ws rm Pc Qc XC mc ms free := by
  refine MetFree.of_bodyS (code := cc) (maxLocals := maxL) (ret := ret) hy ?_ ?_
  · intro args s m h hn
    obtain ⟨m9, meth, c, hn9, h1, h2, h3, h4, -, h5, h6, -⟩ := Cond.codeWith_spec (atoms_spec (ws := ws) h _ (by rw [hw]; exact List.mem_cons_self))
    cases hn.symm.trans hn9
    exact ⟨meth, c, h1, h2, h3, h4, h5, h6⟩
  · intro p e s m args below meth c s₁ B hml hP _
    have hh0 : s₁.heap = s.heap := by rw [B.state]; rfl
    obtain ⟨t, a1, o, b1, b2, b3⟩ := body p e s m args below meth c s₁ B hml hP s₁ hh0 (Stand.of_body B)
    exact ⟨t, o, a1, b1, b2, b3⟩
/-! ===== END ===== -/
end
section
/-! ===== BEGIN printed: names, fields, word lists, decode rows ===== -/
def RX0 : String := "BagHall"
def TX0 : u_T := fun k => match k with
  | 0 => ("BagHall", "now", "I", false)
  | 1 => ("BagHall", "flightCount", "I", false)
  | 2 => ("BagHall", "departures", "[I", true)
  | 3 => ("BagHall", "laterals", "[I", true)
  | 4 => ("BagHall", "boarded", "[Z", true)
  | 5 => ("BagHall", "bagCount", "I", false)
  | 6 => ("BagHall", "bagFlights", "[I", true)
  | 7 => ("BagHall", "bagRiders", "[I", true)
  | 8 => ("BagHall", "onPurpose", "[Z", true)
  | 9 => ("BagHall", "bagPlaces", "[I", true)
  | 10 => ("BagHall", "lastScans", "[I", true)
  | 11 => ("BagHall", "cameAt", "[I", true)
  | 12 => ("BagHall", "bagsAt", "[I", true)
  | 13 => ("BagHall", "scanCount", "I", false)
  | 14 => ("BagHall", "scanBags", "[I", true)
  | 15 => ("BagHall", "scanPlaces", "[I", true)
  | _ => ("BagHall", "scanTimes", "[I", true)
def tyX0 : Nat → FieldType := fun k => match k with
  | 0 => .int
  | 1 => .int
  | 2 => .array .int
  | 3 => .array .int
  | 4 => .array .boolean
  | 5 => .int
  | 6 => .array .int
  | 7 => .array .int
  | 8 => .array .boolean
  | 9 => .array .int
  | 10 => .array .int
  | 11 => .array .int
  | 12 => .array .int
  | 13 => .int
  | 14 => .array .int
  | 15 => .array .int
  | _ => .array .int
abbrev wsX00 : List Cond := u_ws RX0 TX0 17
theorem nmX0 : ∀ a, a < 17 → ∀ b, b < 17 → a ≠ b → (TX0 a).2.1 ≠ (TX0 b).2.1 := by decide +kernel
theorem tyX0_ok : ∀ k, k < 17 → parseFieldDescriptor (TX0 k).2.2.1 = some (tyX0 k) := by decide +kernel
abbrev cX0_init : ByteArray := prog_1_method_1_code
def yX0_init : MethodName := ⟨RX0, "<init>", "()V"⟩
abbrev cX0_addFlight : ByteArray := prog_1_method_2_code
def yX0_addFlight : MethodName := ⟨RX0, "addFlight", "(I)I"⟩
abbrev cX0_board : ByteArray := prog_1_method_3_code
def yX0_board : MethodName := ⟨RX0, "board", "(IZ)Z"⟩
abbrev cX0_pass : ByteArray := prog_1_method_4_code
def yX0_pass : MethodName := ⟨RX0, "pass", "(I)I"⟩
abbrev cX0_time : ByteArray := prog_1_method_5_code
def yX0_time : MethodName := ⟨RX0, "time", "()I"⟩
abbrev cX0_lateralOf : ByteArray := prog_1_method_6_code
def yX0_lateralOf : MethodName := ⟨RX0, "lateralOf", "(I)I"⟩
abbrev cX0_checkIn : ByteArray := prog_1_method_7_code
def yX0_checkIn : MethodName := ⟨RX0, "checkIn", "(II)I"⟩
abbrev cX0_transfer : ByteArray := prog_1_method_8_code
def yX0_transfer : MethodName := ⟨RX0, "transfer", "(II)I"⟩
abbrev cX0_decide : ByteArray := prog_1_method_9_code
def yX0_decide : MethodName := ⟨RX0, "decide", "(IZ)I"⟩
abbrev cX0_letGo : ByteArray := prog_1_method_10_code
def yX0_letGo : MethodName := ⟨RX0, "letGo", "(I)I"⟩
abbrev cX0_load : ByteArray := prog_1_method_11_code
def yX0_load : MethodName := ⟨RX0, "load", "(I)I"⟩
abbrev cX0_offload : ByteArray := prog_1_method_12_code
def yX0_offload : MethodName := ⟨RX0, "offload", "(I)I"⟩
abbrev cX0_sendOn : ByteArray := prog_1_method_13_code
def yX0_sendOn : MethodName := ⟨RX0, "sendOn", "(II)I"⟩
abbrev cX0_bags : ByteArray := prog_1_method_14_code
def yX0_bags : MethodName := ⟨RX0, "bags", "()I"⟩
abbrev cX0_placeOf : ByteArray := prog_1_method_15_code
def yX0_placeOf : MethodName := ⟨RX0, "placeOf", "(I)I"⟩
abbrev cX0_placeByScans : ByteArray := prog_1_method_16_code
def yX0_placeByScans : MethodName := ⟨RX0, "placeByScans", "(II)I"⟩
abbrev cX0_flightOf : ByteArray := prog_1_method_17_code
def yX0_flightOf : MethodName := ⟨RX0, "flightOf", "(I)I"⟩
abbrev cX0_count : ByteArray := prog_1_method_18_code
def yX0_count : MethodName := ⟨RX0, "count", "(I)I"⟩
abbrev cX0_atLateral : ByteArray := prog_1_method_19_code
def yX0_atLateral : MethodName := ⟨RX0, "atLateral", "(I)I"⟩
abbrev cX0_unmatched : ByteArray := prog_1_method_20_code
def yX0_unmatched : MethodName := ⟨RX0, "unmatched", "(I)I"⟩
abbrev cX0_untilClose : ByteArray := prog_1_method_21_code
def yX0_untilClose : MethodName := ⟨RX0, "untilClose", "(I)I"⟩
abbrev cX0_scans : ByteArray := prog_1_method_22_code
def yX0_scans : MethodName := ⟨RX0, "scans", "()I"⟩
abbrev cX0_bagOfScan : ByteArray := prog_1_method_23_code
def yX0_bagOfScan : MethodName := ⟨RX0, "bagOfScan", "(I)I"⟩
abbrev cX0_placeOfScan : ByteArray := prog_1_method_24_code
def yX0_placeOfScan : MethodName := ⟨RX0, "placeOfScan", "(I)I"⟩
abbrev cX0_requireFlight : ByteArray := prog_1_method_25_code
def yX0_requireFlight : MethodName := ⟨RX0, "requireFlight", "(I)V"⟩
abbrev cX0_requireRider : ByteArray := prog_1_method_26_code
def yX0_requireRider : MethodName := ⟨RX0, "requireRider", "(I)V"⟩
abbrev cX0_requireBag : ByteArray := prog_1_method_27_code
def yX0_requireBag : MethodName := ⟨RX0, "requireBag", "(I)V"⟩
abbrev cX0_requireScan : ByteArray := prog_1_method_28_code
def yX0_requireScan : MethodName := ⟨RX0, "requireScan", "(I)V"⟩
abbrev cX0_requirePlace : ByteArray := prog_1_method_29_code
def yX0_requirePlace : MethodName := ⟨RX0, "requirePlace", "(II)V"⟩
abbrev cX0_requireNotDeparted : ByteArray := prog_1_method_30_code
def yX0_requireNotDeparted : MethodName := ⟨RX0, "requireNotDeparted", "(I)V"⟩
abbrev cX0_lowestFreeLateral : ByteArray := prog_1_method_31_code
def yX0_lowestFreeLateral : MethodName := ⟨RX0, "lowestFreeLateral", "(I)I"⟩
abbrev cX0_isFree : ByteArray := prog_1_method_32_code
def yX0_isFree : MethodName := ⟨RX0, "isFree", "(II)Z"⟩
abbrev cX0_closing : ByteArray := prog_1_method_33_code
def yX0_closing : MethodName := ⟨RX0, "closing", "(I)I"⟩
abbrev cX0_hasClosed : ByteArray := prog_1_method_34_code
def yX0_hasClosed : MethodName := ⟨RX0, "hasClosed", "(I)Z"⟩
abbrev cX0_hasOpened : ByteArray := prog_1_method_35_code
def yX0_hasOpened : MethodName := ⟨RX0, "hasOpened", "(I)Z"⟩
abbrev cX0_loadedBags : ByteArray := prog_1_method_36_code
def yX0_loadedBags : MethodName := ⟨RX0, "loadedBags", "(I)I"⟩
abbrev cX0_isLoadedFor : ByteArray := prog_1_method_37_code
def yX0_isLoadedFor : MethodName := ⟨RX0, "isLoadedFor", "(II)Z"⟩
abbrev cX0_mayFly : ByteArray := prog_1_method_38_code
def yX0_mayFly : MethodName := ⟨RX0, "mayFly", "(I)Z"⟩
abbrev cX0_decisionTime : ByteArray := prog_1_method_39_code
def yX0_decisionTime : MethodName := ⟨RX0, "decisionTime", "(I)I"⟩
abbrev cX0_nextLevel : ByteArray := prog_1_method_40_code
def yX0_nextLevel : MethodName := ⟨RX0, "nextLevel", "(I)I"⟩
abbrev cX0_takeIn : ByteArray := prog_1_method_41_code
def yX0_takeIn : MethodName := ⟨RX0, "takeIn", "(II)I"⟩
abbrev cX0_route : ByteArray := prog_1_method_42_code
def yX0_route : MethodName := ⟨RX0, "route", "(I)V"⟩
abbrev cX0_routeTo : ByteArray := prog_1_method_43_code
def yX0_routeTo : MethodName := ⟨RX0, "routeTo", "(I)I"⟩
abbrev cX0_bring : ByteArray := prog_1_method_44_code
def yX0_bring : MethodName := ⟨RX0, "bring", "(II)V"⟩
abbrev cX0_scan : ByteArray := prog_1_method_45_code
def yX0_scan : MethodName := ⟨RX0, "scan", "(II)V"⟩
abbrev cX0_passOneMinute : ByteArray := prog_1_method_46_code
def yX0_passOneMinute : MethodName := ⟨RX0, "passOneMinute", "()V"⟩
abbrev cX0_emptyStore : ByteArray := prog_1_method_47_code
def yX0_emptyStore : MethodName := ⟨RX0, "emptyStore", "()V"⟩
abbrev cX0_firstToLeaveStore : ByteArray := prog_1_method_48_code
def yX0_firstToLeaveStore : MethodName := ⟨RX0, "firstToLeaveStore", "()I"⟩
abbrev cX0_routeLoop : ByteArray := prog_1_method_49_code
def yX0_routeLoop : MethodName := ⟨RX0, "routeLoop", "()V"⟩
abbrev cX0_depart : ByteArray := prog_1_method_50_code
def yX0_depart : MethodName := ⟨RX0, "depart", "()V"⟩
abbrev cX0_settleBags : ByteArray := prog_1_method_51_code
def yX0_settleBags : MethodName := ⟨RX0, "settleBags", "(I)V"⟩
abbrev cX0_settle : ByteArray := prog_1_method_52_code
def yX0_settle : MethodName := ⟨RX0, "settle", "(I)V"⟩
def RX1 : String := "BagHallModel"
def TX1 : u_T := fun k => match k with
  | _ => ("", "", "", false)
def tyX1 : Nat → FieldType := fun k => match k with
  | _ => .int
abbrev wsX10 : List Cond := u_ws RX1 TX1 0
theorem nmX1 : ∀ a, a < 0 → ∀ b, b < 0 → a ≠ b → (TX1 a).2.1 ≠ (TX1 b).2.1 := by decide +kernel
theorem tyX1_ok : ∀ k, k < 0 → parseFieldDescriptor (TX1 k).2.2.1 = some (tyX1 k) := by decide +kernel
def RJ9 : String := "java/lang/Math"
def TJ9 : u_T := fun k => match k with
  | _ => ("", "", "", false)
def tyJ9 : Nat → FieldType := fun k => match k with
  | _ => .int
abbrev wsJ90 : List Cond := u_ws RJ9 TJ9 0
theorem nmJ9 : ∀ a, a < 0 → ∀ b, b < 0 → a ≠ b → (TJ9 a).2.1 ≠ (TJ9 b).2.1 := by decide +kernel
theorem tyJ9_ok : ∀ k, k < 0 → parseFieldDescriptor (TJ9 k).2.2.1 = some (tyJ9 k) := by decide +kernel
abbrev cJ9_abs_0f7a4 : ByteArray := prog_8_method_59_code
def yJ9_abs_0f7a4 : MethodName := ⟨RJ9, "abs", "(I)I"⟩
abbrev cJ9_max_7cf53 : ByteArray := prog_8_method_65_code
def yJ9_max_7cf53 : MethodName := ⟨RJ9, "max", "(II)I"⟩
def RJ0 : String := "java/lang/String"
def TJ0 : u_T := fun k => match k with
  | _ => ("", "", "", false)
def tyJ0 : Nat → FieldType := fun k => match k with
  | _ => .int
abbrev wsJ00 : List Cond := u_ws RJ0 TJ0 0
theorem nmJ0 : ∀ a, a < 0 → ∀ b, b < 0 → a ≠ b → (TJ0 a).2.1 ≠ (TJ0 b).2.1 := by decide +kernel
theorem tyJ0_ok : ∀ k, k < 0 → parseFieldDescriptor (TJ0 k).2.2.1 = some (tyJ0 k) := by decide +kernel
def RL : String := "BagHallLaw"
abbrev cL_low : ByteArray := method_2_code
def yL_low : MethodName := ⟨RL, "low", "(II)I"⟩
abbrev cL_cell : ByteArray := method_3_code
def yL_cell : MethodName := ⟨RL, "cell", "([II)I"⟩
abbrev cL_addFlight : ByteArray := method_4_code
def yL_addFlight : MethodName := ⟨RL, "addFlight", "(LBagHall;I)I"⟩
abbrev cL_comes : ByteArray := method_5_code
def yL_comes : MethodName := ⟨RL, "comes", "(LBagHall;IIZ)I"⟩
abbrev cL_decide : ByteArray := method_6_code
def yL_decide : MethodName := ⟨RL, "decide", "(LBagHall;IZ)I"⟩
abbrev cL_sendOn : ByteArray := method_7_code
def yL_sendOn : MethodName := ⟨RL, "sendOn", "(LBagHall;II)I"⟩
abbrev cL_holds : ByteArray := method_8_code
def yL_holds : MethodName := ⟨RL, "holds", "(LBagHall;I)Z"⟩
abbrev cL_scanned : ByteArray := method_9_code
def yL_scanned : MethodName := ⟨RL, "scanned", "(LBagHall;III)Z"⟩
abbrev cL_works : ByteArray := method_10_code
def yL_works : MethodName := ⟨RL, "works", "(LBagHall;II)Z"⟩
abbrev cL_law : ByteArray := code
def yL_law : MethodName := ⟨RL, "law", "([I)Z"⟩
def wsX0_init : List Cond := .code yX0_init cX0_init 1 none :: ([.methodLink RX0 1 objectInit, .instanceMethod objectInit, .code objectInit ⟨#[0xb1]⟩ 1 none, .arrayClass .int, .fieldLink RX0 9 "BagHall" "departures" "[I", .fieldLink RX0 13 "BagHall" "laterals" "[I", .arrayClass .boolean, .fieldLink RX0 16 "BagHall" "boarded" "[Z", .fieldLink RX0 20 "BagHall" "bagFlights" "[I", .fieldLink RX0 23 "BagHall" "bagRiders" "[I", .fieldLink RX0 26 "BagHall" "onPurpose" "[Z", .fieldLink RX0 29 "BagHall" "bagPlaces" "[I", .fieldLink RX0 32 "BagHall" "lastScans" "[I", .fieldLink RX0 35 "BagHall" "cameAt" "[I", .fieldLink RX0 38 "BagHall" "bagsAt" "[I", .fieldLink RX0 41 "BagHall" "scanBags" "[I", .fieldLink RX0 44 "BagHall" "scanPlaces" "[I", .fieldLink RX0 47 "BagHall" "scanTimes" "[I"] ++ wsX00)
def wsX0_isFree : List Cond := .code yX0_isFree cX0_isFree 4 (some .boolean) :: ([.fieldLink RX0 57 "BagHall" "flightCount" "I", .fieldLink RX0 13 "BagHall" "laterals" "[I", .fieldLink RX0 9 "BagHall" "departures" "[I", .methodLink RX0 169 Lib.Math.abs.name, .static Lib.Math.abs.name, .initialized "java/lang/Math", .code Lib.Math.abs.name Lib.Math.abs.code 1 (some .int)] ++ wsX00)
def wsX0_lowestFreeLateral : List Cond := .code yX0_lowestFreeLateral cX0_lowestFreeLateral 3 (some .int) :: ([.methodLink RX0 166 yX0_isFree, .instanceMethod yX0_isFree, .selects RX0 yX0_isFree yX0_isFree, .initialized RX0, .code yX0_isFree cX0_isFree 4 (some .boolean), .fieldLink RX0 57 "BagHall" "flightCount" "I", .fieldLink RX0 13 "BagHall" "laterals" "[I", .fieldLink RX0 9 "BagHall" "departures" "[I", .methodLink RX0 169 Lib.Math.abs.name, .static Lib.Math.abs.name, .initialized "java/lang/Math", .code Lib.Math.abs.name Lib.Math.abs.code 1 (some .int)] ++ wsX00)
def wsX0_addFlight : List Cond := .code yX0_addFlight cX0_addFlight 4 (some .int) :: ([.classLink RX0 50 "java/lang/IllegalArgumentException", .initialized "java/lang/IllegalArgumentException", .classLink RX0 61 "java/lang/IllegalStateException", .initialized "java/lang/IllegalStateException", .fieldLink RX0 57 "BagHall" "flightCount" "I", .fieldLink RX0 66 "BagHall" "now" "I", .fieldLink RX0 13 "BagHall" "laterals" "[I", .fieldLink RX0 9 "BagHall" "departures" "[I", .methodLink RX0 69 yX0_lowestFreeLateral, .instanceMethod yX0_lowestFreeLateral, .selects RX0 yX0_lowestFreeLateral yX0_lowestFreeLateral, .initialized RX0, .code yX0_lowestFreeLateral cX0_lowestFreeLateral 3 (some .int), .methodLink RX0 166 yX0_isFree, .instanceMethod yX0_isFree, .selects RX0 yX0_isFree yX0_isFree, .code yX0_isFree cX0_isFree 4 (some .boolean), .methodLink RX0 169 Lib.Math.abs.name, .static Lib.Math.abs.name, .initialized "java/lang/Math", .code Lib.Math.abs.name Lib.Math.abs.code 1 (some .int)] ++ wsX00 ++ (vx_atS RX0 54 "java/lang/IllegalArgumentException" ["java/lang/RuntimeException", "java/lang/Exception"]).filter goodWord ++ (vx_atS RX0 65 "java/lang/IllegalStateException" ["java/lang/RuntimeException", "java/lang/Exception"]).filter goodWord)
def wsX0_requireRider : List Cond := .code yX0_requireRider cX0_requireRider 2 none :: ([.classLink RX0 130 "java/lang/IndexOutOfBoundsException", .initialized "java/lang/IndexOutOfBoundsException"] ++ (vx_atS RX0 134 "java/lang/IndexOutOfBoundsException" ["java/lang/RuntimeException", "java/lang/Exception"]).filter goodWord)
def wsX0_board : List Cond := .code yX0_board cX0_board 4 (some .boolean) :: ([.fieldLink RX0 16 "BagHall" "boarded" "[Z", .methodLink RX0 73 yX0_requireRider, .instanceMethod yX0_requireRider, .selects RX0 yX0_requireRider yX0_requireRider, .initialized RX0, .code yX0_requireRider cX0_requireRider 2 none, .classLink RX0 130 "java/lang/IndexOutOfBoundsException", .initialized "java/lang/IndexOutOfBoundsException"] ++ wsX00 ++ (vx_atS RX0 134 "java/lang/IndexOutOfBoundsException" ["java/lang/RuntimeException", "java/lang/Exception"]).filter goodWord)
def wsX0_hasOpened : List Cond := .code yX0_hasOpened cX0_hasOpened 2 (some .boolean) :: ([.fieldLink RX0 66 "BagHall" "now" "I", .fieldLink RX0 9 "BagHall" "departures" "[I"] ++ wsX00)
def wsX0_firstToLeaveStore : List Cond := .code yX0_firstToLeaveStore cX0_firstToLeaveStore 3 (some .int) :: ([.fieldLink RX0 38 "BagHall" "bagsAt" "[I", .fieldLink RX0 123 "BagHall" "bagCount" "I", .fieldLink RX0 29 "BagHall" "bagPlaces" "[I", .fieldLink RX0 20 "BagHall" "bagFlights" "[I", .fieldLink RX0 32 "BagHall" "lastScans" "[I", .methodLink RX0 180 yX0_hasOpened, .instanceMethod yX0_hasOpened, .selects RX0 yX0_hasOpened yX0_hasOpened, .initialized RX0, .code yX0_hasOpened cX0_hasOpened 2 (some .boolean), .fieldLink RX0 66 "BagHall" "now" "I", .fieldLink RX0 9 "BagHall" "departures" "[I"] ++ wsX00)
def wsX0_scan : List Cond := .code yX0_scan cX0_scan 3 none :: ([.fieldLink RX0 79 "BagHall" "scanCount" "I", .fieldLink RX0 41 "BagHall" "scanBags" "[I", .fieldLink RX0 44 "BagHall" "scanPlaces" "[I", .fieldLink RX0 47 "BagHall" "scanTimes" "[I", .fieldLink RX0 66 "BagHall" "now" "I"] ++ wsX00)
def wsX0_bring : List Cond := .code yX0_bring cX0_bring 3 none :: ([.fieldLink RX0 38 "BagHall" "bagsAt" "[I", .fieldLink RX0 29 "BagHall" "bagPlaces" "[I", .fieldLink RX0 35 "BagHall" "cameAt" "[I", .fieldLink RX0 66 "BagHall" "now" "I", .fieldLink RX0 32 "BagHall" "lastScans" "[I", .fieldLink RX0 79 "BagHall" "scanCount" "I", .methodLink RX0 183 yX0_scan, .instanceMethod yX0_scan, .selects RX0 yX0_scan yX0_scan, .initialized RX0, .code yX0_scan cX0_scan 3 none, .fieldLink RX0 41 "BagHall" "scanBags" "[I", .fieldLink RX0 44 "BagHall" "scanPlaces" "[I", .fieldLink RX0 47 "BagHall" "scanTimes" "[I"] ++ wsX00)
def wsX0_emptyStore_r1 : List Cond := [Cond.methodLink RX0 195 yX0_firstToLeaveStore, Cond.instanceMethod yX0_firstToLeaveStore, Cond.selects RX0 yX0_firstToLeaveStore yX0_firstToLeaveStore, Cond.initialized RX0, Cond.code yX0_firstToLeaveStore cX0_firstToLeaveStore 3 (some .int), Cond.fieldLink RX0 38 "BagHall" "bagsAt" "[I", Cond.fieldLink RX0 123 "BagHall" "bagCount" "I", Cond.fieldLink RX0 29 "BagHall" "bagPlaces" "[I", Cond.fieldLink RX0 20 "BagHall" "bagFlights" "[I", Cond.fieldLink RX0 32 "BagHall" "lastScans" "[I", Cond.methodLink RX0 180 yX0_hasOpened, Cond.instanceMethod yX0_hasOpened, Cond.selects RX0 yX0_hasOpened yX0_hasOpened, Cond.code yX0_hasOpened cX0_hasOpened 2 (some .boolean), Cond.fieldLink RX0 66 "BagHall" "now" "I", Cond.fieldLink RX0 9 "BagHall" "departures" "[I", Cond.methodLink RX0 92 yX0_bring, Cond.instanceMethod yX0_bring, Cond.selects RX0 yX0_bring yX0_bring, Cond.code yX0_bring cX0_bring 3 none, Cond.fieldLink RX0 35 "BagHall" "cameAt" "[I", Cond.fieldLink RX0 79 "BagHall" "scanCount" "I", Cond.methodLink RX0 183 yX0_scan, Cond.instanceMethod yX0_scan]
def wsX0_emptyStore_r2 : List Cond := [Cond.selects RX0 yX0_scan yX0_scan, Cond.code yX0_scan cX0_scan 3 none, Cond.fieldLink RX0 41 "BagHall" "scanBags" "[I", Cond.fieldLink RX0 44 "BagHall" "scanPlaces" "[I", Cond.fieldLink RX0 47 "BagHall" "scanTimes" "[I"]
def wsX0_emptyStore : List Cond := .code yX0_emptyStore cX0_emptyStore 3 none :: ((wsX0_emptyStore_r1 ++ wsX0_emptyStore_r2) ++ wsX00)
def wsX0_closing : List Cond := .code yX0_closing cX0_closing 2 (some .int) :: ([.fieldLink RX0 9 "BagHall" "departures" "[I"] ++ wsX00)
def wsX0_hasClosed : List Cond := .code yX0_hasClosed cX0_hasClosed 2 (some .boolean) :: ([.fieldLink RX0 66 "BagHall" "now" "I", .methodLink RX0 143 yX0_closing, .instanceMethod yX0_closing, .selects RX0 yX0_closing yX0_closing, .initialized RX0, .code yX0_closing cX0_closing 2 (some .int), .fieldLink RX0 9 "BagHall" "departures" "[I"] ++ wsX00)
def wsX0_routeTo : List Cond := .code yX0_routeTo cX0_routeTo 2 (some .int) :: ([.fieldLink RX0 13 "BagHall" "laterals" "[I", .fieldLink RX0 38 "BagHall" "bagsAt" "[I", .methodLink RX0 177 yX0_hasClosed, .instanceMethod yX0_hasClosed, .selects RX0 yX0_hasClosed yX0_hasClosed, .initialized RX0, .code yX0_hasClosed cX0_hasClosed 2 (some .boolean), .fieldLink RX0 66 "BagHall" "now" "I", .methodLink RX0 143 yX0_closing, .instanceMethod yX0_closing, .selects RX0 yX0_closing yX0_closing, .code yX0_closing cX0_closing 2 (some .int), .fieldLink RX0 9 "BagHall" "departures" "[I", .methodLink RX0 180 yX0_hasOpened, .instanceMethod yX0_hasOpened, .selects RX0 yX0_hasOpened yX0_hasOpened, .code yX0_hasOpened cX0_hasOpened 2 (some .boolean)] ++ wsX00)
def wsX0_route_r1 : List Cond := [Cond.fieldLink RX0 20 "BagHall" "bagFlights" "[I", Cond.fieldLink RX0 29 "BagHall" "bagPlaces" "[I", Cond.methodLink RX0 174 yX0_routeTo, Cond.instanceMethod yX0_routeTo, Cond.selects RX0 yX0_routeTo yX0_routeTo, Cond.initialized RX0, Cond.code yX0_routeTo cX0_routeTo 2 (some .int), Cond.fieldLink RX0 13 "BagHall" "laterals" "[I", Cond.fieldLink RX0 38 "BagHall" "bagsAt" "[I", Cond.methodLink RX0 177 yX0_hasClosed, Cond.instanceMethod yX0_hasClosed, Cond.selects RX0 yX0_hasClosed yX0_hasClosed, Cond.code yX0_hasClosed cX0_hasClosed 2 (some .boolean), Cond.fieldLink RX0 66 "BagHall" "now" "I", Cond.methodLink RX0 143 yX0_closing, Cond.instanceMethod yX0_closing, Cond.selects RX0 yX0_closing yX0_closing, Cond.code yX0_closing cX0_closing 2 (some .int), Cond.fieldLink RX0 9 "BagHall" "departures" "[I", Cond.methodLink RX0 180 yX0_hasOpened, Cond.instanceMethod yX0_hasOpened, Cond.selects RX0 yX0_hasOpened yX0_hasOpened, Cond.code yX0_hasOpened cX0_hasOpened 2 (some .boolean), Cond.methodLink RX0 92 yX0_bring]
def wsX0_route_r2 : List Cond := [Cond.instanceMethod yX0_bring, Cond.selects RX0 yX0_bring yX0_bring, Cond.code yX0_bring cX0_bring 3 none, Cond.fieldLink RX0 35 "BagHall" "cameAt" "[I", Cond.fieldLink RX0 32 "BagHall" "lastScans" "[I", Cond.fieldLink RX0 79 "BagHall" "scanCount" "I", Cond.methodLink RX0 183 yX0_scan, Cond.instanceMethod yX0_scan, Cond.selects RX0 yX0_scan yX0_scan, Cond.code yX0_scan cX0_scan 3 none, Cond.fieldLink RX0 41 "BagHall" "scanBags" "[I", Cond.fieldLink RX0 44 "BagHall" "scanPlaces" "[I", Cond.fieldLink RX0 47 "BagHall" "scanTimes" "[I"]
def wsX0_route : List Cond := .code yX0_route cX0_route 3 none :: ((wsX0_route_r1 ++ wsX0_route_r2) ++ wsX00)
def wsX0_routeLoop_r1 : List Cond := [Cond.fieldLink RX0 38 "BagHall" "bagsAt" "[I", Cond.fieldLink RX0 123 "BagHall" "bagCount" "I", Cond.fieldLink RX0 29 "BagHall" "bagPlaces" "[I", Cond.methodLink RX0 96 yX0_route, Cond.instanceMethod yX0_route, Cond.selects RX0 yX0_route yX0_route, Cond.initialized RX0, Cond.code yX0_route cX0_route 3 none, Cond.fieldLink RX0 20 "BagHall" "bagFlights" "[I", Cond.methodLink RX0 174 yX0_routeTo, Cond.instanceMethod yX0_routeTo, Cond.selects RX0 yX0_routeTo yX0_routeTo, Cond.code yX0_routeTo cX0_routeTo 2 (some .int), Cond.fieldLink RX0 13 "BagHall" "laterals" "[I", Cond.methodLink RX0 177 yX0_hasClosed, Cond.instanceMethod yX0_hasClosed, Cond.selects RX0 yX0_hasClosed yX0_hasClosed, Cond.code yX0_hasClosed cX0_hasClosed 2 (some .boolean), Cond.fieldLink RX0 66 "BagHall" "now" "I", Cond.methodLink RX0 143 yX0_closing, Cond.instanceMethod yX0_closing, Cond.selects RX0 yX0_closing yX0_closing, Cond.code yX0_closing cX0_closing 2 (some .int), Cond.fieldLink RX0 9 "BagHall" "departures" "[I"]
def wsX0_routeLoop_r2 : List Cond := [Cond.methodLink RX0 180 yX0_hasOpened, Cond.instanceMethod yX0_hasOpened, Cond.selects RX0 yX0_hasOpened yX0_hasOpened, Cond.code yX0_hasOpened cX0_hasOpened 2 (some .boolean), Cond.methodLink RX0 92 yX0_bring, Cond.instanceMethod yX0_bring, Cond.selects RX0 yX0_bring yX0_bring, Cond.code yX0_bring cX0_bring 3 none, Cond.fieldLink RX0 35 "BagHall" "cameAt" "[I", Cond.fieldLink RX0 32 "BagHall" "lastScans" "[I", Cond.fieldLink RX0 79 "BagHall" "scanCount" "I", Cond.methodLink RX0 183 yX0_scan, Cond.instanceMethod yX0_scan, Cond.selects RX0 yX0_scan yX0_scan, Cond.code yX0_scan cX0_scan 3 none, Cond.fieldLink RX0 41 "BagHall" "scanBags" "[I", Cond.fieldLink RX0 44 "BagHall" "scanPlaces" "[I", Cond.fieldLink RX0 47 "BagHall" "scanTimes" "[I"]
def wsX0_routeLoop : List Cond := .code yX0_routeLoop cX0_routeLoop 2 none :: ((wsX0_routeLoop_r1 ++ wsX0_routeLoop_r2) ++ wsX00)
def wsX0_mayFly : List Cond := .code yX0_mayFly cX0_mayFly 2 (some .boolean) :: ([.fieldLink RX0 26 "BagHall" "onPurpose" "[Z", .fieldLink RX0 16 "BagHall" "boarded" "[Z", .fieldLink RX0 23 "BagHall" "bagRiders" "[I"] ++ wsX00)
def wsX0_settle_r1 : List Cond := [Cond.fieldLink RX0 29 "BagHall" "bagPlaces" "[I", Cond.methodLink RX0 139 yX0_mayFly, Cond.instanceMethod yX0_mayFly, Cond.selects RX0 yX0_mayFly yX0_mayFly, Cond.initialized RX0, Cond.code yX0_mayFly cX0_mayFly 2 (some .boolean), Cond.fieldLink RX0 26 "BagHall" "onPurpose" "[Z", Cond.fieldLink RX0 16 "BagHall" "boarded" "[Z", Cond.fieldLink RX0 23 "BagHall" "bagRiders" "[I", Cond.methodLink RX0 92 yX0_bring, Cond.instanceMethod yX0_bring, Cond.selects RX0 yX0_bring yX0_bring, Cond.code yX0_bring cX0_bring 3 none, Cond.fieldLink RX0 38 "BagHall" "bagsAt" "[I", Cond.fieldLink RX0 35 "BagHall" "cameAt" "[I", Cond.fieldLink RX0 66 "BagHall" "now" "I", Cond.fieldLink RX0 32 "BagHall" "lastScans" "[I", Cond.fieldLink RX0 79 "BagHall" "scanCount" "I", Cond.methodLink RX0 183 yX0_scan, Cond.instanceMethod yX0_scan, Cond.selects RX0 yX0_scan yX0_scan, Cond.code yX0_scan cX0_scan 3 none, Cond.fieldLink RX0 41 "BagHall" "scanBags" "[I", Cond.fieldLink RX0 44 "BagHall" "scanPlaces" "[I"]
def wsX0_settle_r2 : List Cond := [Cond.fieldLink RX0 47 "BagHall" "scanTimes" "[I"]
def wsX0_settle : List Cond := .code yX0_settle cX0_settle 3 none :: ((wsX0_settle_r1 ++ wsX0_settle_r2) ++ wsX00)
def wsX0_settleBags_r1 : List Cond := [Cond.fieldLink RX0 123 "BagHall" "bagCount" "I", Cond.fieldLink RX0 20 "BagHall" "bagFlights" "[I", Cond.methodLink RX0 202 yX0_settle, Cond.instanceMethod yX0_settle, Cond.selects RX0 yX0_settle yX0_settle, Cond.initialized RX0, Cond.code yX0_settle cX0_settle 3 none, Cond.fieldLink RX0 29 "BagHall" "bagPlaces" "[I", Cond.methodLink RX0 139 yX0_mayFly, Cond.instanceMethod yX0_mayFly, Cond.selects RX0 yX0_mayFly yX0_mayFly, Cond.code yX0_mayFly cX0_mayFly 2 (some .boolean), Cond.fieldLink RX0 26 "BagHall" "onPurpose" "[Z", Cond.fieldLink RX0 16 "BagHall" "boarded" "[Z", Cond.fieldLink RX0 23 "BagHall" "bagRiders" "[I", Cond.methodLink RX0 92 yX0_bring, Cond.instanceMethod yX0_bring, Cond.selects RX0 yX0_bring yX0_bring, Cond.code yX0_bring cX0_bring 3 none, Cond.fieldLink RX0 38 "BagHall" "bagsAt" "[I", Cond.fieldLink RX0 35 "BagHall" "cameAt" "[I", Cond.fieldLink RX0 66 "BagHall" "now" "I", Cond.fieldLink RX0 32 "BagHall" "lastScans" "[I", Cond.fieldLink RX0 79 "BagHall" "scanCount" "I"]
def wsX0_settleBags_r2 : List Cond := [Cond.methodLink RX0 183 yX0_scan, Cond.instanceMethod yX0_scan, Cond.selects RX0 yX0_scan yX0_scan, Cond.code yX0_scan cX0_scan 3 none, Cond.fieldLink RX0 41 "BagHall" "scanBags" "[I", Cond.fieldLink RX0 44 "BagHall" "scanPlaces" "[I", Cond.fieldLink RX0 47 "BagHall" "scanTimes" "[I"]
def wsX0_settleBags : List Cond := .code yX0_settleBags cX0_settleBags 3 none :: ((wsX0_settleBags_r1 ++ wsX0_settleBags_r2) ++ wsX00)
def wsX0_depart_r1 : List Cond := [Cond.fieldLink RX0 57 "BagHall" "flightCount" "I", Cond.fieldLink RX0 9 "BagHall" "departures" "[I", Cond.fieldLink RX0 66 "BagHall" "now" "I", Cond.methodLink RX0 199 yX0_settleBags, Cond.instanceMethod yX0_settleBags, Cond.selects RX0 yX0_settleBags yX0_settleBags, Cond.initialized RX0, Cond.code yX0_settleBags cX0_settleBags 3 none, Cond.fieldLink RX0 123 "BagHall" "bagCount" "I", Cond.fieldLink RX0 20 "BagHall" "bagFlights" "[I", Cond.methodLink RX0 202 yX0_settle, Cond.instanceMethod yX0_settle, Cond.selects RX0 yX0_settle yX0_settle, Cond.code yX0_settle cX0_settle 3 none, Cond.fieldLink RX0 29 "BagHall" "bagPlaces" "[I", Cond.methodLink RX0 139 yX0_mayFly, Cond.instanceMethod yX0_mayFly, Cond.selects RX0 yX0_mayFly yX0_mayFly, Cond.code yX0_mayFly cX0_mayFly 2 (some .boolean), Cond.fieldLink RX0 26 "BagHall" "onPurpose" "[Z", Cond.fieldLink RX0 16 "BagHall" "boarded" "[Z", Cond.fieldLink RX0 23 "BagHall" "bagRiders" "[I", Cond.methodLink RX0 92 yX0_bring, Cond.instanceMethod yX0_bring]
def wsX0_depart_r2 : List Cond := [Cond.selects RX0 yX0_bring yX0_bring, Cond.code yX0_bring cX0_bring 3 none, Cond.fieldLink RX0 38 "BagHall" "bagsAt" "[I", Cond.fieldLink RX0 35 "BagHall" "cameAt" "[I", Cond.fieldLink RX0 32 "BagHall" "lastScans" "[I", Cond.fieldLink RX0 79 "BagHall" "scanCount" "I", Cond.methodLink RX0 183 yX0_scan, Cond.instanceMethod yX0_scan, Cond.selects RX0 yX0_scan yX0_scan, Cond.code yX0_scan cX0_scan 3 none, Cond.fieldLink RX0 41 "BagHall" "scanBags" "[I", Cond.fieldLink RX0 44 "BagHall" "scanPlaces" "[I", Cond.fieldLink RX0 47 "BagHall" "scanTimes" "[I"]
def wsX0_depart : List Cond := .code yX0_depart cX0_depart 2 none :: ((wsX0_depart_r1 ++ wsX0_depart_r2) ++ wsX00)
def wsX0_passOneMinute_r1 : List Cond := [Cond.fieldLink RX0 66 "BagHall" "now" "I", Cond.methodLink RX0 186 yX0_emptyStore, Cond.instanceMethod yX0_emptyStore, Cond.selects RX0 yX0_emptyStore yX0_emptyStore, Cond.initialized RX0, Cond.code yX0_emptyStore cX0_emptyStore 3 none, Cond.methodLink RX0 195 yX0_firstToLeaveStore, Cond.instanceMethod yX0_firstToLeaveStore, Cond.selects RX0 yX0_firstToLeaveStore yX0_firstToLeaveStore, Cond.code yX0_firstToLeaveStore cX0_firstToLeaveStore 3 (some .int), Cond.fieldLink RX0 38 "BagHall" "bagsAt" "[I", Cond.fieldLink RX0 123 "BagHall" "bagCount" "I", Cond.fieldLink RX0 29 "BagHall" "bagPlaces" "[I", Cond.fieldLink RX0 20 "BagHall" "bagFlights" "[I", Cond.fieldLink RX0 32 "BagHall" "lastScans" "[I", Cond.methodLink RX0 180 yX0_hasOpened, Cond.instanceMethod yX0_hasOpened, Cond.selects RX0 yX0_hasOpened yX0_hasOpened, Cond.code yX0_hasOpened cX0_hasOpened 2 (some .boolean), Cond.fieldLink RX0 9 "BagHall" "departures" "[I", Cond.methodLink RX0 92 yX0_bring, Cond.instanceMethod yX0_bring, Cond.selects RX0 yX0_bring yX0_bring, Cond.code yX0_bring cX0_bring 3 none]
def wsX0_passOneMinute_r2 : List Cond := [Cond.fieldLink RX0 35 "BagHall" "cameAt" "[I", Cond.fieldLink RX0 79 "BagHall" "scanCount" "I", Cond.methodLink RX0 183 yX0_scan, Cond.instanceMethod yX0_scan, Cond.selects RX0 yX0_scan yX0_scan, Cond.code yX0_scan cX0_scan 3 none, Cond.fieldLink RX0 41 "BagHall" "scanBags" "[I", Cond.fieldLink RX0 44 "BagHall" "scanPlaces" "[I", Cond.fieldLink RX0 47 "BagHall" "scanTimes" "[I", Cond.methodLink RX0 189 yX0_routeLoop, Cond.instanceMethod yX0_routeLoop, Cond.selects RX0 yX0_routeLoop yX0_routeLoop, Cond.code yX0_routeLoop cX0_routeLoop 2 none, Cond.methodLink RX0 96 yX0_route, Cond.instanceMethod yX0_route, Cond.selects RX0 yX0_route yX0_route, Cond.code yX0_route cX0_route 3 none, Cond.methodLink RX0 174 yX0_routeTo, Cond.instanceMethod yX0_routeTo, Cond.selects RX0 yX0_routeTo yX0_routeTo, Cond.code yX0_routeTo cX0_routeTo 2 (some .int), Cond.fieldLink RX0 13 "BagHall" "laterals" "[I", Cond.methodLink RX0 177 yX0_hasClosed, Cond.instanceMethod yX0_hasClosed]
def wsX0_passOneMinute_r3 : List Cond := [Cond.selects RX0 yX0_hasClosed yX0_hasClosed, Cond.code yX0_hasClosed cX0_hasClosed 2 (some .boolean), Cond.methodLink RX0 143 yX0_closing, Cond.instanceMethod yX0_closing, Cond.selects RX0 yX0_closing yX0_closing, Cond.code yX0_closing cX0_closing 2 (some .int), Cond.methodLink RX0 192 yX0_depart, Cond.instanceMethod yX0_depart, Cond.selects RX0 yX0_depart yX0_depart, Cond.code yX0_depart cX0_depart 2 none, Cond.fieldLink RX0 57 "BagHall" "flightCount" "I", Cond.methodLink RX0 199 yX0_settleBags, Cond.instanceMethod yX0_settleBags, Cond.selects RX0 yX0_settleBags yX0_settleBags, Cond.code yX0_settleBags cX0_settleBags 3 none, Cond.methodLink RX0 202 yX0_settle, Cond.instanceMethod yX0_settle, Cond.selects RX0 yX0_settle yX0_settle, Cond.code yX0_settle cX0_settle 3 none, Cond.methodLink RX0 139 yX0_mayFly, Cond.instanceMethod yX0_mayFly, Cond.selects RX0 yX0_mayFly yX0_mayFly, Cond.code yX0_mayFly cX0_mayFly 2 (some .boolean), Cond.fieldLink RX0 26 "BagHall" "onPurpose" "[Z"]
def wsX0_passOneMinute_r4 : List Cond := [Cond.fieldLink RX0 16 "BagHall" "boarded" "[Z", Cond.fieldLink RX0 23 "BagHall" "bagRiders" "[I"]
def wsX0_passOneMinute : List Cond := .code yX0_passOneMinute cX0_passOneMinute 1 none :: ((wsX0_passOneMinute_r1 ++ (wsX0_passOneMinute_r2 ++ (wsX0_passOneMinute_r3 ++ wsX0_passOneMinute_r4))) ++ wsX00)
def wsX0_pass_r1 : List Cond := [Cond.classLink RX0 50 "java/lang/IllegalArgumentException", Cond.initialized "java/lang/IllegalArgumentException", Cond.fieldLink RX0 79 "BagHall" "scanCount" "I", Cond.methodLink RX0 82 yX0_passOneMinute, Cond.instanceMethod yX0_passOneMinute, Cond.selects RX0 yX0_passOneMinute yX0_passOneMinute, Cond.initialized RX0, Cond.code yX0_passOneMinute cX0_passOneMinute 1 none, Cond.fieldLink RX0 66 "BagHall" "now" "I", Cond.methodLink RX0 186 yX0_emptyStore, Cond.instanceMethod yX0_emptyStore, Cond.selects RX0 yX0_emptyStore yX0_emptyStore, Cond.code yX0_emptyStore cX0_emptyStore 3 none, Cond.methodLink RX0 195 yX0_firstToLeaveStore, Cond.instanceMethod yX0_firstToLeaveStore, Cond.selects RX0 yX0_firstToLeaveStore yX0_firstToLeaveStore, Cond.code yX0_firstToLeaveStore cX0_firstToLeaveStore 3 (some .int), Cond.fieldLink RX0 38 "BagHall" "bagsAt" "[I", Cond.fieldLink RX0 123 "BagHall" "bagCount" "I", Cond.fieldLink RX0 29 "BagHall" "bagPlaces" "[I", Cond.fieldLink RX0 20 "BagHall" "bagFlights" "[I", Cond.fieldLink RX0 32 "BagHall" "lastScans" "[I", Cond.methodLink RX0 180 yX0_hasOpened, Cond.instanceMethod yX0_hasOpened]
def wsX0_pass_r2 : List Cond := [Cond.selects RX0 yX0_hasOpened yX0_hasOpened, Cond.code yX0_hasOpened cX0_hasOpened 2 (some .boolean), Cond.fieldLink RX0 9 "BagHall" "departures" "[I", Cond.methodLink RX0 92 yX0_bring, Cond.instanceMethod yX0_bring, Cond.selects RX0 yX0_bring yX0_bring, Cond.code yX0_bring cX0_bring 3 none, Cond.fieldLink RX0 35 "BagHall" "cameAt" "[I", Cond.methodLink RX0 183 yX0_scan, Cond.instanceMethod yX0_scan, Cond.selects RX0 yX0_scan yX0_scan, Cond.code yX0_scan cX0_scan 3 none, Cond.fieldLink RX0 41 "BagHall" "scanBags" "[I", Cond.fieldLink RX0 44 "BagHall" "scanPlaces" "[I", Cond.fieldLink RX0 47 "BagHall" "scanTimes" "[I", Cond.methodLink RX0 189 yX0_routeLoop, Cond.instanceMethod yX0_routeLoop, Cond.selects RX0 yX0_routeLoop yX0_routeLoop, Cond.code yX0_routeLoop cX0_routeLoop 2 none, Cond.methodLink RX0 96 yX0_route, Cond.instanceMethod yX0_route, Cond.selects RX0 yX0_route yX0_route, Cond.code yX0_route cX0_route 3 none, Cond.methodLink RX0 174 yX0_routeTo]
def wsX0_pass_r3 : List Cond := [Cond.instanceMethod yX0_routeTo, Cond.selects RX0 yX0_routeTo yX0_routeTo, Cond.code yX0_routeTo cX0_routeTo 2 (some .int), Cond.fieldLink RX0 13 "BagHall" "laterals" "[I", Cond.methodLink RX0 177 yX0_hasClosed, Cond.instanceMethod yX0_hasClosed, Cond.selects RX0 yX0_hasClosed yX0_hasClosed, Cond.code yX0_hasClosed cX0_hasClosed 2 (some .boolean), Cond.methodLink RX0 143 yX0_closing, Cond.instanceMethod yX0_closing, Cond.selects RX0 yX0_closing yX0_closing, Cond.code yX0_closing cX0_closing 2 (some .int), Cond.methodLink RX0 192 yX0_depart, Cond.instanceMethod yX0_depart, Cond.selects RX0 yX0_depart yX0_depart, Cond.code yX0_depart cX0_depart 2 none, Cond.fieldLink RX0 57 "BagHall" "flightCount" "I", Cond.methodLink RX0 199 yX0_settleBags, Cond.instanceMethod yX0_settleBags, Cond.selects RX0 yX0_settleBags yX0_settleBags, Cond.code yX0_settleBags cX0_settleBags 3 none, Cond.methodLink RX0 202 yX0_settle, Cond.instanceMethod yX0_settle, Cond.selects RX0 yX0_settle yX0_settle]
def wsX0_pass_r4 : List Cond := [Cond.code yX0_settle cX0_settle 3 none, Cond.methodLink RX0 139 yX0_mayFly, Cond.instanceMethod yX0_mayFly, Cond.selects RX0 yX0_mayFly yX0_mayFly, Cond.code yX0_mayFly cX0_mayFly 2 (some .boolean), Cond.fieldLink RX0 26 "BagHall" "onPurpose" "[Z", Cond.fieldLink RX0 16 "BagHall" "boarded" "[Z", Cond.fieldLink RX0 23 "BagHall" "bagRiders" "[I"]
def wsX0_pass : List Cond := .code yX0_pass cX0_pass 4 (some .int) :: ((wsX0_pass_r1 ++ (wsX0_pass_r2 ++ (wsX0_pass_r3 ++ wsX0_pass_r4))) ++ wsX00 ++ (vx_atS RX0 54 "java/lang/IllegalArgumentException" ["java/lang/RuntimeException", "java/lang/Exception"]).filter goodWord)
def wsX0_time : List Cond := .code yX0_time cX0_time 1 (some .int) :: ([.fieldLink RX0 66 "BagHall" "now" "I"] ++ wsX00)
def wsX0_requireFlight : List Cond := .code yX0_requireFlight cX0_requireFlight 2 none :: ([.classLink RX0 130 "java/lang/IndexOutOfBoundsException", .initialized "java/lang/IndexOutOfBoundsException", .fieldLink RX0 57 "BagHall" "flightCount" "I"] ++ wsX00 ++ (vx_atS RX0 134 "java/lang/IndexOutOfBoundsException" ["java/lang/RuntimeException", "java/lang/Exception"]).filter goodWord)
def wsX0_lateralOf : List Cond := .code yX0_lateralOf cX0_lateralOf 2 (some .int) :: ([.fieldLink RX0 13 "BagHall" "laterals" "[I", .methodLink RX0 85 yX0_requireFlight, .instanceMethod yX0_requireFlight, .selects RX0 yX0_requireFlight yX0_requireFlight, .initialized RX0, .code yX0_requireFlight cX0_requireFlight 2 none, .classLink RX0 130 "java/lang/IndexOutOfBoundsException", .initialized "java/lang/IndexOutOfBoundsException", .fieldLink RX0 57 "BagHall" "flightCount" "I"] ++ wsX00 ++ (vx_atS RX0 134 "java/lang/IndexOutOfBoundsException" ["java/lang/RuntimeException", "java/lang/Exception"]).filter goodWord)
def wsX0_requireNotDeparted : List Cond := .code yX0_requireNotDeparted cX0_requireNotDeparted 2 none :: ([.classLink RX0 61 "java/lang/IllegalStateException", .initialized "java/lang/IllegalStateException", .fieldLink RX0 66 "BagHall" "now" "I", .fieldLink RX0 9 "BagHall" "departures" "[I"] ++ wsX00 ++ (vx_atS RX0 65 "java/lang/IllegalStateException" ["java/lang/RuntimeException", "java/lang/Exception"]).filter goodWord)
def wsX0_takeIn : List Cond := .code yX0_takeIn cX0_takeIn 4 (some .int) :: ([.classLink RX0 61 "java/lang/IllegalStateException", .initialized "java/lang/IllegalStateException", .fieldLink RX0 123 "BagHall" "bagCount" "I", .fieldLink RX0 20 "BagHall" "bagFlights" "[I", .fieldLink RX0 23 "BagHall" "bagRiders" "[I", .fieldLink RX0 29 "BagHall" "bagPlaces" "[I", .methodLink RX0 85 yX0_requireFlight, .instanceMethod yX0_requireFlight, .selects RX0 yX0_requireFlight yX0_requireFlight, .initialized RX0, .code yX0_requireFlight cX0_requireFlight 2 none, .classLink RX0 130 "java/lang/IndexOutOfBoundsException", .initialized "java/lang/IndexOutOfBoundsException", .fieldLink RX0 57 "BagHall" "flightCount" "I", .methodLink RX0 73 yX0_requireRider, .instanceMethod yX0_requireRider, .selects RX0 yX0_requireRider yX0_requireRider, .code yX0_requireRider cX0_requireRider 2 none, .methodLink RX0 120 yX0_requireNotDeparted, .instanceMethod yX0_requireNotDeparted, .selects RX0 yX0_requireNotDeparted yX0_requireNotDeparted, .code yX0_requireNotDeparted cX0_requireNotDeparted 2 none, .fieldLink RX0 66 "BagHall" "now" "I", .fieldLink RX0 9 "BagHall" "departures" "[I"] ++ wsX00 ++ (vx_atS RX0 65 "java/lang/IllegalStateException" ["java/lang/RuntimeException", "java/lang/Exception"]).filter goodWord ++ (vx_atS RX0 134 "java/lang/IndexOutOfBoundsException" ["java/lang/RuntimeException", "java/lang/Exception"]).filter goodWord)
def wsX0_checkIn_r1 : List Cond := [Cond.methodLink RX0 88 yX0_takeIn, Cond.instanceMethod yX0_takeIn, Cond.selects RX0 yX0_takeIn yX0_takeIn, Cond.initialized RX0, Cond.code yX0_takeIn cX0_takeIn 4 (some .int), Cond.classLink RX0 61 "java/lang/IllegalStateException", Cond.initialized "java/lang/IllegalStateException", Cond.fieldLink RX0 123 "BagHall" "bagCount" "I", Cond.fieldLink RX0 20 "BagHall" "bagFlights" "[I", Cond.fieldLink RX0 23 "BagHall" "bagRiders" "[I", Cond.fieldLink RX0 29 "BagHall" "bagPlaces" "[I", Cond.methodLink RX0 85 yX0_requireFlight, Cond.instanceMethod yX0_requireFlight, Cond.selects RX0 yX0_requireFlight yX0_requireFlight, Cond.code yX0_requireFlight cX0_requireFlight 2 none, Cond.classLink RX0 130 "java/lang/IndexOutOfBoundsException", Cond.initialized "java/lang/IndexOutOfBoundsException", Cond.fieldLink RX0 57 "BagHall" "flightCount" "I", Cond.methodLink RX0 73 yX0_requireRider, Cond.instanceMethod yX0_requireRider, Cond.selects RX0 yX0_requireRider yX0_requireRider, Cond.code yX0_requireRider cX0_requireRider 2 none, Cond.methodLink RX0 120 yX0_requireNotDeparted, Cond.instanceMethod yX0_requireNotDeparted]
def wsX0_checkIn_r2 : List Cond := [Cond.selects RX0 yX0_requireNotDeparted yX0_requireNotDeparted, Cond.code yX0_requireNotDeparted cX0_requireNotDeparted 2 none, Cond.fieldLink RX0 66 "BagHall" "now" "I", Cond.fieldLink RX0 9 "BagHall" "departures" "[I", Cond.methodLink RX0 92 yX0_bring, Cond.instanceMethod yX0_bring, Cond.selects RX0 yX0_bring yX0_bring, Cond.code yX0_bring cX0_bring 3 none, Cond.fieldLink RX0 38 "BagHall" "bagsAt" "[I", Cond.fieldLink RX0 35 "BagHall" "cameAt" "[I", Cond.fieldLink RX0 32 "BagHall" "lastScans" "[I", Cond.fieldLink RX0 79 "BagHall" "scanCount" "I", Cond.methodLink RX0 183 yX0_scan, Cond.instanceMethod yX0_scan, Cond.selects RX0 yX0_scan yX0_scan, Cond.code yX0_scan cX0_scan 3 none, Cond.fieldLink RX0 41 "BagHall" "scanBags" "[I", Cond.fieldLink RX0 44 "BagHall" "scanPlaces" "[I", Cond.fieldLink RX0 47 "BagHall" "scanTimes" "[I"]
def wsX0_checkIn : List Cond := .code yX0_checkIn cX0_checkIn 4 (some .int) :: ((wsX0_checkIn_r1 ++ wsX0_checkIn_r2) ++ wsX00 ++ (vx_atS RX0 65 "java/lang/IllegalStateException" ["java/lang/RuntimeException", "java/lang/Exception"]).filter goodWord ++ (vx_atS RX0 134 "java/lang/IndexOutOfBoundsException" ["java/lang/RuntimeException", "java/lang/Exception"]).filter goodWord)
def wsX0_transfer_r1 : List Cond := [Cond.methodLink RX0 88 yX0_takeIn, Cond.instanceMethod yX0_takeIn, Cond.selects RX0 yX0_takeIn yX0_takeIn, Cond.initialized RX0, Cond.code yX0_takeIn cX0_takeIn 4 (some .int), Cond.classLink RX0 61 "java/lang/IllegalStateException", Cond.initialized "java/lang/IllegalStateException", Cond.fieldLink RX0 123 "BagHall" "bagCount" "I", Cond.fieldLink RX0 20 "BagHall" "bagFlights" "[I", Cond.fieldLink RX0 23 "BagHall" "bagRiders" "[I", Cond.fieldLink RX0 29 "BagHall" "bagPlaces" "[I", Cond.methodLink RX0 85 yX0_requireFlight, Cond.instanceMethod yX0_requireFlight, Cond.selects RX0 yX0_requireFlight yX0_requireFlight, Cond.code yX0_requireFlight cX0_requireFlight 2 none, Cond.classLink RX0 130 "java/lang/IndexOutOfBoundsException", Cond.initialized "java/lang/IndexOutOfBoundsException", Cond.fieldLink RX0 57 "BagHall" "flightCount" "I", Cond.methodLink RX0 73 yX0_requireRider, Cond.instanceMethod yX0_requireRider, Cond.selects RX0 yX0_requireRider yX0_requireRider, Cond.code yX0_requireRider cX0_requireRider 2 none, Cond.methodLink RX0 120 yX0_requireNotDeparted, Cond.instanceMethod yX0_requireNotDeparted]
def wsX0_transfer_r2 : List Cond := [Cond.selects RX0 yX0_requireNotDeparted yX0_requireNotDeparted, Cond.code yX0_requireNotDeparted cX0_requireNotDeparted 2 none, Cond.fieldLink RX0 66 "BagHall" "now" "I", Cond.fieldLink RX0 9 "BagHall" "departures" "[I", Cond.methodLink RX0 96 yX0_route, Cond.instanceMethod yX0_route, Cond.selects RX0 yX0_route yX0_route, Cond.code yX0_route cX0_route 3 none, Cond.methodLink RX0 174 yX0_routeTo, Cond.instanceMethod yX0_routeTo, Cond.selects RX0 yX0_routeTo yX0_routeTo, Cond.code yX0_routeTo cX0_routeTo 2 (some .int), Cond.fieldLink RX0 13 "BagHall" "laterals" "[I", Cond.fieldLink RX0 38 "BagHall" "bagsAt" "[I", Cond.methodLink RX0 177 yX0_hasClosed, Cond.instanceMethod yX0_hasClosed, Cond.selects RX0 yX0_hasClosed yX0_hasClosed, Cond.code yX0_hasClosed cX0_hasClosed 2 (some .boolean), Cond.methodLink RX0 143 yX0_closing, Cond.instanceMethod yX0_closing, Cond.selects RX0 yX0_closing yX0_closing, Cond.code yX0_closing cX0_closing 2 (some .int), Cond.methodLink RX0 180 yX0_hasOpened, Cond.instanceMethod yX0_hasOpened]
def wsX0_transfer_r3 : List Cond := [Cond.selects RX0 yX0_hasOpened yX0_hasOpened, Cond.code yX0_hasOpened cX0_hasOpened 2 (some .boolean), Cond.methodLink RX0 92 yX0_bring, Cond.instanceMethod yX0_bring, Cond.selects RX0 yX0_bring yX0_bring, Cond.code yX0_bring cX0_bring 3 none, Cond.fieldLink RX0 35 "BagHall" "cameAt" "[I", Cond.fieldLink RX0 32 "BagHall" "lastScans" "[I", Cond.fieldLink RX0 79 "BagHall" "scanCount" "I", Cond.methodLink RX0 183 yX0_scan, Cond.instanceMethod yX0_scan, Cond.selects RX0 yX0_scan yX0_scan, Cond.code yX0_scan cX0_scan 3 none, Cond.fieldLink RX0 41 "BagHall" "scanBags" "[I", Cond.fieldLink RX0 44 "BagHall" "scanPlaces" "[I", Cond.fieldLink RX0 47 "BagHall" "scanTimes" "[I"]
def wsX0_transfer : List Cond := .code yX0_transfer cX0_transfer 4 (some .int) :: ((wsX0_transfer_r1 ++ (wsX0_transfer_r2 ++ wsX0_transfer_r3)) ++ wsX00 ++ (vx_atS RX0 65 "java/lang/IllegalStateException" ["java/lang/RuntimeException", "java/lang/Exception"]).filter goodWord ++ (vx_atS RX0 134 "java/lang/IndexOutOfBoundsException" ["java/lang/RuntimeException", "java/lang/Exception"]).filter goodWord)
def wsX0_requireBag : List Cond := .code yX0_requireBag cX0_requireBag 2 none :: ([.classLink RX0 130 "java/lang/IndexOutOfBoundsException", .initialized "java/lang/IndexOutOfBoundsException", .fieldLink RX0 123 "BagHall" "bagCount" "I"] ++ wsX00 ++ (vx_atS RX0 134 "java/lang/IndexOutOfBoundsException" ["java/lang/RuntimeException", "java/lang/Exception"]).filter goodWord)
def wsX0_decisionTime : List Cond := .code yX0_decisionTime cX0_decisionTime 1 (some .int) :: ([])
def wsX0_nextLevel : List Cond := .code yX0_nextLevel cX0_nextLevel 1 (some .int) :: ([])
def wsX0_decide_r1 : List Cond := [Cond.classLink RX0 61 "java/lang/IllegalStateException", Cond.initialized "java/lang/IllegalStateException", Cond.fieldLink RX0 29 "BagHall" "bagPlaces" "[I", Cond.fieldLink RX0 66 "BagHall" "now" "I", Cond.fieldLink RX0 35 "BagHall" "cameAt" "[I", Cond.methodLink RX0 99 yX0_requireBag, Cond.instanceMethod yX0_requireBag, Cond.selects RX0 yX0_requireBag yX0_requireBag, Cond.initialized RX0, Cond.code yX0_requireBag cX0_requireBag 2 none, Cond.classLink RX0 130 "java/lang/IndexOutOfBoundsException", Cond.initialized "java/lang/IndexOutOfBoundsException", Cond.fieldLink RX0 123 "BagHall" "bagCount" "I", Cond.methodLink RX0 104 yX0_decisionTime, Cond.static yX0_decisionTime, Cond.code yX0_decisionTime cX0_decisionTime 1 (some .int), Cond.methodLink RX0 96 yX0_route, Cond.instanceMethod yX0_route, Cond.selects RX0 yX0_route yX0_route, Cond.code yX0_route cX0_route 3 none, Cond.fieldLink RX0 20 "BagHall" "bagFlights" "[I", Cond.methodLink RX0 174 yX0_routeTo, Cond.instanceMethod yX0_routeTo, Cond.selects RX0 yX0_routeTo yX0_routeTo]
def wsX0_decide_r2 : List Cond := [Cond.code yX0_routeTo cX0_routeTo 2 (some .int), Cond.fieldLink RX0 13 "BagHall" "laterals" "[I", Cond.fieldLink RX0 38 "BagHall" "bagsAt" "[I", Cond.methodLink RX0 177 yX0_hasClosed, Cond.instanceMethod yX0_hasClosed, Cond.selects RX0 yX0_hasClosed yX0_hasClosed, Cond.code yX0_hasClosed cX0_hasClosed 2 (some .boolean), Cond.methodLink RX0 143 yX0_closing, Cond.instanceMethod yX0_closing, Cond.selects RX0 yX0_closing yX0_closing, Cond.code yX0_closing cX0_closing 2 (some .int), Cond.fieldLink RX0 9 "BagHall" "departures" "[I", Cond.methodLink RX0 180 yX0_hasOpened, Cond.instanceMethod yX0_hasOpened, Cond.selects RX0 yX0_hasOpened yX0_hasOpened, Cond.code yX0_hasOpened cX0_hasOpened 2 (some .boolean), Cond.methodLink RX0 92 yX0_bring, Cond.instanceMethod yX0_bring, Cond.selects RX0 yX0_bring yX0_bring, Cond.code yX0_bring cX0_bring 3 none, Cond.fieldLink RX0 32 "BagHall" "lastScans" "[I", Cond.fieldLink RX0 79 "BagHall" "scanCount" "I", Cond.methodLink RX0 183 yX0_scan, Cond.instanceMethod yX0_scan]
def wsX0_decide_r3 : List Cond := [Cond.selects RX0 yX0_scan yX0_scan, Cond.code yX0_scan cX0_scan 3 none, Cond.fieldLink RX0 41 "BagHall" "scanBags" "[I", Cond.fieldLink RX0 44 "BagHall" "scanPlaces" "[I", Cond.fieldLink RX0 47 "BagHall" "scanTimes" "[I", Cond.methodLink RX0 109 yX0_nextLevel, Cond.static yX0_nextLevel, Cond.code yX0_nextLevel cX0_nextLevel 1 (some .int)]
def wsX0_decide : List Cond := .code yX0_decide cX0_decide 4 (some .int) :: ((wsX0_decide_r1 ++ (wsX0_decide_r2 ++ wsX0_decide_r3)) ++ wsX00 ++ (vx_atS RX0 65 "java/lang/IllegalStateException" ["java/lang/RuntimeException", "java/lang/Exception"]).filter goodWord ++ (vx_atS RX0 134 "java/lang/IndexOutOfBoundsException" ["java/lang/RuntimeException", "java/lang/Exception"]).filter goodWord)
def wsX0_requirePlace : List Cond := .code yX0_requirePlace cX0_requirePlace 3 none :: ([.classLink RX0 61 "java/lang/IllegalStateException", .initialized "java/lang/IllegalStateException", .fieldLink RX0 29 "BagHall" "bagPlaces" "[I"] ++ wsX00 ++ (vx_atS RX0 65 "java/lang/IllegalStateException" ["java/lang/RuntimeException", "java/lang/Exception"]).filter goodWord)
def wsX0_letGo_r1 : List Cond := [Cond.fieldLink RX0 29 "BagHall" "bagPlaces" "[I", Cond.methodLink RX0 99 yX0_requireBag, Cond.instanceMethod yX0_requireBag, Cond.selects RX0 yX0_requireBag yX0_requireBag, Cond.initialized RX0, Cond.code yX0_requireBag cX0_requireBag 2 none, Cond.classLink RX0 130 "java/lang/IndexOutOfBoundsException", Cond.initialized "java/lang/IndexOutOfBoundsException", Cond.fieldLink RX0 123 "BagHall" "bagCount" "I", Cond.methodLink RX0 112 yX0_requirePlace, Cond.instanceMethod yX0_requirePlace, Cond.selects RX0 yX0_requirePlace yX0_requirePlace, Cond.code yX0_requirePlace cX0_requirePlace 3 none, Cond.classLink RX0 61 "java/lang/IllegalStateException", Cond.initialized "java/lang/IllegalStateException", Cond.methodLink RX0 96 yX0_route, Cond.instanceMethod yX0_route, Cond.selects RX0 yX0_route yX0_route, Cond.code yX0_route cX0_route 3 none, Cond.fieldLink RX0 20 "BagHall" "bagFlights" "[I", Cond.methodLink RX0 174 yX0_routeTo, Cond.instanceMethod yX0_routeTo, Cond.selects RX0 yX0_routeTo yX0_routeTo, Cond.code yX0_routeTo cX0_routeTo 2 (some .int)]
def wsX0_letGo_r2 : List Cond := [Cond.fieldLink RX0 13 "BagHall" "laterals" "[I", Cond.fieldLink RX0 38 "BagHall" "bagsAt" "[I", Cond.methodLink RX0 177 yX0_hasClosed, Cond.instanceMethod yX0_hasClosed, Cond.selects RX0 yX0_hasClosed yX0_hasClosed, Cond.code yX0_hasClosed cX0_hasClosed 2 (some .boolean), Cond.fieldLink RX0 66 "BagHall" "now" "I", Cond.methodLink RX0 143 yX0_closing, Cond.instanceMethod yX0_closing, Cond.selects RX0 yX0_closing yX0_closing, Cond.code yX0_closing cX0_closing 2 (some .int), Cond.fieldLink RX0 9 "BagHall" "departures" "[I", Cond.methodLink RX0 180 yX0_hasOpened, Cond.instanceMethod yX0_hasOpened, Cond.selects RX0 yX0_hasOpened yX0_hasOpened, Cond.code yX0_hasOpened cX0_hasOpened 2 (some .boolean), Cond.methodLink RX0 92 yX0_bring, Cond.instanceMethod yX0_bring, Cond.selects RX0 yX0_bring yX0_bring, Cond.code yX0_bring cX0_bring 3 none, Cond.fieldLink RX0 35 "BagHall" "cameAt" "[I", Cond.fieldLink RX0 32 "BagHall" "lastScans" "[I", Cond.fieldLink RX0 79 "BagHall" "scanCount" "I", Cond.methodLink RX0 183 yX0_scan]
def wsX0_letGo_r3 : List Cond := [Cond.instanceMethod yX0_scan, Cond.selects RX0 yX0_scan yX0_scan, Cond.code yX0_scan cX0_scan 3 none, Cond.fieldLink RX0 41 "BagHall" "scanBags" "[I", Cond.fieldLink RX0 44 "BagHall" "scanPlaces" "[I", Cond.fieldLink RX0 47 "BagHall" "scanTimes" "[I"]
def wsX0_letGo : List Cond := .code yX0_letGo cX0_letGo 2 (some .int) :: ((wsX0_letGo_r1 ++ (wsX0_letGo_r2 ++ wsX0_letGo_r3)) ++ wsX00 ++ (vx_atS RX0 134 "java/lang/IndexOutOfBoundsException" ["java/lang/RuntimeException", "java/lang/Exception"]).filter goodWord ++ (vx_atS RX0 65 "java/lang/IllegalStateException" ["java/lang/RuntimeException", "java/lang/Exception"]).filter goodWord)
def wsX0_isLoadedFor : List Cond := .code yX0_isLoadedFor cX0_isLoadedFor 3 (some .boolean) :: ([.fieldLink RX0 29 "BagHall" "bagPlaces" "[I", .fieldLink RX0 20 "BagHall" "bagFlights" "[I"] ++ wsX00)
def wsX0_loadedBags : List Cond := .code yX0_loadedBags cX0_loadedBags 4 (some .int) :: ([.fieldLink RX0 123 "BagHall" "bagCount" "I", .methodLink RX0 135 yX0_isLoadedFor, .instanceMethod yX0_isLoadedFor, .selects RX0 yX0_isLoadedFor yX0_isLoadedFor, .initialized RX0, .code yX0_isLoadedFor cX0_isLoadedFor 3 (some .boolean), .fieldLink RX0 29 "BagHall" "bagPlaces" "[I", .fieldLink RX0 20 "BagHall" "bagFlights" "[I"] ++ wsX00)
def wsX0_load_r1 : List Cond := [Cond.fieldLink RX0 20 "BagHall" "bagFlights" "[I", Cond.methodLink RX0 99 yX0_requireBag, Cond.instanceMethod yX0_requireBag, Cond.selects RX0 yX0_requireBag yX0_requireBag, Cond.initialized RX0, Cond.code yX0_requireBag cX0_requireBag 2 none, Cond.classLink RX0 130 "java/lang/IndexOutOfBoundsException", Cond.initialized "java/lang/IndexOutOfBoundsException", Cond.fieldLink RX0 123 "BagHall" "bagCount" "I", Cond.methodLink RX0 112 yX0_requirePlace, Cond.instanceMethod yX0_requirePlace, Cond.selects RX0 yX0_requirePlace yX0_requirePlace, Cond.code yX0_requirePlace cX0_requirePlace 3 none, Cond.classLink RX0 61 "java/lang/IllegalStateException", Cond.initialized "java/lang/IllegalStateException", Cond.fieldLink RX0 29 "BagHall" "bagPlaces" "[I", Cond.methodLink RX0 92 yX0_bring, Cond.instanceMethod yX0_bring, Cond.selects RX0 yX0_bring yX0_bring, Cond.code yX0_bring cX0_bring 3 none, Cond.fieldLink RX0 38 "BagHall" "bagsAt" "[I", Cond.fieldLink RX0 35 "BagHall" "cameAt" "[I", Cond.fieldLink RX0 66 "BagHall" "now" "I", Cond.fieldLink RX0 32 "BagHall" "lastScans" "[I"]
def wsX0_load_r2 : List Cond := [Cond.fieldLink RX0 79 "BagHall" "scanCount" "I", Cond.methodLink RX0 183 yX0_scan, Cond.instanceMethod yX0_scan, Cond.selects RX0 yX0_scan yX0_scan, Cond.code yX0_scan cX0_scan 3 none, Cond.fieldLink RX0 41 "BagHall" "scanBags" "[I", Cond.fieldLink RX0 44 "BagHall" "scanPlaces" "[I", Cond.fieldLink RX0 47 "BagHall" "scanTimes" "[I", Cond.methodLink RX0 115 yX0_loadedBags, Cond.instanceMethod yX0_loadedBags, Cond.selects RX0 yX0_loadedBags yX0_loadedBags, Cond.code yX0_loadedBags cX0_loadedBags 4 (some .int), Cond.methodLink RX0 135 yX0_isLoadedFor, Cond.instanceMethod yX0_isLoadedFor, Cond.selects RX0 yX0_isLoadedFor yX0_isLoadedFor, Cond.code yX0_isLoadedFor cX0_isLoadedFor 3 (some .boolean)]
def wsX0_load : List Cond := .code yX0_load cX0_load 2 (some .int) :: ((wsX0_load_r1 ++ wsX0_load_r2) ++ wsX00 ++ (vx_atS RX0 134 "java/lang/IndexOutOfBoundsException" ["java/lang/RuntimeException", "java/lang/Exception"]).filter goodWord ++ (vx_atS RX0 65 "java/lang/IllegalStateException" ["java/lang/RuntimeException", "java/lang/Exception"]).filter goodWord)
def wsX0_offload_r1 : List Cond := [Cond.fieldLink RX0 20 "BagHall" "bagFlights" "[I", Cond.methodLink RX0 99 yX0_requireBag, Cond.instanceMethod yX0_requireBag, Cond.selects RX0 yX0_requireBag yX0_requireBag, Cond.initialized RX0, Cond.code yX0_requireBag cX0_requireBag 2 none, Cond.classLink RX0 130 "java/lang/IndexOutOfBoundsException", Cond.initialized "java/lang/IndexOutOfBoundsException", Cond.fieldLink RX0 123 "BagHall" "bagCount" "I", Cond.methodLink RX0 112 yX0_requirePlace, Cond.instanceMethod yX0_requirePlace, Cond.selects RX0 yX0_requirePlace yX0_requirePlace, Cond.code yX0_requirePlace cX0_requirePlace 3 none, Cond.classLink RX0 61 "java/lang/IllegalStateException", Cond.initialized "java/lang/IllegalStateException", Cond.fieldLink RX0 29 "BagHall" "bagPlaces" "[I", Cond.methodLink RX0 92 yX0_bring, Cond.instanceMethod yX0_bring, Cond.selects RX0 yX0_bring yX0_bring, Cond.code yX0_bring cX0_bring 3 none, Cond.fieldLink RX0 38 "BagHall" "bagsAt" "[I", Cond.fieldLink RX0 35 "BagHall" "cameAt" "[I", Cond.fieldLink RX0 66 "BagHall" "now" "I", Cond.fieldLink RX0 32 "BagHall" "lastScans" "[I"]
def wsX0_offload_r2 : List Cond := [Cond.fieldLink RX0 79 "BagHall" "scanCount" "I", Cond.methodLink RX0 183 yX0_scan, Cond.instanceMethod yX0_scan, Cond.selects RX0 yX0_scan yX0_scan, Cond.code yX0_scan cX0_scan 3 none, Cond.fieldLink RX0 41 "BagHall" "scanBags" "[I", Cond.fieldLink RX0 44 "BagHall" "scanPlaces" "[I", Cond.fieldLink RX0 47 "BagHall" "scanTimes" "[I", Cond.methodLink RX0 115 yX0_loadedBags, Cond.instanceMethod yX0_loadedBags, Cond.selects RX0 yX0_loadedBags yX0_loadedBags, Cond.code yX0_loadedBags cX0_loadedBags 4 (some .int), Cond.methodLink RX0 135 yX0_isLoadedFor, Cond.instanceMethod yX0_isLoadedFor, Cond.selects RX0 yX0_isLoadedFor yX0_isLoadedFor, Cond.code yX0_isLoadedFor cX0_isLoadedFor 3 (some .boolean)]
def wsX0_offload : List Cond := .code yX0_offload cX0_offload 2 (some .int) :: ((wsX0_offload_r1 ++ wsX0_offload_r2) ++ wsX00 ++ (vx_atS RX0 134 "java/lang/IndexOutOfBoundsException" ["java/lang/RuntimeException", "java/lang/Exception"]).filter goodWord ++ (vx_atS RX0 65 "java/lang/IllegalStateException" ["java/lang/RuntimeException", "java/lang/Exception"]).filter goodWord)
def wsX0_sendOn_r1 : List Cond := [Cond.classLink RX0 61 "java/lang/IllegalStateException", Cond.initialized "java/lang/IllegalStateException", Cond.fieldLink RX0 29 "BagHall" "bagPlaces" "[I", Cond.fieldLink RX0 20 "BagHall" "bagFlights" "[I", Cond.fieldLink RX0 26 "BagHall" "onPurpose" "[Z", Cond.methodLink RX0 99 yX0_requireBag, Cond.instanceMethod yX0_requireBag, Cond.selects RX0 yX0_requireBag yX0_requireBag, Cond.initialized RX0, Cond.code yX0_requireBag cX0_requireBag 2 none, Cond.classLink RX0 130 "java/lang/IndexOutOfBoundsException", Cond.initialized "java/lang/IndexOutOfBoundsException", Cond.fieldLink RX0 123 "BagHall" "bagCount" "I", Cond.methodLink RX0 85 yX0_requireFlight, Cond.instanceMethod yX0_requireFlight, Cond.selects RX0 yX0_requireFlight yX0_requireFlight, Cond.code yX0_requireFlight cX0_requireFlight 2 none, Cond.fieldLink RX0 57 "BagHall" "flightCount" "I", Cond.methodLink RX0 120 yX0_requireNotDeparted, Cond.instanceMethod yX0_requireNotDeparted, Cond.selects RX0 yX0_requireNotDeparted yX0_requireNotDeparted, Cond.code yX0_requireNotDeparted cX0_requireNotDeparted 2 none, Cond.fieldLink RX0 66 "BagHall" "now" "I", Cond.fieldLink RX0 9 "BagHall" "departures" "[I"]
def wsX0_sendOn_r2 : List Cond := [Cond.methodLink RX0 96 yX0_route, Cond.instanceMethod yX0_route, Cond.selects RX0 yX0_route yX0_route, Cond.code yX0_route cX0_route 3 none, Cond.methodLink RX0 174 yX0_routeTo, Cond.instanceMethod yX0_routeTo, Cond.selects RX0 yX0_routeTo yX0_routeTo, Cond.code yX0_routeTo cX0_routeTo 2 (some .int), Cond.fieldLink RX0 13 "BagHall" "laterals" "[I", Cond.fieldLink RX0 38 "BagHall" "bagsAt" "[I", Cond.methodLink RX0 177 yX0_hasClosed, Cond.instanceMethod yX0_hasClosed, Cond.selects RX0 yX0_hasClosed yX0_hasClosed, Cond.code yX0_hasClosed cX0_hasClosed 2 (some .boolean), Cond.methodLink RX0 143 yX0_closing, Cond.instanceMethod yX0_closing, Cond.selects RX0 yX0_closing yX0_closing, Cond.code yX0_closing cX0_closing 2 (some .int), Cond.methodLink RX0 180 yX0_hasOpened, Cond.instanceMethod yX0_hasOpened, Cond.selects RX0 yX0_hasOpened yX0_hasOpened, Cond.code yX0_hasOpened cX0_hasOpened 2 (some .boolean), Cond.methodLink RX0 92 yX0_bring, Cond.instanceMethod yX0_bring]
def wsX0_sendOn_r3 : List Cond := [Cond.selects RX0 yX0_bring yX0_bring, Cond.code yX0_bring cX0_bring 3 none, Cond.fieldLink RX0 35 "BagHall" "cameAt" "[I", Cond.fieldLink RX0 32 "BagHall" "lastScans" "[I", Cond.fieldLink RX0 79 "BagHall" "scanCount" "I", Cond.methodLink RX0 183 yX0_scan, Cond.instanceMethod yX0_scan, Cond.selects RX0 yX0_scan yX0_scan, Cond.code yX0_scan cX0_scan 3 none, Cond.fieldLink RX0 41 "BagHall" "scanBags" "[I", Cond.fieldLink RX0 44 "BagHall" "scanPlaces" "[I", Cond.fieldLink RX0 47 "BagHall" "scanTimes" "[I"]
def wsX0_sendOn : List Cond := .code yX0_sendOn cX0_sendOn 3 (some .int) :: ((wsX0_sendOn_r1 ++ (wsX0_sendOn_r2 ++ wsX0_sendOn_r3)) ++ wsX00 ++ (vx_atS RX0 65 "java/lang/IllegalStateException" ["java/lang/RuntimeException", "java/lang/Exception"]).filter goodWord ++ (vx_atS RX0 134 "java/lang/IndexOutOfBoundsException" ["java/lang/RuntimeException", "java/lang/Exception"]).filter goodWord)
def wsX0_bags : List Cond := .code yX0_bags cX0_bags 1 (some .int) :: ([.fieldLink RX0 123 "BagHall" "bagCount" "I"] ++ wsX00)
def wsX0_placeOf : List Cond := .code yX0_placeOf cX0_placeOf 2 (some .int) :: ([.fieldLink RX0 29 "BagHall" "bagPlaces" "[I", .methodLink RX0 99 yX0_requireBag, .instanceMethod yX0_requireBag, .selects RX0 yX0_requireBag yX0_requireBag, .initialized RX0, .code yX0_requireBag cX0_requireBag 2 none, .classLink RX0 130 "java/lang/IndexOutOfBoundsException", .initialized "java/lang/IndexOutOfBoundsException", .fieldLink RX0 123 "BagHall" "bagCount" "I"] ++ wsX00 ++ (vx_atS RX0 134 "java/lang/IndexOutOfBoundsException" ["java/lang/RuntimeException", "java/lang/Exception"]).filter goodWord)
def wsX0_placeByScans : List Cond := .code yX0_placeByScans cX0_placeByScans 4 (some .int) :: ([.classLink RX0 50 "java/lang/IllegalArgumentException", .initialized "java/lang/IllegalArgumentException", .fieldLink RX0 66 "BagHall" "now" "I", .fieldLink RX0 79 "BagHall" "scanCount" "I", .fieldLink RX0 41 "BagHall" "scanBags" "[I", .fieldLink RX0 47 "BagHall" "scanTimes" "[I", .fieldLink RX0 44 "BagHall" "scanPlaces" "[I", .methodLink RX0 99 yX0_requireBag, .instanceMethod yX0_requireBag, .selects RX0 yX0_requireBag yX0_requireBag, .initialized RX0, .code yX0_requireBag cX0_requireBag 2 none, .classLink RX0 130 "java/lang/IndexOutOfBoundsException", .initialized "java/lang/IndexOutOfBoundsException", .fieldLink RX0 123 "BagHall" "bagCount" "I"] ++ wsX00 ++ (vx_atS RX0 54 "java/lang/IllegalArgumentException" ["java/lang/RuntimeException", "java/lang/Exception"]).filter goodWord ++ (vx_atS RX0 134 "java/lang/IndexOutOfBoundsException" ["java/lang/RuntimeException", "java/lang/Exception"]).filter goodWord)
def wsX0_flightOf : List Cond := .code yX0_flightOf cX0_flightOf 2 (some .int) :: ([.fieldLink RX0 20 "BagHall" "bagFlights" "[I", .methodLink RX0 99 yX0_requireBag, .instanceMethod yX0_requireBag, .selects RX0 yX0_requireBag yX0_requireBag, .initialized RX0, .code yX0_requireBag cX0_requireBag 2 none, .classLink RX0 130 "java/lang/IndexOutOfBoundsException", .initialized "java/lang/IndexOutOfBoundsException", .fieldLink RX0 123 "BagHall" "bagCount" "I"] ++ wsX00 ++ (vx_atS RX0 134 "java/lang/IndexOutOfBoundsException" ["java/lang/RuntimeException", "java/lang/Exception"]).filter goodWord)
def wsX0_count : List Cond := .code yX0_count cX0_count 2 (some .int) :: ([.classLink RX0 50 "java/lang/IllegalArgumentException", .initialized "java/lang/IllegalArgumentException", .fieldLink RX0 38 "BagHall" "bagsAt" "[I"] ++ wsX00 ++ (vx_atS RX0 54 "java/lang/IllegalArgumentException" ["java/lang/RuntimeException", "java/lang/Exception"]).filter goodWord)
def wsX0_atLateral : List Cond := .code yX0_atLateral cX0_atLateral 4 (some .int) :: ([.classLink RX0 130 "java/lang/IndexOutOfBoundsException", .initialized "java/lang/IndexOutOfBoundsException", .fieldLink RX0 123 "BagHall" "bagCount" "I", .fieldLink RX0 29 "BagHall" "bagPlaces" "[I", .fieldLink RX0 13 "BagHall" "laterals" "[I", .fieldLink RX0 20 "BagHall" "bagFlights" "[I"] ++ wsX00 ++ (vx_atS RX0 134 "java/lang/IndexOutOfBoundsException" ["java/lang/RuntimeException", "java/lang/Exception"]).filter goodWord)
def wsX0_unmatched : List Cond := .code yX0_unmatched cX0_unmatched 4 (some .int) :: ([.fieldLink RX0 123 "BagHall" "bagCount" "I", .methodLink RX0 85 yX0_requireFlight, .instanceMethod yX0_requireFlight, .selects RX0 yX0_requireFlight yX0_requireFlight, .initialized RX0, .code yX0_requireFlight cX0_requireFlight 2 none, .classLink RX0 130 "java/lang/IndexOutOfBoundsException", .initialized "java/lang/IndexOutOfBoundsException", .fieldLink RX0 57 "BagHall" "flightCount" "I", .methodLink RX0 135 yX0_isLoadedFor, .instanceMethod yX0_isLoadedFor, .selects RX0 yX0_isLoadedFor yX0_isLoadedFor, .code yX0_isLoadedFor cX0_isLoadedFor 3 (some .boolean), .fieldLink RX0 29 "BagHall" "bagPlaces" "[I", .fieldLink RX0 20 "BagHall" "bagFlights" "[I", .methodLink RX0 139 yX0_mayFly, .instanceMethod yX0_mayFly, .selects RX0 yX0_mayFly yX0_mayFly, .code yX0_mayFly cX0_mayFly 2 (some .boolean), .fieldLink RX0 26 "BagHall" "onPurpose" "[Z", .fieldLink RX0 16 "BagHall" "boarded" "[Z", .fieldLink RX0 23 "BagHall" "bagRiders" "[I"] ++ wsX00 ++ (vx_atS RX0 134 "java/lang/IndexOutOfBoundsException" ["java/lang/RuntimeException", "java/lang/Exception"]).filter goodWord)
def wsX0_untilClose : List Cond := .code yX0_untilClose cX0_untilClose 2 (some .int) :: ([.fieldLink RX0 66 "BagHall" "now" "I", .methodLink RX0 146 Lib.Math.max.name, .static Lib.Math.max.name, .initialized "java/lang/Math", .code Lib.Math.max.name Lib.Math.max.code 2 (some .int), .methodLink RX0 85 yX0_requireFlight, .instanceMethod yX0_requireFlight, .selects RX0 yX0_requireFlight yX0_requireFlight, .initialized RX0, .code yX0_requireFlight cX0_requireFlight 2 none, .classLink RX0 130 "java/lang/IndexOutOfBoundsException", .initialized "java/lang/IndexOutOfBoundsException", .fieldLink RX0 57 "BagHall" "flightCount" "I", .methodLink RX0 143 yX0_closing, .instanceMethod yX0_closing, .selects RX0 yX0_closing yX0_closing, .code yX0_closing cX0_closing 2 (some .int), .fieldLink RX0 9 "BagHall" "departures" "[I"] ++ wsX00 ++ (vx_atS RX0 134 "java/lang/IndexOutOfBoundsException" ["java/lang/RuntimeException", "java/lang/Exception"]).filter goodWord)
def wsX0_scans : List Cond := .code yX0_scans cX0_scans 1 (some .int) :: ([.fieldLink RX0 79 "BagHall" "scanCount" "I"] ++ wsX00)
def wsX0_requireScan : List Cond := .code yX0_requireScan cX0_requireScan 2 none :: ([.classLink RX0 130 "java/lang/IndexOutOfBoundsException", .initialized "java/lang/IndexOutOfBoundsException", .fieldLink RX0 79 "BagHall" "scanCount" "I"] ++ wsX00 ++ (vx_atS RX0 134 "java/lang/IndexOutOfBoundsException" ["java/lang/RuntimeException", "java/lang/Exception"]).filter goodWord)
def wsX0_bagOfScan : List Cond := .code yX0_bagOfScan cX0_bagOfScan 2 (some .int) :: ([.fieldLink RX0 41 "BagHall" "scanBags" "[I", .methodLink RX0 151 yX0_requireScan, .instanceMethod yX0_requireScan, .selects RX0 yX0_requireScan yX0_requireScan, .initialized RX0, .code yX0_requireScan cX0_requireScan 2 none, .classLink RX0 130 "java/lang/IndexOutOfBoundsException", .initialized "java/lang/IndexOutOfBoundsException", .fieldLink RX0 79 "BagHall" "scanCount" "I"] ++ wsX00 ++ (vx_atS RX0 134 "java/lang/IndexOutOfBoundsException" ["java/lang/RuntimeException", "java/lang/Exception"]).filter goodWord)
def wsX0_placeOfScan : List Cond := .code yX0_placeOfScan cX0_placeOfScan 2 (some .int) :: ([.fieldLink RX0 44 "BagHall" "scanPlaces" "[I", .methodLink RX0 151 yX0_requireScan, .instanceMethod yX0_requireScan, .selects RX0 yX0_requireScan yX0_requireScan, .initialized RX0, .code yX0_requireScan cX0_requireScan 2 none, .classLink RX0 130 "java/lang/IndexOutOfBoundsException", .initialized "java/lang/IndexOutOfBoundsException", .fieldLink RX0 79 "BagHall" "scanCount" "I"] ++ wsX00 ++ (vx_atS RX0 134 "java/lang/IndexOutOfBoundsException" ["java/lang/RuntimeException", "java/lang/Exception"]).filter goodWord)
def wsJ9_abs_0f7a4 : List Cond := .code yJ9_abs_0f7a4 cJ9_abs_0f7a4 1 (some .int) :: ([])
def wsJ9_max_7cf53 : List Cond := .code yJ9_max_7cf53 cJ9_max_7cf53 2 (some .int) :: ([])
def wsL_low : List Cond := .code yL_low cL_low 2 (some .int) :: ([.constant RL 7 (2147483647)])
def wsL_cell : List Cond := .code yL_cell cL_cell 2 (some .int) :: ([.constant RL 8 (40503)])
def wsL_addFlight_r1 : List Cond := [Cond.classLink RL 15 "java/lang/IllegalStateException", Cond.methodLink RL 9 yX0_addFlight, Cond.instanceMethod yX0_addFlight, Cond.selects RX0 yX0_addFlight yX0_addFlight, Cond.initialized RX0, Cond.code yX0_addFlight cX0_addFlight 4 (some .int), Cond.classLink RX0 50 "java/lang/IllegalArgumentException", Cond.initialized "java/lang/IllegalArgumentException", Cond.classLink RX0 61 "java/lang/IllegalStateException", Cond.initialized "java/lang/IllegalStateException", Cond.fieldLink RX0 57 "BagHall" "flightCount" "I", Cond.fieldLink RX0 66 "BagHall" "now" "I", Cond.fieldLink RX0 13 "BagHall" "laterals" "[I", Cond.fieldLink RX0 9 "BagHall" "departures" "[I", Cond.methodLink RX0 69 yX0_lowestFreeLateral, Cond.instanceMethod yX0_lowestFreeLateral, Cond.selects RX0 yX0_lowestFreeLateral yX0_lowestFreeLateral, Cond.code yX0_lowestFreeLateral cX0_lowestFreeLateral 3 (some .int), Cond.methodLink RX0 166 yX0_isFree, Cond.instanceMethod yX0_isFree, Cond.selects RX0 yX0_isFree yX0_isFree, Cond.code yX0_isFree cX0_isFree 4 (some .boolean), Cond.methodLink RX0 169 Lib.Math.abs.name, Cond.static Lib.Math.abs.name]
def wsL_addFlight_r2 : List Cond := [Cond.initialized "java/lang/Math", Cond.code Lib.Math.abs.name Lib.Math.abs.code 1 (some .int)]
def wsL_addFlight : List Cond := .codeWith yL_addFlight cL_addFlight 3 (some .int) [(0, 5, 6, 15)] :: ((wsL_addFlight_r1 ++ wsL_addFlight_r2) ++ wsX00 ++ (vx_atS RX0 54 "java/lang/IllegalArgumentException" ["java/lang/RuntimeException", "java/lang/Exception"]).filter goodWord ++ (vx_atS RX0 65 "java/lang/IllegalStateException" ["java/lang/RuntimeException", "java/lang/Exception"]).filter goodWord)
def wsL_comes_r1 : List Cond := [Cond.classLink RL 15 "java/lang/IllegalStateException", Cond.methodLink RL 17 yX0_transfer, Cond.instanceMethod yX0_transfer, Cond.selects RX0 yX0_transfer yX0_transfer, Cond.initialized RX0, Cond.code yX0_transfer cX0_transfer 4 (some .int), Cond.methodLink RX0 88 yX0_takeIn, Cond.instanceMethod yX0_takeIn, Cond.selects RX0 yX0_takeIn yX0_takeIn, Cond.code yX0_takeIn cX0_takeIn 4 (some .int), Cond.classLink RX0 61 "java/lang/IllegalStateException", Cond.initialized "java/lang/IllegalStateException", Cond.fieldLink RX0 123 "BagHall" "bagCount" "I", Cond.fieldLink RX0 20 "BagHall" "bagFlights" "[I", Cond.fieldLink RX0 23 "BagHall" "bagRiders" "[I", Cond.fieldLink RX0 29 "BagHall" "bagPlaces" "[I", Cond.methodLink RX0 85 yX0_requireFlight, Cond.instanceMethod yX0_requireFlight, Cond.selects RX0 yX0_requireFlight yX0_requireFlight, Cond.code yX0_requireFlight cX0_requireFlight 2 none, Cond.classLink RX0 130 "java/lang/IndexOutOfBoundsException", Cond.initialized "java/lang/IndexOutOfBoundsException", Cond.fieldLink RX0 57 "BagHall" "flightCount" "I", Cond.methodLink RX0 73 yX0_requireRider]
def wsL_comes_r2 : List Cond := [Cond.instanceMethod yX0_requireRider, Cond.selects RX0 yX0_requireRider yX0_requireRider, Cond.code yX0_requireRider cX0_requireRider 2 none, Cond.methodLink RX0 120 yX0_requireNotDeparted, Cond.instanceMethod yX0_requireNotDeparted, Cond.selects RX0 yX0_requireNotDeparted yX0_requireNotDeparted, Cond.code yX0_requireNotDeparted cX0_requireNotDeparted 2 none, Cond.fieldLink RX0 66 "BagHall" "now" "I", Cond.fieldLink RX0 9 "BagHall" "departures" "[I", Cond.methodLink RX0 96 yX0_route, Cond.instanceMethod yX0_route, Cond.selects RX0 yX0_route yX0_route, Cond.code yX0_route cX0_route 3 none, Cond.methodLink RX0 174 yX0_routeTo, Cond.instanceMethod yX0_routeTo, Cond.selects RX0 yX0_routeTo yX0_routeTo, Cond.code yX0_routeTo cX0_routeTo 2 (some .int), Cond.fieldLink RX0 13 "BagHall" "laterals" "[I", Cond.fieldLink RX0 38 "BagHall" "bagsAt" "[I", Cond.methodLink RX0 177 yX0_hasClosed, Cond.instanceMethod yX0_hasClosed, Cond.selects RX0 yX0_hasClosed yX0_hasClosed, Cond.code yX0_hasClosed cX0_hasClosed 2 (some .boolean), Cond.methodLink RX0 143 yX0_closing]
def wsL_comes_r3 : List Cond := [Cond.instanceMethod yX0_closing, Cond.selects RX0 yX0_closing yX0_closing, Cond.code yX0_closing cX0_closing 2 (some .int), Cond.methodLink RX0 180 yX0_hasOpened, Cond.instanceMethod yX0_hasOpened, Cond.selects RX0 yX0_hasOpened yX0_hasOpened, Cond.code yX0_hasOpened cX0_hasOpened 2 (some .boolean), Cond.methodLink RX0 92 yX0_bring, Cond.instanceMethod yX0_bring, Cond.selects RX0 yX0_bring yX0_bring, Cond.code yX0_bring cX0_bring 3 none, Cond.fieldLink RX0 35 "BagHall" "cameAt" "[I", Cond.fieldLink RX0 32 "BagHall" "lastScans" "[I", Cond.fieldLink RX0 79 "BagHall" "scanCount" "I", Cond.methodLink RX0 183 yX0_scan, Cond.instanceMethod yX0_scan, Cond.selects RX0 yX0_scan yX0_scan, Cond.code yX0_scan cX0_scan 3 none, Cond.fieldLink RX0 41 "BagHall" "scanBags" "[I", Cond.fieldLink RX0 44 "BagHall" "scanPlaces" "[I", Cond.fieldLink RX0 47 "BagHall" "scanTimes" "[I", Cond.methodLink RL 21 yX0_checkIn, Cond.instanceMethod yX0_checkIn, Cond.selects RX0 yX0_checkIn yX0_checkIn]
def wsL_comes_r4 : List Cond := [Cond.code yX0_checkIn cX0_checkIn 4 (some .int)]
def wsL_comes : List Cond := .codeWith yL_comes cL_comes 5 (some .int) [(0, 19, 20, 15)] :: ((wsL_comes_r1 ++ (wsL_comes_r2 ++ (wsL_comes_r3 ++ wsL_comes_r4))) ++ wsX00 ++ (vx_atS RX0 65 "java/lang/IllegalStateException" ["java/lang/RuntimeException", "java/lang/Exception"]).filter goodWord ++ (vx_atS RX0 134 "java/lang/IndexOutOfBoundsException" ["java/lang/RuntimeException", "java/lang/Exception"]).filter goodWord)
def wsL_decide_r1 : List Cond := [Cond.classLink RL 15 "java/lang/IllegalStateException", Cond.methodLink RL 24 yX0_decide, Cond.instanceMethod yX0_decide, Cond.selects RX0 yX0_decide yX0_decide, Cond.initialized RX0, Cond.code yX0_decide cX0_decide 4 (some .int), Cond.classLink RX0 61 "java/lang/IllegalStateException", Cond.initialized "java/lang/IllegalStateException", Cond.fieldLink RX0 29 "BagHall" "bagPlaces" "[I", Cond.fieldLink RX0 66 "BagHall" "now" "I", Cond.fieldLink RX0 35 "BagHall" "cameAt" "[I", Cond.methodLink RX0 99 yX0_requireBag, Cond.instanceMethod yX0_requireBag, Cond.selects RX0 yX0_requireBag yX0_requireBag, Cond.code yX0_requireBag cX0_requireBag 2 none, Cond.classLink RX0 130 "java/lang/IndexOutOfBoundsException", Cond.initialized "java/lang/IndexOutOfBoundsException", Cond.fieldLink RX0 123 "BagHall" "bagCount" "I", Cond.methodLink RX0 104 yX0_decisionTime, Cond.static yX0_decisionTime, Cond.code yX0_decisionTime cX0_decisionTime 1 (some .int), Cond.methodLink RX0 96 yX0_route, Cond.instanceMethod yX0_route, Cond.selects RX0 yX0_route yX0_route]
def wsL_decide_r2 : List Cond := [Cond.code yX0_route cX0_route 3 none, Cond.fieldLink RX0 20 "BagHall" "bagFlights" "[I", Cond.methodLink RX0 174 yX0_routeTo, Cond.instanceMethod yX0_routeTo, Cond.selects RX0 yX0_routeTo yX0_routeTo, Cond.code yX0_routeTo cX0_routeTo 2 (some .int), Cond.fieldLink RX0 13 "BagHall" "laterals" "[I", Cond.fieldLink RX0 38 "BagHall" "bagsAt" "[I", Cond.methodLink RX0 177 yX0_hasClosed, Cond.instanceMethod yX0_hasClosed, Cond.selects RX0 yX0_hasClosed yX0_hasClosed, Cond.code yX0_hasClosed cX0_hasClosed 2 (some .boolean), Cond.methodLink RX0 143 yX0_closing, Cond.instanceMethod yX0_closing, Cond.selects RX0 yX0_closing yX0_closing, Cond.code yX0_closing cX0_closing 2 (some .int), Cond.fieldLink RX0 9 "BagHall" "departures" "[I", Cond.methodLink RX0 180 yX0_hasOpened, Cond.instanceMethod yX0_hasOpened, Cond.selects RX0 yX0_hasOpened yX0_hasOpened, Cond.code yX0_hasOpened cX0_hasOpened 2 (some .boolean), Cond.methodLink RX0 92 yX0_bring, Cond.instanceMethod yX0_bring, Cond.selects RX0 yX0_bring yX0_bring]
def wsL_decide_r3 : List Cond := [Cond.code yX0_bring cX0_bring 3 none, Cond.fieldLink RX0 32 "BagHall" "lastScans" "[I", Cond.fieldLink RX0 79 "BagHall" "scanCount" "I", Cond.methodLink RX0 183 yX0_scan, Cond.instanceMethod yX0_scan, Cond.selects RX0 yX0_scan yX0_scan, Cond.code yX0_scan cX0_scan 3 none, Cond.fieldLink RX0 41 "BagHall" "scanBags" "[I", Cond.fieldLink RX0 44 "BagHall" "scanPlaces" "[I", Cond.fieldLink RX0 47 "BagHall" "scanTimes" "[I", Cond.methodLink RX0 109 yX0_nextLevel, Cond.static yX0_nextLevel, Cond.code yX0_nextLevel cX0_nextLevel 1 (some .int)]
def wsL_decide : List Cond := .codeWith yL_decide cL_decide 4 (some .int) [(0, 6, 7, 15)] :: ((wsL_decide_r1 ++ (wsL_decide_r2 ++ wsL_decide_r3)) ++ wsX00 ++ (vx_atS RX0 65 "java/lang/IllegalStateException" ["java/lang/RuntimeException", "java/lang/Exception"]).filter goodWord ++ (vx_atS RX0 134 "java/lang/IndexOutOfBoundsException" ["java/lang/RuntimeException", "java/lang/Exception"]).filter goodWord)
def wsL_sendOn_r1 : List Cond := [Cond.classLink RL 15 "java/lang/IllegalStateException", Cond.methodLink RL 28 yX0_sendOn, Cond.instanceMethod yX0_sendOn, Cond.selects RX0 yX0_sendOn yX0_sendOn, Cond.initialized RX0, Cond.code yX0_sendOn cX0_sendOn 3 (some .int), Cond.classLink RX0 61 "java/lang/IllegalStateException", Cond.initialized "java/lang/IllegalStateException", Cond.fieldLink RX0 29 "BagHall" "bagPlaces" "[I", Cond.fieldLink RX0 20 "BagHall" "bagFlights" "[I", Cond.fieldLink RX0 26 "BagHall" "onPurpose" "[Z", Cond.methodLink RX0 99 yX0_requireBag, Cond.instanceMethod yX0_requireBag, Cond.selects RX0 yX0_requireBag yX0_requireBag, Cond.code yX0_requireBag cX0_requireBag 2 none, Cond.classLink RX0 130 "java/lang/IndexOutOfBoundsException", Cond.initialized "java/lang/IndexOutOfBoundsException", Cond.fieldLink RX0 123 "BagHall" "bagCount" "I", Cond.methodLink RX0 85 yX0_requireFlight, Cond.instanceMethod yX0_requireFlight, Cond.selects RX0 yX0_requireFlight yX0_requireFlight, Cond.code yX0_requireFlight cX0_requireFlight 2 none, Cond.fieldLink RX0 57 "BagHall" "flightCount" "I", Cond.methodLink RX0 120 yX0_requireNotDeparted]
def wsL_sendOn_r2 : List Cond := [Cond.instanceMethod yX0_requireNotDeparted, Cond.selects RX0 yX0_requireNotDeparted yX0_requireNotDeparted, Cond.code yX0_requireNotDeparted cX0_requireNotDeparted 2 none, Cond.fieldLink RX0 66 "BagHall" "now" "I", Cond.fieldLink RX0 9 "BagHall" "departures" "[I", Cond.methodLink RX0 96 yX0_route, Cond.instanceMethod yX0_route, Cond.selects RX0 yX0_route yX0_route, Cond.code yX0_route cX0_route 3 none, Cond.methodLink RX0 174 yX0_routeTo, Cond.instanceMethod yX0_routeTo, Cond.selects RX0 yX0_routeTo yX0_routeTo, Cond.code yX0_routeTo cX0_routeTo 2 (some .int), Cond.fieldLink RX0 13 "BagHall" "laterals" "[I", Cond.fieldLink RX0 38 "BagHall" "bagsAt" "[I", Cond.methodLink RX0 177 yX0_hasClosed, Cond.instanceMethod yX0_hasClosed, Cond.selects RX0 yX0_hasClosed yX0_hasClosed, Cond.code yX0_hasClosed cX0_hasClosed 2 (some .boolean), Cond.methodLink RX0 143 yX0_closing, Cond.instanceMethod yX0_closing, Cond.selects RX0 yX0_closing yX0_closing, Cond.code yX0_closing cX0_closing 2 (some .int), Cond.methodLink RX0 180 yX0_hasOpened]
def wsL_sendOn_r3 : List Cond := [Cond.instanceMethod yX0_hasOpened, Cond.selects RX0 yX0_hasOpened yX0_hasOpened, Cond.code yX0_hasOpened cX0_hasOpened 2 (some .boolean), Cond.methodLink RX0 92 yX0_bring, Cond.instanceMethod yX0_bring, Cond.selects RX0 yX0_bring yX0_bring, Cond.code yX0_bring cX0_bring 3 none, Cond.fieldLink RX0 35 "BagHall" "cameAt" "[I", Cond.fieldLink RX0 32 "BagHall" "lastScans" "[I", Cond.fieldLink RX0 79 "BagHall" "scanCount" "I", Cond.methodLink RX0 183 yX0_scan, Cond.instanceMethod yX0_scan, Cond.selects RX0 yX0_scan yX0_scan, Cond.code yX0_scan cX0_scan 3 none, Cond.fieldLink RX0 41 "BagHall" "scanBags" "[I", Cond.fieldLink RX0 44 "BagHall" "scanPlaces" "[I", Cond.fieldLink RX0 47 "BagHall" "scanTimes" "[I"]
def wsL_sendOn : List Cond := .codeWith yL_sendOn cL_sendOn 4 (some .int) [(0, 6, 7, 15)] :: ((wsL_sendOn_r1 ++ (wsL_sendOn_r2 ++ wsL_sendOn_r3)) ++ wsX00 ++ (vx_atS RX0 65 "java/lang/IllegalStateException" ["java/lang/RuntimeException", "java/lang/Exception"]).filter goodWord ++ (vx_atS RX0 134 "java/lang/IndexOutOfBoundsException" ["java/lang/RuntimeException", "java/lang/Exception"]).filter goodWord)
def wsL_holds_r1 : List Cond := [Cond.methodLink RL 31 yX0_count, Cond.instanceMethod yX0_count, Cond.selects RX0 yX0_count yX0_count, Cond.initialized RX0, Cond.code yX0_count cX0_count 2 (some .int), Cond.classLink RX0 50 "java/lang/IllegalArgumentException", Cond.initialized "java/lang/IllegalArgumentException", Cond.fieldLink RX0 38 "BagHall" "bagsAt" "[I", Cond.methodLink RL 34 yX0_atLateral, Cond.instanceMethod yX0_atLateral, Cond.selects RX0 yX0_atLateral yX0_atLateral, Cond.code yX0_atLateral cX0_atLateral 4 (some .int), Cond.classLink RX0 130 "java/lang/IndexOutOfBoundsException", Cond.initialized "java/lang/IndexOutOfBoundsException", Cond.fieldLink RX0 123 "BagHall" "bagCount" "I", Cond.fieldLink RX0 29 "BagHall" "bagPlaces" "[I", Cond.fieldLink RX0 13 "BagHall" "laterals" "[I", Cond.fieldLink RX0 20 "BagHall" "bagFlights" "[I", Cond.methodLink RL 37 yX0_lateralOf, Cond.instanceMethod yX0_lateralOf, Cond.selects RX0 yX0_lateralOf yX0_lateralOf, Cond.code yX0_lateralOf cX0_lateralOf 2 (some .int), Cond.methodLink RX0 85 yX0_requireFlight, Cond.instanceMethod yX0_requireFlight]
def wsL_holds_r2 : List Cond := [Cond.selects RX0 yX0_requireFlight yX0_requireFlight, Cond.code yX0_requireFlight cX0_requireFlight 2 none, Cond.fieldLink RX0 57 "BagHall" "flightCount" "I", Cond.methodLink RL 40 yX0_unmatched, Cond.instanceMethod yX0_unmatched, Cond.selects RX0 yX0_unmatched yX0_unmatched, Cond.code yX0_unmatched cX0_unmatched 4 (some .int), Cond.methodLink RX0 135 yX0_isLoadedFor, Cond.instanceMethod yX0_isLoadedFor, Cond.selects RX0 yX0_isLoadedFor yX0_isLoadedFor, Cond.code yX0_isLoadedFor cX0_isLoadedFor 3 (some .boolean), Cond.methodLink RX0 139 yX0_mayFly, Cond.instanceMethod yX0_mayFly, Cond.selects RX0 yX0_mayFly yX0_mayFly, Cond.code yX0_mayFly cX0_mayFly 2 (some .boolean), Cond.fieldLink RX0 26 "BagHall" "onPurpose" "[Z", Cond.fieldLink RX0 16 "BagHall" "boarded" "[Z", Cond.fieldLink RX0 23 "BagHall" "bagRiders" "[I", Cond.methodLink RL 43 yX0_untilClose, Cond.instanceMethod yX0_untilClose, Cond.selects RX0 yX0_untilClose yX0_untilClose, Cond.code yX0_untilClose cX0_untilClose 2 (some .int), Cond.fieldLink RX0 66 "BagHall" "now" "I", Cond.methodLink RX0 146 Lib.Math.max.name]
def wsL_holds_r3 : List Cond := [Cond.static Lib.Math.max.name, Cond.initialized "java/lang/Math", Cond.code Lib.Math.max.name Lib.Math.max.code 2 (some .int), Cond.methodLink RX0 143 yX0_closing, Cond.instanceMethod yX0_closing, Cond.selects RX0 yX0_closing yX0_closing, Cond.code yX0_closing cX0_closing 2 (some .int), Cond.fieldLink RX0 9 "BagHall" "departures" "[I", Cond.methodLink RL 46 yX0_bags, Cond.instanceMethod yX0_bags, Cond.selects RX0 yX0_bags yX0_bags, Cond.code yX0_bags cX0_bags 1 (some .int), Cond.methodLink RL 50 yX0_placeOf, Cond.instanceMethod yX0_placeOf, Cond.selects RX0 yX0_placeOf yX0_placeOf, Cond.code yX0_placeOf cX0_placeOf 2 (some .int), Cond.methodLink RX0 99 yX0_requireBag, Cond.instanceMethod yX0_requireBag, Cond.selects RX0 yX0_requireBag yX0_requireBag, Cond.code yX0_requireBag cX0_requireBag 2 none, Cond.methodLink RL 53 yX0_time, Cond.instanceMethod yX0_time, Cond.selects RX0 yX0_time yX0_time, Cond.code yX0_time cX0_time 1 (some .int)]
def wsL_holds_r4 : List Cond := [Cond.methodLink RL 56 yX0_placeByScans, Cond.instanceMethod yX0_placeByScans, Cond.selects RX0 yX0_placeByScans yX0_placeByScans, Cond.code yX0_placeByScans cX0_placeByScans 4 (some .int), Cond.fieldLink RX0 79 "BagHall" "scanCount" "I", Cond.fieldLink RX0 41 "BagHall" "scanBags" "[I", Cond.fieldLink RX0 47 "BagHall" "scanTimes" "[I", Cond.fieldLink RX0 44 "BagHall" "scanPlaces" "[I", Cond.methodLink RL 59 yX0_flightOf, Cond.instanceMethod yX0_flightOf, Cond.selects RX0 yX0_flightOf yX0_flightOf, Cond.code yX0_flightOf cX0_flightOf 2 (some .int), Cond.methodLink RL 62 yX0_scans, Cond.instanceMethod yX0_scans, Cond.selects RX0 yX0_scans yX0_scans, Cond.code yX0_scans cX0_scans 1 (some .int)]
def wsL_holds : List Cond := .code yL_holds cL_holds 7 (some .boolean) :: ((wsL_holds_r1 ++ (wsL_holds_r2 ++ (wsL_holds_r3 ++ wsL_holds_r4))) ++ wsX00 ++ (vx_atS RX0 54 "java/lang/IllegalArgumentException" ["java/lang/RuntimeException", "java/lang/Exception"]).filter goodWord ++ (vx_atS RX0 134 "java/lang/IndexOutOfBoundsException" ["java/lang/RuntimeException", "java/lang/Exception"]).filter goodWord)
def wsL_scanned_r1 : List Cond := [Cond.methodLink RL 62 yX0_scans, Cond.instanceMethod yX0_scans, Cond.selects RX0 yX0_scans yX0_scans, Cond.initialized RX0, Cond.code yX0_scans cX0_scans 1 (some .int), Cond.fieldLink RX0 79 "BagHall" "scanCount" "I", Cond.methodLink RL 65 yX0_bagOfScan, Cond.instanceMethod yX0_bagOfScan, Cond.selects RX0 yX0_bagOfScan yX0_bagOfScan, Cond.code yX0_bagOfScan cX0_bagOfScan 2 (some .int), Cond.fieldLink RX0 41 "BagHall" "scanBags" "[I", Cond.methodLink RX0 151 yX0_requireScan, Cond.instanceMethod yX0_requireScan, Cond.selects RX0 yX0_requireScan yX0_requireScan, Cond.code yX0_requireScan cX0_requireScan 2 none, Cond.classLink RX0 130 "java/lang/IndexOutOfBoundsException", Cond.initialized "java/lang/IndexOutOfBoundsException", Cond.methodLink RL 68 yX0_placeOfScan, Cond.instanceMethod yX0_placeOfScan, Cond.selects RX0 yX0_placeOfScan yX0_placeOfScan, Cond.code yX0_placeOfScan cX0_placeOfScan 2 (some .int), Cond.fieldLink RX0 44 "BagHall" "scanPlaces" "[I", Cond.methodLink RL 50 yX0_placeOf, Cond.instanceMethod yX0_placeOf]
def wsL_scanned_r2 : List Cond := [Cond.selects RX0 yX0_placeOf yX0_placeOf, Cond.code yX0_placeOf cX0_placeOf 2 (some .int), Cond.fieldLink RX0 29 "BagHall" "bagPlaces" "[I", Cond.methodLink RX0 99 yX0_requireBag, Cond.instanceMethod yX0_requireBag, Cond.selects RX0 yX0_requireBag yX0_requireBag, Cond.code yX0_requireBag cX0_requireBag 2 none, Cond.fieldLink RX0 123 "BagHall" "bagCount" "I"]
def wsL_scanned : List Cond := .code yL_scanned cL_scanned 4 (some .boolean) :: ((wsL_scanned_r1 ++ wsL_scanned_r2) ++ wsX00 ++ (vx_atS RX0 134 "java/lang/IndexOutOfBoundsException" ["java/lang/RuntimeException", "java/lang/Exception"]).filter goodWord)
def wsL_works_r1 : List Cond := [Cond.methodLink RL 46 yX0_bags, Cond.instanceMethod yX0_bags, Cond.selects RX0 yX0_bags yX0_bags, Cond.initialized RX0, Cond.code yX0_bags cX0_bags 1 (some .int), Cond.fieldLink RX0 123 "BagHall" "bagCount" "I", Cond.methodLink RL 71 yL_low, Cond.static yL_low, Cond.initialized RL, Cond.code yL_low cL_low 2 (some .int), Cond.constant RL 7 (2147483647), Cond.methodLink RL 50 yX0_placeOf, Cond.instanceMethod yX0_placeOf, Cond.selects RX0 yX0_placeOf yX0_placeOf, Cond.code yX0_placeOf cX0_placeOf 2 (some .int), Cond.fieldLink RX0 29 "BagHall" "bagPlaces" "[I", Cond.methodLink RX0 99 yX0_requireBag, Cond.instanceMethod yX0_requireBag, Cond.selects RX0 yX0_requireBag yX0_requireBag, Cond.code yX0_requireBag cX0_requireBag 2 none, Cond.classLink RX0 130 "java/lang/IndexOutOfBoundsException", Cond.initialized "java/lang/IndexOutOfBoundsException", Cond.methodLink RL 62 yX0_scans, Cond.instanceMethod yX0_scans]
def wsL_works_r2 : List Cond := [Cond.selects RX0 yX0_scans yX0_scans, Cond.code yX0_scans cX0_scans 1 (some .int), Cond.fieldLink RX0 79 "BagHall" "scanCount" "I", Cond.methodLink RL 76 yL_decide, Cond.static yL_decide, Cond.codeWith yL_decide cL_decide 4 (some .int) [(0, 6, 7, 15)], Cond.classLink RL 15 "java/lang/IllegalStateException", Cond.methodLink RL 24 yX0_decide, Cond.instanceMethod yX0_decide, Cond.selects RX0 yX0_decide yX0_decide, Cond.code yX0_decide cX0_decide 4 (some .int), Cond.classLink RX0 61 "java/lang/IllegalStateException", Cond.initialized "java/lang/IllegalStateException", Cond.fieldLink RX0 66 "BagHall" "now" "I", Cond.fieldLink RX0 35 "BagHall" "cameAt" "[I", Cond.methodLink RX0 104 yX0_decisionTime, Cond.static yX0_decisionTime, Cond.code yX0_decisionTime cX0_decisionTime 1 (some .int), Cond.methodLink RX0 96 yX0_route, Cond.instanceMethod yX0_route, Cond.selects RX0 yX0_route yX0_route, Cond.code yX0_route cX0_route 3 none, Cond.fieldLink RX0 20 "BagHall" "bagFlights" "[I", Cond.methodLink RX0 174 yX0_routeTo]
def wsL_works_r3 : List Cond := [Cond.instanceMethod yX0_routeTo, Cond.selects RX0 yX0_routeTo yX0_routeTo, Cond.code yX0_routeTo cX0_routeTo 2 (some .int), Cond.fieldLink RX0 13 "BagHall" "laterals" "[I", Cond.fieldLink RX0 38 "BagHall" "bagsAt" "[I", Cond.methodLink RX0 177 yX0_hasClosed, Cond.instanceMethod yX0_hasClosed, Cond.selects RX0 yX0_hasClosed yX0_hasClosed, Cond.code yX0_hasClosed cX0_hasClosed 2 (some .boolean), Cond.methodLink RX0 143 yX0_closing, Cond.instanceMethod yX0_closing, Cond.selects RX0 yX0_closing yX0_closing, Cond.code yX0_closing cX0_closing 2 (some .int), Cond.fieldLink RX0 9 "BagHall" "departures" "[I", Cond.methodLink RX0 180 yX0_hasOpened, Cond.instanceMethod yX0_hasOpened, Cond.selects RX0 yX0_hasOpened yX0_hasOpened, Cond.code yX0_hasOpened cX0_hasOpened 2 (some .boolean), Cond.methodLink RX0 92 yX0_bring, Cond.instanceMethod yX0_bring, Cond.selects RX0 yX0_bring yX0_bring, Cond.code yX0_bring cX0_bring 3 none, Cond.fieldLink RX0 32 "BagHall" "lastScans" "[I", Cond.methodLink RX0 183 yX0_scan]
def wsL_works_r4 : List Cond := [Cond.instanceMethod yX0_scan, Cond.selects RX0 yX0_scan yX0_scan, Cond.code yX0_scan cX0_scan 3 none, Cond.fieldLink RX0 41 "BagHall" "scanBags" "[I", Cond.fieldLink RX0 44 "BagHall" "scanPlaces" "[I", Cond.fieldLink RX0 47 "BagHall" "scanTimes" "[I", Cond.methodLink RX0 109 yX0_nextLevel, Cond.static yX0_nextLevel, Cond.code yX0_nextLevel cX0_nextLevel 1 (some .int), Cond.methodLink RL 79 yL_scanned, Cond.static yL_scanned, Cond.code yL_scanned cL_scanned 4 (some .boolean), Cond.methodLink RL 65 yX0_bagOfScan, Cond.instanceMethod yX0_bagOfScan, Cond.selects RX0 yX0_bagOfScan yX0_bagOfScan, Cond.code yX0_bagOfScan cX0_bagOfScan 2 (some .int), Cond.methodLink RX0 151 yX0_requireScan, Cond.instanceMethod yX0_requireScan, Cond.selects RX0 yX0_requireScan yX0_requireScan, Cond.code yX0_requireScan cX0_requireScan 2 none, Cond.methodLink RL 68 yX0_placeOfScan, Cond.instanceMethod yX0_placeOfScan, Cond.selects RX0 yX0_placeOfScan yX0_placeOfScan, Cond.code yX0_placeOfScan cX0_placeOfScan 2 (some .int)]
def wsL_works_r5 : List Cond := [Cond.methodLink RL 83 yX0_letGo, Cond.instanceMethod yX0_letGo, Cond.selects RX0 yX0_letGo yX0_letGo, Cond.code yX0_letGo cX0_letGo 2 (some .int), Cond.methodLink RX0 112 yX0_requirePlace, Cond.instanceMethod yX0_requirePlace, Cond.selects RX0 yX0_requirePlace yX0_requirePlace, Cond.code yX0_requirePlace cX0_requirePlace 3 none, Cond.methodLink RL 86 yX0_load, Cond.instanceMethod yX0_load, Cond.selects RX0 yX0_load yX0_load, Cond.code yX0_load cX0_load 2 (some .int), Cond.methodLink RX0 115 yX0_loadedBags, Cond.instanceMethod yX0_loadedBags, Cond.selects RX0 yX0_loadedBags yX0_loadedBags, Cond.code yX0_loadedBags cX0_loadedBags 4 (some .int), Cond.methodLink RX0 135 yX0_isLoadedFor, Cond.instanceMethod yX0_isLoadedFor, Cond.selects RX0 yX0_isLoadedFor yX0_isLoadedFor, Cond.code yX0_isLoadedFor cX0_isLoadedFor 3 (some .boolean), Cond.methodLink RL 31 yX0_count, Cond.instanceMethod yX0_count, Cond.selects RX0 yX0_count yX0_count, Cond.code yX0_count cX0_count 2 (some .int)]
def wsL_works_r6 : List Cond := [Cond.classLink RX0 50 "java/lang/IllegalArgumentException", Cond.initialized "java/lang/IllegalArgumentException", Cond.methodLink RL 89 yX0_offload, Cond.instanceMethod yX0_offload, Cond.selects RX0 yX0_offload yX0_offload, Cond.code yX0_offload cX0_offload 2 (some .int), Cond.methodLink RL 92 yL_sendOn, Cond.static yL_sendOn, Cond.codeWith yL_sendOn cL_sendOn 4 (some .int) [(0, 6, 7, 15)], Cond.methodLink RL 28 yX0_sendOn, Cond.instanceMethod yX0_sendOn, Cond.selects RX0 yX0_sendOn yX0_sendOn, Cond.code yX0_sendOn cX0_sendOn 3 (some .int), Cond.fieldLink RX0 26 "BagHall" "onPurpose" "[Z", Cond.methodLink RX0 85 yX0_requireFlight, Cond.instanceMethod yX0_requireFlight, Cond.selects RX0 yX0_requireFlight yX0_requireFlight, Cond.code yX0_requireFlight cX0_requireFlight 2 none, Cond.fieldLink RX0 57 "BagHall" "flightCount" "I", Cond.methodLink RX0 120 yX0_requireNotDeparted, Cond.instanceMethod yX0_requireNotDeparted, Cond.selects RX0 yX0_requireNotDeparted yX0_requireNotDeparted, Cond.code yX0_requireNotDeparted cX0_requireNotDeparted 2 none, Cond.methodLink RL 59 yX0_flightOf]
def wsL_works_r7 : List Cond := [Cond.instanceMethod yX0_flightOf, Cond.selects RX0 yX0_flightOf yX0_flightOf, Cond.code yX0_flightOf cX0_flightOf 2 (some .int)]
def wsL_works : List Cond := .code yL_works cL_works 8 (some .boolean) :: ((wsL_works_r1 ++ (wsL_works_r2 ++ (wsL_works_r3 ++ (wsL_works_r4 ++ (wsL_works_r5 ++ (wsL_works_r6 ++ wsL_works_r7)))))) ++ wsX00 ++ (vx_atS RX0 134 "java/lang/IndexOutOfBoundsException" ["java/lang/RuntimeException", "java/lang/Exception"]).filter goodWord ++ (vx_atS RX0 65 "java/lang/IllegalStateException" ["java/lang/RuntimeException", "java/lang/Exception"]).filter goodWord ++ (vx_atS RX0 54 "java/lang/IllegalArgumentException" ["java/lang/RuntimeException", "java/lang/Exception"]).filter goodWord)
def wsL_law0_r1 : List Cond := [Cond.classLink RL 10 RX0, Cond.instantiable RX0 17, Cond.initialized RX0, Cond.methodLink RL 95 yX0_init, Cond.instanceMethod yX0_init, Cond.code yX0_init cX0_init 1 none, Cond.methodLink RX0 1 objectInit, Cond.instanceMethod objectInit, Cond.code objectInit ⟨#[0xb1]⟩ 1 none, Cond.arrayClass .int, Cond.fieldLink RX0 9 "BagHall" "departures" "[I", Cond.fieldLink RX0 13 "BagHall" "laterals" "[I", Cond.arrayClass .boolean, Cond.fieldLink RX0 16 "BagHall" "boarded" "[Z", Cond.fieldLink RX0 20 "BagHall" "bagFlights" "[I", Cond.fieldLink RX0 23 "BagHall" "bagRiders" "[I", Cond.fieldLink RX0 26 "BagHall" "onPurpose" "[Z", Cond.fieldLink RX0 29 "BagHall" "bagPlaces" "[I", Cond.fieldLink RX0 32 "BagHall" "lastScans" "[I", Cond.fieldLink RX0 35 "BagHall" "cameAt" "[I", Cond.fieldLink RX0 38 "BagHall" "bagsAt" "[I", Cond.fieldLink RX0 41 "BagHall" "scanBags" "[I", Cond.fieldLink RX0 44 "BagHall" "scanPlaces" "[I", Cond.fieldLink RX0 47 "BagHall" "scanTimes" "[I"]
def wsL_law0_r2 : List Cond := [Cond.methodLink RL 53 yX0_time, Cond.instanceMethod yX0_time, Cond.selects RX0 yX0_time yX0_time, Cond.code yX0_time cX0_time 1 (some .int), Cond.fieldLink RX0 66 "BagHall" "now" "I", Cond.methodLink RL 46 yX0_bags, Cond.instanceMethod yX0_bags, Cond.selects RX0 yX0_bags yX0_bags, Cond.code yX0_bags cX0_bags 1 (some .int), Cond.fieldLink RX0 123 "BagHall" "bagCount" "I", Cond.methodLink RL 96 yL_holds, Cond.static yL_holds, Cond.initialized RL, Cond.code yL_holds cL_holds 7 (some .boolean), Cond.methodLink RL 31 yX0_count, Cond.instanceMethod yX0_count, Cond.selects RX0 yX0_count yX0_count, Cond.code yX0_count cX0_count 2 (some .int), Cond.classLink RX0 50 "java/lang/IllegalArgumentException", Cond.initialized "java/lang/IllegalArgumentException", Cond.methodLink RL 34 yX0_atLateral, Cond.instanceMethod yX0_atLateral, Cond.selects RX0 yX0_atLateral yX0_atLateral, Cond.code yX0_atLateral cX0_atLateral 4 (some .int)]
def wsL_law0_r3 : List Cond := [Cond.classLink RX0 130 "java/lang/IndexOutOfBoundsException", Cond.initialized "java/lang/IndexOutOfBoundsException", Cond.methodLink RL 37 yX0_lateralOf, Cond.instanceMethod yX0_lateralOf, Cond.selects RX0 yX0_lateralOf yX0_lateralOf, Cond.code yX0_lateralOf cX0_lateralOf 2 (some .int), Cond.methodLink RX0 85 yX0_requireFlight, Cond.instanceMethod yX0_requireFlight, Cond.selects RX0 yX0_requireFlight yX0_requireFlight, Cond.code yX0_requireFlight cX0_requireFlight 2 none, Cond.fieldLink RX0 57 "BagHall" "flightCount" "I", Cond.methodLink RL 40 yX0_unmatched, Cond.instanceMethod yX0_unmatched, Cond.selects RX0 yX0_unmatched yX0_unmatched, Cond.code yX0_unmatched cX0_unmatched 4 (some .int), Cond.methodLink RX0 135 yX0_isLoadedFor, Cond.instanceMethod yX0_isLoadedFor, Cond.selects RX0 yX0_isLoadedFor yX0_isLoadedFor, Cond.code yX0_isLoadedFor cX0_isLoadedFor 3 (some .boolean), Cond.methodLink RX0 139 yX0_mayFly, Cond.instanceMethod yX0_mayFly, Cond.selects RX0 yX0_mayFly yX0_mayFly, Cond.code yX0_mayFly cX0_mayFly 2 (some .boolean), Cond.methodLink RL 43 yX0_untilClose]
def wsL_law0_r4 : List Cond := [Cond.instanceMethod yX0_untilClose, Cond.selects RX0 yX0_untilClose yX0_untilClose, Cond.code yX0_untilClose cX0_untilClose 2 (some .int), Cond.methodLink RX0 146 Lib.Math.max.name, Cond.static Lib.Math.max.name, Cond.initialized "java/lang/Math", Cond.code Lib.Math.max.name Lib.Math.max.code 2 (some .int), Cond.methodLink RX0 143 yX0_closing, Cond.instanceMethod yX0_closing, Cond.selects RX0 yX0_closing yX0_closing, Cond.code yX0_closing cX0_closing 2 (some .int), Cond.methodLink RL 50 yX0_placeOf, Cond.instanceMethod yX0_placeOf, Cond.selects RX0 yX0_placeOf yX0_placeOf, Cond.code yX0_placeOf cX0_placeOf 2 (some .int), Cond.methodLink RX0 99 yX0_requireBag, Cond.instanceMethod yX0_requireBag, Cond.selects RX0 yX0_requireBag yX0_requireBag, Cond.code yX0_requireBag cX0_requireBag 2 none, Cond.methodLink RL 56 yX0_placeByScans, Cond.instanceMethod yX0_placeByScans, Cond.selects RX0 yX0_placeByScans yX0_placeByScans, Cond.code yX0_placeByScans cX0_placeByScans 4 (some .int), Cond.fieldLink RX0 79 "BagHall" "scanCount" "I"]
def wsL_law0_r5 : List Cond := [Cond.methodLink RL 59 yX0_flightOf, Cond.instanceMethod yX0_flightOf, Cond.selects RX0 yX0_flightOf yX0_flightOf, Cond.code yX0_flightOf cX0_flightOf 2 (some .int), Cond.methodLink RL 62 yX0_scans, Cond.instanceMethod yX0_scans, Cond.selects RX0 yX0_scans yX0_scans, Cond.code yX0_scans cX0_scans 1 (some .int), Cond.methodLink RL 100 yL_cell, Cond.static yL_cell, Cond.code yL_cell cL_cell 2 (some .int), Cond.constant RL 8 (40503), Cond.methodLink RL 71 yL_low, Cond.static yL_low, Cond.code yL_low cL_low 2 (some .int), Cond.constant RL 7 (2147483647), Cond.methodLink RL 104 yL_addFlight, Cond.static yL_addFlight, Cond.codeWith yL_addFlight cL_addFlight 3 (some .int) [(0, 5, 6, 15)], Cond.classLink RL 15 "java/lang/IllegalStateException", Cond.methodLink RL 9 yX0_addFlight, Cond.instanceMethod yX0_addFlight, Cond.selects RX0 yX0_addFlight yX0_addFlight, Cond.code yX0_addFlight cX0_addFlight 4 (some .int)]
def wsL_law0_r6 : List Cond := [Cond.classLink RX0 61 "java/lang/IllegalStateException", Cond.initialized "java/lang/IllegalStateException", Cond.methodLink RX0 69 yX0_lowestFreeLateral, Cond.instanceMethod yX0_lowestFreeLateral, Cond.selects RX0 yX0_lowestFreeLateral yX0_lowestFreeLateral, Cond.code yX0_lowestFreeLateral cX0_lowestFreeLateral 3 (some .int), Cond.methodLink RX0 166 yX0_isFree, Cond.instanceMethod yX0_isFree, Cond.selects RX0 yX0_isFree yX0_isFree, Cond.code yX0_isFree cX0_isFree 4 (some .boolean), Cond.methodLink RX0 169 Lib.Math.abs.name, Cond.static Lib.Math.abs.name, Cond.code Lib.Math.abs.name Lib.Math.abs.code 1 (some .int), Cond.methodLink RL 107 yL_comes, Cond.static yL_comes, Cond.codeWith yL_comes cL_comes 5 (some .int) [(0, 19, 20, 15)], Cond.methodLink RL 17 yX0_transfer, Cond.instanceMethod yX0_transfer, Cond.selects RX0 yX0_transfer yX0_transfer, Cond.code yX0_transfer cX0_transfer 4 (some .int), Cond.methodLink RX0 88 yX0_takeIn, Cond.instanceMethod yX0_takeIn, Cond.selects RX0 yX0_takeIn yX0_takeIn, Cond.code yX0_takeIn cX0_takeIn 4 (some .int)]
def wsL_law0_r7 : List Cond := [Cond.methodLink RX0 73 yX0_requireRider, Cond.instanceMethod yX0_requireRider, Cond.selects RX0 yX0_requireRider yX0_requireRider, Cond.code yX0_requireRider cX0_requireRider 2 none, Cond.methodLink RX0 120 yX0_requireNotDeparted, Cond.instanceMethod yX0_requireNotDeparted, Cond.selects RX0 yX0_requireNotDeparted yX0_requireNotDeparted, Cond.code yX0_requireNotDeparted cX0_requireNotDeparted 2 none, Cond.methodLink RX0 96 yX0_route, Cond.instanceMethod yX0_route, Cond.selects RX0 yX0_route yX0_route, Cond.code yX0_route cX0_route 3 none, Cond.methodLink RX0 174 yX0_routeTo, Cond.instanceMethod yX0_routeTo, Cond.selects RX0 yX0_routeTo yX0_routeTo, Cond.code yX0_routeTo cX0_routeTo 2 (some .int), Cond.methodLink RX0 177 yX0_hasClosed, Cond.instanceMethod yX0_hasClosed, Cond.selects RX0 yX0_hasClosed yX0_hasClosed, Cond.code yX0_hasClosed cX0_hasClosed 2 (some .boolean), Cond.methodLink RX0 180 yX0_hasOpened, Cond.instanceMethod yX0_hasOpened, Cond.selects RX0 yX0_hasOpened yX0_hasOpened, Cond.code yX0_hasOpened cX0_hasOpened 2 (some .boolean)]
def wsL_law0_r8 : List Cond := [Cond.methodLink RX0 92 yX0_bring, Cond.instanceMethod yX0_bring, Cond.selects RX0 yX0_bring yX0_bring, Cond.code yX0_bring cX0_bring 3 none, Cond.methodLink RX0 183 yX0_scan, Cond.instanceMethod yX0_scan, Cond.selects RX0 yX0_scan yX0_scan, Cond.code yX0_scan cX0_scan 3 none, Cond.methodLink RL 21 yX0_checkIn, Cond.instanceMethod yX0_checkIn, Cond.selects RX0 yX0_checkIn yX0_checkIn, Cond.code yX0_checkIn cX0_checkIn 4 (some .int), Cond.methodLink RL 79 yL_scanned, Cond.static yL_scanned, Cond.code yL_scanned cL_scanned 4 (some .boolean), Cond.methodLink RL 65 yX0_bagOfScan, Cond.instanceMethod yX0_bagOfScan, Cond.selects RX0 yX0_bagOfScan yX0_bagOfScan, Cond.code yX0_bagOfScan cX0_bagOfScan 2 (some .int), Cond.methodLink RX0 151 yX0_requireScan, Cond.instanceMethod yX0_requireScan, Cond.selects RX0 yX0_requireScan yX0_requireScan, Cond.code yX0_requireScan cX0_requireScan 2 none, Cond.methodLink RL 68 yX0_placeOfScan]
def wsL_law0_r9 : List Cond := [Cond.instanceMethod yX0_placeOfScan, Cond.selects RX0 yX0_placeOfScan yX0_placeOfScan, Cond.code yX0_placeOfScan cX0_placeOfScan 2 (some .int), Cond.methodLink RL 111 yL_works, Cond.static yL_works, Cond.code yL_works cL_works 8 (some .boolean), Cond.methodLink RL 76 yL_decide, Cond.static yL_decide, Cond.codeWith yL_decide cL_decide 4 (some .int) [(0, 6, 7, 15)], Cond.methodLink RL 24 yX0_decide, Cond.instanceMethod yX0_decide, Cond.selects RX0 yX0_decide yX0_decide, Cond.code yX0_decide cX0_decide 4 (some .int), Cond.methodLink RX0 104 yX0_decisionTime, Cond.static yX0_decisionTime, Cond.code yX0_decisionTime cX0_decisionTime 1 (some .int), Cond.methodLink RX0 109 yX0_nextLevel, Cond.static yX0_nextLevel, Cond.code yX0_nextLevel cX0_nextLevel 1 (some .int), Cond.methodLink RL 83 yX0_letGo, Cond.instanceMethod yX0_letGo, Cond.selects RX0 yX0_letGo yX0_letGo, Cond.code yX0_letGo cX0_letGo 2 (some .int), Cond.methodLink RX0 112 yX0_requirePlace]
def wsL_law0_r10 : List Cond := [Cond.instanceMethod yX0_requirePlace, Cond.selects RX0 yX0_requirePlace yX0_requirePlace, Cond.code yX0_requirePlace cX0_requirePlace 3 none, Cond.methodLink RL 86 yX0_load, Cond.instanceMethod yX0_load, Cond.selects RX0 yX0_load yX0_load, Cond.code yX0_load cX0_load 2 (some .int), Cond.methodLink RX0 115 yX0_loadedBags, Cond.instanceMethod yX0_loadedBags, Cond.selects RX0 yX0_loadedBags yX0_loadedBags, Cond.code yX0_loadedBags cX0_loadedBags 4 (some .int), Cond.methodLink RL 89 yX0_offload, Cond.instanceMethod yX0_offload, Cond.selects RX0 yX0_offload yX0_offload, Cond.code yX0_offload cX0_offload 2 (some .int), Cond.methodLink RL 92 yL_sendOn, Cond.static yL_sendOn, Cond.codeWith yL_sendOn cL_sendOn 4 (some .int) [(0, 6, 7, 15)], Cond.methodLink RL 28 yX0_sendOn, Cond.instanceMethod yX0_sendOn, Cond.selects RX0 yX0_sendOn yX0_sendOn, Cond.code yX0_sendOn cX0_sendOn 3 (some .int), Cond.methodLink RL 115 yX0_board, Cond.instanceMethod yX0_board]
def wsL_law0_r11 : List Cond := [Cond.selects RX0 yX0_board yX0_board, Cond.code yX0_board cX0_board 4 (some .boolean), Cond.methodLink RL 119 yX0_pass, Cond.instanceMethod yX0_pass, Cond.selects RX0 yX0_pass yX0_pass, Cond.code yX0_pass cX0_pass 4 (some .int), Cond.methodLink RX0 82 yX0_passOneMinute, Cond.instanceMethod yX0_passOneMinute, Cond.selects RX0 yX0_passOneMinute yX0_passOneMinute, Cond.code yX0_passOneMinute cX0_passOneMinute 1 none, Cond.methodLink RX0 186 yX0_emptyStore, Cond.instanceMethod yX0_emptyStore, Cond.selects RX0 yX0_emptyStore yX0_emptyStore, Cond.code yX0_emptyStore cX0_emptyStore 3 none, Cond.methodLink RX0 195 yX0_firstToLeaveStore, Cond.instanceMethod yX0_firstToLeaveStore, Cond.selects RX0 yX0_firstToLeaveStore yX0_firstToLeaveStore, Cond.code yX0_firstToLeaveStore cX0_firstToLeaveStore 3 (some .int), Cond.methodLink RX0 189 yX0_routeLoop, Cond.instanceMethod yX0_routeLoop, Cond.selects RX0 yX0_routeLoop yX0_routeLoop, Cond.code yX0_routeLoop cX0_routeLoop 2 none, Cond.methodLink RX0 192 yX0_depart, Cond.instanceMethod yX0_depart]
def wsL_law0_r12 : List Cond := [Cond.selects RX0 yX0_depart yX0_depart, Cond.code yX0_depart cX0_depart 2 none, Cond.methodLink RX0 199 yX0_settleBags, Cond.instanceMethod yX0_settleBags, Cond.selects RX0 yX0_settleBags yX0_settleBags, Cond.code yX0_settleBags cX0_settleBags 3 none, Cond.methodLink RX0 202 yX0_settle, Cond.instanceMethod yX0_settle, Cond.selects RX0 yX0_settle yX0_settle, Cond.code yX0_settle cX0_settle 3 none]
def wsL_law0 : List Cond := (wsL_law0_r1 ++ (wsL_law0_r2 ++ (wsL_law0_r3 ++ (wsL_law0_r4 ++ (wsL_law0_r5 ++ (wsL_law0_r6 ++ (wsL_law0_r7 ++ (wsL_law0_r8 ++ (wsL_law0_r9 ++ (wsL_law0_r10 ++ (wsL_law0_r11 ++ wsL_law0_r12))))))))))) ++ wsX00 ++ ([] : List Cond)
def wsL_law : List Cond := wsL_law0 ++ (vx_atS RX0 54 "java/lang/IllegalArgumentException" ["java/lang/RuntimeException", "java/lang/Exception"]).filter goodWord ++ (vx_atS RX0 134 "java/lang/IndexOutOfBoundsException" ["java/lang/RuntimeException", "java/lang/Exception"]).filter goodWord ++ (vx_atS RX0 65 "java/lang/IllegalStateException" ["java/lang/RuntimeException", "java/lang/Exception"]).filter goodWord
set_option maxRecDepth 20000 in
theorem wsL_law0_r1_in : ∀ w ∈ wsL_law0_r1, w ∈ lw_tbl := fun w h => (goodIn_p wsL_law0_r1 [40, 43] rfl (by decide +kernel) w h).1
set_option maxRecDepth 20000 in
theorem wsL_law0_r2_in : ∀ w ∈ wsL_law0_r2, w ∈ lw_tbl := fun w h => (goodIn_p wsL_law0_r2 [257, 261, 347, 351, 356] rfl (by decide +kernel) w h).1
set_option maxRecDepth 20000 in
theorem wsL_law0_r3_in : ∀ w ∈ wsL_law0_r3, w ∈ lw_tbl := fun w h => (goodIn_p wsL_law0_r3 [361, 333, 365, 369, 253] rfl (by decide +kernel) w h).1
set_option maxRecDepth 20000 in
theorem wsL_law0_r4_in : ∀ w ∈ wsL_law0_r4, w ∈ lw_tbl := fun w h => (goodIn_p wsL_law0_r4 [373, 376, 237, 265, 269, 380] rfl (by decide +kernel) w h).1
set_option maxRecDepth 20000 in
theorem wsL_law0_r5_in : ∀ w ∈ wsL_law0_r5, w ∈ lw_tbl := fun w h => (goodIn_p wsL_law0_r5 [385, 274, 281, 277, 290] rfl (by decide +kernel) w h).1
set_option maxRecDepth 20000 in
theorem wsL_law0_r6_in : ∀ w ∈ wsL_law0_r6, w ∈ lw_tbl := fun w h => (goodIn_p wsL_law0_r6 [311, 315, 318, 325, 329] rfl (by decide +kernel) w h).1
set_option maxRecDepth 20000 in
theorem wsL_law0_r7_in : ∀ w ∈ wsL_law0_r7, w ∈ lw_tbl := fun w h => (goodIn_p wsL_law0_r7 [105, 339, 225, 229, 233, 209] rfl (by decide +kernel) w h).1
set_option maxRecDepth 20000 in
theorem wsL_law0_r8_in : ∀ w ∈ wsL_law0_r8, w ∈ lw_tbl := fun w h => (goodIn_p wsL_law0_r8 [213, 217, 344, 388, 392, 396] rfl (by decide +kernel) w h).1
set_option maxRecDepth 20000 in
theorem wsL_law0_r9_in : ∀ w ∈ wsL_law0_r9, w ∈ lw_tbl := fun w h => (goodIn_p wsL_law0_r9 [401, 404, 411, 415, 419, 423] rfl (by decide +kernel) w h).1
set_option maxRecDepth 20000 in
theorem wsL_law0_r10_in : ∀ w ∈ wsL_law0_r10, w ∈ lw_tbl := fun w h => (goodIn_p wsL_law0_r10 [427, 432, 436, 440, 447] rfl (by decide +kernel) w h).1
set_option maxRecDepth 20000 in
theorem wsL_law0_r11_in : ∀ w ∈ wsL_law0_r11, w ∈ lw_tbl := fun w h => (goodIn_p wsL_law0_r11 [101, 177, 197, 201, 205, 221] rfl (by decide +kernel) w h).1
set_option maxRecDepth 20000 in
theorem wsL_law0_r12_in : ∀ w ∈ wsL_law0_r12, w ∈ lw_tbl := fun w h => (goodIn_p wsL_law0_r12 [241, 245, 249] rfl (by decide +kernel) w h).1
theorem wsL_law_inX0 : ∀ w ∈ wsX00, w ∈ lw_tbl := by decide +kernel
theorem wsL_law_in0 : ∀ w ∈ wsL_law0, w ∈ lw_tbl := by
  show ∀ w ∈ (wsL_law0_r1 ++ (wsL_law0_r2 ++ (wsL_law0_r3 ++ (wsL_law0_r4 ++ (wsL_law0_r5 ++ (wsL_law0_r6 ++ (wsL_law0_r7 ++ (wsL_law0_r8 ++ (wsL_law0_r9 ++ (wsL_law0_r10 ++ (wsL_law0_r11 ++ wsL_law0_r12))))))))))) ++ wsX00 ++ ([] : List Cond), w ∈ lw_tbl
  exact List.forall_mem_append.mpr ⟨List.forall_mem_append.mpr ⟨List.forall_mem_append.mpr ⟨wsL_law0_r1_in, List.forall_mem_append.mpr ⟨wsL_law0_r2_in, List.forall_mem_append.mpr ⟨wsL_law0_r3_in, List.forall_mem_append.mpr ⟨wsL_law0_r4_in, List.forall_mem_append.mpr ⟨wsL_law0_r5_in, List.forall_mem_append.mpr ⟨wsL_law0_r6_in, List.forall_mem_append.mpr ⟨wsL_law0_r7_in, List.forall_mem_append.mpr ⟨wsL_law0_r8_in, List.forall_mem_append.mpr ⟨wsL_law0_r9_in, List.forall_mem_append.mpr ⟨wsL_law0_r10_in, List.forall_mem_append.mpr ⟨wsL_law0_r11_in, wsL_law0_r12_in⟩⟩⟩⟩⟩⟩⟩⟩⟩⟩⟩, wsL_law_inX0⟩, fun _ h => absurd h List.not_mem_nil⟩
theorem wsL_law_x0 : ∀ w ∈ (vx_atS RX0 54 "java/lang/IllegalArgumentException" ["java/lang/RuntimeException", "java/lang/Exception"]).filter goodWord, w ∈ lw_tbl := by decide +kernel
theorem wsL_law_x1 : ∀ w ∈ (vx_atS RX0 134 "java/lang/IndexOutOfBoundsException" ["java/lang/RuntimeException", "java/lang/Exception"]).filter goodWord, w ∈ lw_tbl := by decide +kernel
theorem wsL_law_x2 : ∀ w ∈ (vx_atS RX0 65 "java/lang/IllegalStateException" ["java/lang/RuntimeException", "java/lang/Exception"]).filter goodWord, w ∈ lw_tbl := by decide +kernel
theorem wsL_law_in : ∀ w ∈ wsL_law, w ∈ lw_tbl := fun w h => (List.mem_append.mp h).elim (fun h => (List.mem_append.mp h).elim (fun h => (List.mem_append.mp h).elim (fun h => wsL_law_in0 w h) (fun h => wsL_law_x0 w h)) (fun h => wsL_law_x1 w h)) (fun h => wsL_law_x2 w h)
theorem inlX0 : ∀ w ∈ wsX00, w ∈ wsL_law := fun _ h => List.mem_append_left _ (List.mem_append_left _ (List.mem_append_left _ (List.mem_append_left _ (List.mem_append_right _ h))))
theorem inX0 : ∀ w ∈ wsX00, w ∈ lw_tbl := fun w h => wsL_law_in w (inlX0 w h)
theorem inX1 : ∀ w ∈ wsX10, w ∈ lw_tbl := by decide +kernel
theorem inJ9 : ∀ w ∈ wsJ90, w ∈ lw_tbl := by decide +kernel
theorem inJ0 : ∀ w ∈ wsJ00, w ∈ lw_tbl := by decide +kernel
theorem dX0_init_0 : decode cX0_init 0 = .ok (.aload_n 0, 1) := by decide +kernel
theorem dX0_init_1 : decode cX0_init 1 = .ok (.invokespecial 1, 3) := by decide +kernel
theorem dX0_init_4 : decode cX0_init 4 = .ok (.aload_n 0, 1) := by decide +kernel
theorem dX0_init_5 : decode cX0_init 5 = .ok (.bipush 10, 2) := by decide +kernel
theorem dX0_init_7 : decode cX0_init 7 = .ok (.newarray .int, 2) := by decide +kernel
theorem dX0_init_9 : decode cX0_init 9 = .ok (.putfield 9, 3) := by decide +kernel
theorem dX0_init_12 : decode cX0_init 12 = .ok (.aload_n 0, 1) := by decide +kernel
theorem dX0_init_13 : decode cX0_init 13 = .ok (.bipush 10, 2) := by decide +kernel
theorem dX0_init_15 : decode cX0_init 15 = .ok (.newarray .int, 2) := by decide +kernel
theorem dX0_init_17 : decode cX0_init 17 = .ok (.putfield 13, 3) := by decide +kernel
theorem dX0_init_20 : decode cX0_init 20 = .ok (.aload_n 0, 1) := by decide +kernel
theorem dX0_init_21 : decode cX0_init 21 = .ok (.bipush 40, 2) := by decide +kernel
theorem dX0_init_23 : decode cX0_init 23 = .ok (.newarray .boolean, 2) := by decide +kernel
theorem dX0_init_25 : decode cX0_init 25 = .ok (.putfield 16, 3) := by decide +kernel
theorem dX0_init_28 : decode cX0_init 28 = .ok (.aload_n 0, 1) := by decide +kernel
theorem dX0_init_29 : decode cX0_init 29 = .ok (.bipush 48, 2) := by decide +kernel
theorem dX0_init_31 : decode cX0_init 31 = .ok (.newarray .int, 2) := by decide +kernel
theorem dX0_init_33 : decode cX0_init 33 = .ok (.putfield 20, 3) := by decide +kernel
theorem dX0_init_36 : decode cX0_init 36 = .ok (.aload_n 0, 1) := by decide +kernel
theorem dX0_init_37 : decode cX0_init 37 = .ok (.bipush 48, 2) := by decide +kernel
theorem dX0_init_39 : decode cX0_init 39 = .ok (.newarray .int, 2) := by decide +kernel
theorem dX0_init_41 : decode cX0_init 41 = .ok (.putfield 23, 3) := by decide +kernel
theorem dX0_init_44 : decode cX0_init 44 = .ok (.aload_n 0, 1) := by decide +kernel
theorem dX0_init_45 : decode cX0_init 45 = .ok (.bipush 48, 2) := by decide +kernel
theorem dX0_init_47 : decode cX0_init 47 = .ok (.newarray .boolean, 2) := by decide +kernel
theorem dX0_init_49 : decode cX0_init 49 = .ok (.putfield 26, 3) := by decide +kernel
theorem dX0_init_52 : decode cX0_init 52 = .ok (.aload_n 0, 1) := by decide +kernel
theorem dX0_init_53 : decode cX0_init 53 = .ok (.bipush 48, 2) := by decide +kernel
theorem dX0_init_55 : decode cX0_init 55 = .ok (.newarray .int, 2) := by decide +kernel
theorem dX0_init_57 : decode cX0_init 57 = .ok (.putfield 29, 3) := by decide +kernel
theorem dX0_init_60 : decode cX0_init 60 = .ok (.aload_n 0, 1) := by decide +kernel
theorem dX0_init_61 : decode cX0_init 61 = .ok (.bipush 48, 2) := by decide +kernel
theorem dX0_init_63 : decode cX0_init 63 = .ok (.newarray .int, 2) := by decide +kernel
theorem dX0_init_65 : decode cX0_init 65 = .ok (.putfield 32, 3) := by decide +kernel
theorem dX0_init_68 : decode cX0_init 68 = .ok (.aload_n 0, 1) := by decide +kernel
theorem dX0_init_69 : decode cX0_init 69 = .ok (.bipush 48, 2) := by decide +kernel
theorem dX0_init_71 : decode cX0_init 71 = .ok (.newarray .int, 2) := by decide +kernel
theorem dX0_init_73 : decode cX0_init 73 = .ok (.putfield 35, 3) := by decide +kernel
theorem dX0_init_76 : decode cX0_init 76 = .ok (.aload_n 0, 1) := by decide +kernel
theorem dX0_init_77 : decode cX0_init 77 = .ok (.bipush 12, 2) := by decide +kernel
theorem dX0_init_79 : decode cX0_init 79 = .ok (.newarray .int, 2) := by decide +kernel
theorem dX0_init_81 : decode cX0_init 81 = .ok (.putfield 38, 3) := by decide +kernel
theorem dX0_init_84 : decode cX0_init 84 = .ok (.aload_n 0, 1) := by decide +kernel
theorem dX0_init_85 : decode cX0_init 85 = .ok (.sipush 2048, 3) := by decide +kernel
theorem dX0_init_88 : decode cX0_init 88 = .ok (.newarray .int, 2) := by decide +kernel
theorem dX0_init_90 : decode cX0_init 90 = .ok (.putfield 41, 3) := by decide +kernel
theorem dX0_init_93 : decode cX0_init 93 = .ok (.aload_n 0, 1) := by decide +kernel
theorem dX0_init_94 : decode cX0_init 94 = .ok (.sipush 2048, 3) := by decide +kernel
theorem dX0_init_97 : decode cX0_init 97 = .ok (.newarray .int, 2) := by decide +kernel
theorem dX0_init_99 : decode cX0_init 99 = .ok (.putfield 44, 3) := by decide +kernel
theorem dX0_init_102 : decode cX0_init 102 = .ok (.aload_n 0, 1) := by decide +kernel
theorem dX0_init_103 : decode cX0_init 103 = .ok (.sipush 2048, 3) := by decide +kernel
theorem dX0_init_106 : decode cX0_init 106 = .ok (.newarray .int, 2) := by decide +kernel
theorem dX0_init_108 : decode cX0_init 108 = .ok (.putfield 47, 3) := by decide +kernel
theorem dX0_init_111 : decode cX0_init 111 = .ok (.aload_n 0, 1) := by decide +kernel
theorem dX0_init_112 : decode cX0_init 112 = .ok (.getfield 38, 3) := by decide +kernel
theorem dX0_init_115 : decode cX0_init 115 = .ok (.iconst 0, 1) := by decide +kernel
theorem dX0_init_116 : decode cX0_init 116 = .ok (.bipush 48, 2) := by decide +kernel
theorem dX0_init_118 : decode cX0_init 118 = .ok (.iastore, 1) := by decide +kernel
theorem dX0_init_119 : decode cX0_init 119 = .ok (.return_, 1) := by decide +kernel
set_option maxRecDepth 20000 in
theorem ggX0_addFlight_X0_lowestFreeLateral : GoodIn wsX0_addFlight wsX0_lowestFreeLateral := goodIn_r _ [13, 14, 15, 16, 12, 17, 5, 7, 8, 18, 19, 20, 21, 22, 23, 24, 25, 26, 27, 28, 29, 30, 31, 32, 33, 34, 35, 36, 37, 38] (by decide +kernel) (by decide +kernel)
set_option maxRecDepth 20000 in
theorem gX0_addFlight_X0_lowestFreeLateral : GoodIn wsX0_addFlight (wsV RX0 69 RX0 yX0_lowestFreeLateral wsX0_lowestFreeLateral) := goodIn_app (goodIn_of _ (by decide +kernel)) ggX0_addFlight_X0_lowestFreeLateral
theorem dX0_addFlight_0 : decode cX0_addFlight 0 = .ok (.iload_n 1, 1) := by decide +kernel
theorem dX0_addFlight_1 : decode cX0_addFlight 1 = .ok (.iconst 1, 1) := by decide +kernel
theorem dX0_addFlight_2 : decode cX0_addFlight 2 = .ok (.if_icmp .lt 10, 3) := by decide +kernel
theorem dX0_addFlight_5 : decode cX0_addFlight 5 = .ok (.iload_n 1, 1) := by decide +kernel
theorem dX0_addFlight_6 : decode cX0_addFlight 6 = .ok (.sipush 1000, 3) := by decide +kernel
theorem dX0_addFlight_9 : decode cX0_addFlight 9 = .ok (.if_icmp .le 13, 3) := by decide +kernel
theorem dX0_addFlight_12 : decode cX0_addFlight 12 = .ok (.new 50, 3) := by decide +kernel
theorem dX0_addFlight_15 : decode cX0_addFlight 15 = .ok (.dup, 1) := by decide +kernel
theorem dX0_addFlight_16 : decode cX0_addFlight 16 = .ok (.ldc 52, 2) := by decide +kernel
theorem dX0_addFlight_18 : decode cX0_addFlight 18 = .ok (.invokespecial 54, 3) := by decide +kernel
theorem dX0_addFlight_21 : decode cX0_addFlight 21 = .ok (.athrow, 1) := by decide +kernel
theorem dX0_addFlight_22 : decode cX0_addFlight 22 = .ok (.aload_n 0, 1) := by decide +kernel
theorem dX0_addFlight_23 : decode cX0_addFlight 23 = .ok (.getfield 57, 3) := by decide +kernel
theorem dX0_addFlight_26 : decode cX0_addFlight 26 = .ok (.bipush 10, 2) := by decide +kernel
theorem dX0_addFlight_28 : decode cX0_addFlight 28 = .ok (.if_icmp .lt 13, 3) := by decide +kernel
theorem dX0_addFlight_31 : decode cX0_addFlight 31 = .ok (.new 61, 3) := by decide +kernel
theorem dX0_addFlight_34 : decode cX0_addFlight 34 = .ok (.dup, 1) := by decide +kernel
theorem dX0_addFlight_35 : decode cX0_addFlight 35 = .ok (.ldc 63, 2) := by decide +kernel
theorem dX0_addFlight_37 : decode cX0_addFlight 37 = .ok (.invokespecial 65, 3) := by decide +kernel
theorem dX0_addFlight_40 : decode cX0_addFlight 40 = .ok (.athrow, 1) := by decide +kernel
theorem dX0_addFlight_41 : decode cX0_addFlight 41 = .ok (.aload_n 0, 1) := by decide +kernel
theorem dX0_addFlight_42 : decode cX0_addFlight 42 = .ok (.getfield 57, 3) := by decide +kernel
theorem dX0_addFlight_45 : decode cX0_addFlight 45 = .ok (.istore_n 2, 1) := by decide +kernel
theorem dX0_addFlight_46 : decode cX0_addFlight 46 = .ok (.aload_n 0, 1) := by decide +kernel
theorem dX0_addFlight_47 : decode cX0_addFlight 47 = .ok (.getfield 66, 3) := by decide +kernel
theorem dX0_addFlight_50 : decode cX0_addFlight 50 = .ok (.iload_n 1, 1) := by decide +kernel
theorem dX0_addFlight_51 : decode cX0_addFlight 51 = .ok (.iadd, 1) := by decide +kernel
theorem dX0_addFlight_52 : decode cX0_addFlight 52 = .ok (.istore_n 3, 1) := by decide +kernel
theorem dX0_addFlight_53 : decode cX0_addFlight 53 = .ok (.aload_n 0, 1) := by decide +kernel
theorem dX0_addFlight_54 : decode cX0_addFlight 54 = .ok (.getfield 13, 3) := by decide +kernel
theorem dX0_addFlight_57 : decode cX0_addFlight 57 = .ok (.iload_n 2, 1) := by decide +kernel
theorem dX0_addFlight_58 : decode cX0_addFlight 58 = .ok (.aload_n 0, 1) := by decide +kernel
theorem dX0_addFlight_59 : decode cX0_addFlight 59 = .ok (.iload_n 3, 1) := by decide +kernel
theorem dX0_addFlight_60 : decode cX0_addFlight 60 = .ok (.invokevirtual 69, 3) := by decide +kernel
theorem dX0_addFlight_63 : decode cX0_addFlight 63 = .ok (.iastore, 1) := by decide +kernel
theorem dX0_addFlight_64 : decode cX0_addFlight 64 = .ok (.aload_n 0, 1) := by decide +kernel
theorem dX0_addFlight_65 : decode cX0_addFlight 65 = .ok (.getfield 9, 3) := by decide +kernel
theorem dX0_addFlight_68 : decode cX0_addFlight 68 = .ok (.iload_n 2, 1) := by decide +kernel
theorem dX0_addFlight_69 : decode cX0_addFlight 69 = .ok (.iload_n 3, 1) := by decide +kernel
theorem dX0_addFlight_70 : decode cX0_addFlight 70 = .ok (.iastore, 1) := by decide +kernel
theorem dX0_addFlight_71 : decode cX0_addFlight 71 = .ok (.aload_n 0, 1) := by decide +kernel
theorem dX0_addFlight_72 : decode cX0_addFlight 72 = .ok (.dup, 1) := by decide +kernel
theorem dX0_addFlight_73 : decode cX0_addFlight 73 = .ok (.getfield 57, 3) := by decide +kernel
theorem dX0_addFlight_76 : decode cX0_addFlight 76 = .ok (.iconst 1, 1) := by decide +kernel
theorem dX0_addFlight_77 : decode cX0_addFlight 77 = .ok (.iadd, 1) := by decide +kernel
theorem dX0_addFlight_78 : decode cX0_addFlight 78 = .ok (.putfield 57, 3) := by decide +kernel
theorem dX0_addFlight_81 : decode cX0_addFlight 81 = .ok (.iload_n 2, 1) := by decide +kernel
theorem dX0_addFlight_82 : decode cX0_addFlight 82 = .ok (.ireturn, 1) := by decide +kernel
set_option maxRecDepth 20000 in
theorem ggX0_board_X0_requireRider : GoodIn wsX0_board wsX0_requireRider := goodIn_ca (goodIn_r _ [6, 7, 8] (by decide +kernel) (by decide +kernel)) (goodIn_sub (fun _ h => List.mem_cons_of_mem _ (List.mem_append_right _ h)) (by decide +kernel))
set_option maxRecDepth 20000 in
theorem gX0_board_X0_requireRider : GoodIn wsX0_board (wsV RX0 73 RX0 yX0_requireRider wsX0_requireRider) := goodIn_app (goodIn_of _ (by decide +kernel)) ggX0_board_X0_requireRider
theorem dX0_board_0 : decode cX0_board 0 = .ok (.aload_n 0, 1) := by decide +kernel
theorem dX0_board_1 : decode cX0_board 1 = .ok (.iload_n 1, 1) := by decide +kernel
theorem dX0_board_2 : decode cX0_board 2 = .ok (.invokevirtual 73, 3) := by decide +kernel
theorem dX0_board_5 : decode cX0_board 5 = .ok (.aload_n 0, 1) := by decide +kernel
theorem dX0_board_6 : decode cX0_board 6 = .ok (.getfield 16, 3) := by decide +kernel
theorem dX0_board_9 : decode cX0_board 9 = .ok (.iload_n 1, 1) := by decide +kernel
theorem dX0_board_10 : decode cX0_board 10 = .ok (.baload, 1) := by decide +kernel
theorem dX0_board_11 : decode cX0_board 11 = .ok (.istore_n 3, 1) := by decide +kernel
theorem dX0_board_12 : decode cX0_board 12 = .ok (.aload_n 0, 1) := by decide +kernel
theorem dX0_board_13 : decode cX0_board 13 = .ok (.getfield 16, 3) := by decide +kernel
theorem dX0_board_16 : decode cX0_board 16 = .ok (.iload_n 1, 1) := by decide +kernel
theorem dX0_board_17 : decode cX0_board 17 = .ok (.iload_n 2, 1) := by decide +kernel
theorem dX0_board_18 : decode cX0_board 18 = .ok (.bastore, 1) := by decide +kernel
theorem dX0_board_19 : decode cX0_board 19 = .ok (.iload_n 3, 1) := by decide +kernel
theorem dX0_board_20 : decode cX0_board 20 = .ok (.ireturn, 1) := by decide +kernel
set_option maxRecDepth 20000 in
theorem ggX0_pass_X0_passOneMinute : GoodIn wsX0_pass wsX0_passOneMinute := goodIn_r _ [8, 9, 10, 11, 12, 7, 13, 14, 15, 16, 17, 18, 19, 20, 21, 22, 23, 24, 25, 26, 27, 28, 29, 30, 31, 32, 3, 33, 34, 35, 36, 37, 38, 39, 40, 41, 42, 43, 44, 45, 46, 47, 48, 49, 50, 51, 52, 53, 54, 55, 56, 57, 58, 59, 60, 61, 62, 63, 64, 65, 66, 67, 68, 69, 70, 71, 72, 73, 74, 75, 76, 77, 78, 79, 80, 81, 82, 83, 84, 85, 86, 87, 88, 89, 90, 91, 92, 93, 94, 95, 96, 97] (by decide +kernel) (by decide +kernel)
set_option maxRecDepth 20000 in
theorem gX0_pass_X0_passOneMinute : GoodIn wsX0_pass (wsV RX0 82 RX0 yX0_passOneMinute wsX0_passOneMinute) := goodIn_app (goodIn_of _ (by decide +kernel)) ggX0_pass_X0_passOneMinute
theorem dX0_pass_0 : decode cX0_pass 0 = .ok (.iload_n 1, 1) := by decide +kernel
theorem dX0_pass_1 : decode cX0_pass 1 = .ok (.iconst 1, 1) := by decide +kernel
theorem dX0_pass_2 : decode cX0_pass 2 = .ok (.if_icmp .lt 10, 3) := by decide +kernel
theorem dX0_pass_5 : decode cX0_pass 5 = .ok (.iload_n 1, 1) := by decide +kernel
theorem dX0_pass_6 : decode cX0_pass 6 = .ok (.sipush 200, 3) := by decide +kernel
theorem dX0_pass_9 : decode cX0_pass 9 = .ok (.if_icmp .le 13, 3) := by decide +kernel
theorem dX0_pass_12 : decode cX0_pass 12 = .ok (.new 50, 3) := by decide +kernel
theorem dX0_pass_15 : decode cX0_pass 15 = .ok (.dup, 1) := by decide +kernel
theorem dX0_pass_16 : decode cX0_pass 16 = .ok (.ldc 77, 2) := by decide +kernel
theorem dX0_pass_18 : decode cX0_pass 18 = .ok (.invokespecial 54, 3) := by decide +kernel
theorem dX0_pass_21 : decode cX0_pass 21 = .ok (.athrow, 1) := by decide +kernel
theorem dX0_pass_22 : decode cX0_pass 22 = .ok (.aload_n 0, 1) := by decide +kernel
theorem dX0_pass_23 : decode cX0_pass 23 = .ok (.getfield 79, 3) := by decide +kernel
theorem dX0_pass_26 : decode cX0_pass 26 = .ok (.istore_n 2, 1) := by decide +kernel
theorem dX0_pass_27 : decode cX0_pass 27 = .ok (.iconst 0, 1) := by decide +kernel
theorem dX0_pass_28 : decode cX0_pass 28 = .ok (.istore_n 3, 1) := by decide +kernel
theorem dX0_pass_29 : decode cX0_pass 29 = .ok (.iload_n 3, 1) := by decide +kernel
theorem dX0_pass_30 : decode cX0_pass 30 = .ok (.iload_n 1, 1) := by decide +kernel
theorem dX0_pass_31 : decode cX0_pass 31 = .ok (.if_icmp .ge 13, 3) := by decide +kernel
theorem dX0_pass_34 : decode cX0_pass 34 = .ok (.aload_n 0, 1) := by decide +kernel
theorem dX0_pass_35 : decode cX0_pass 35 = .ok (.invokevirtual 82, 3) := by decide +kernel
theorem dX0_pass_38 : decode cX0_pass 38 = .ok (.iinc 3 1, 3) := by decide +kernel
theorem dX0_pass_41 : decode cX0_pass 41 = .ok (.goto (-12), 3) := by decide +kernel
theorem dX0_pass_44 : decode cX0_pass 44 = .ok (.aload_n 0, 1) := by decide +kernel
theorem dX0_pass_45 : decode cX0_pass 45 = .ok (.getfield 79, 3) := by decide +kernel
theorem dX0_pass_48 : decode cX0_pass 48 = .ok (.iload_n 2, 1) := by decide +kernel
theorem dX0_pass_49 : decode cX0_pass 49 = .ok (.isub, 1) := by decide +kernel
theorem dX0_pass_50 : decode cX0_pass 50 = .ok (.ireturn, 1) := by decide +kernel
theorem dX0_time_0 : decode cX0_time 0 = .ok (.aload_n 0, 1) := by decide +kernel
theorem dX0_time_1 : decode cX0_time 1 = .ok (.getfield 66, 3) := by decide +kernel
theorem dX0_time_4 : decode cX0_time 4 = .ok (.ireturn, 1) := by decide +kernel
set_option maxRecDepth 20000 in
theorem ggX0_lateralOf_X0_requireFlight : GoodIn wsX0_lateralOf wsX0_requireFlight := goodIn_ca (goodIn_r _ [6, 7, 8, 9, 10, 11, 12, 13, 14, 15, 16, 17, 18, 19, 20, 21, 22, 23, 24, 25, 26] (by decide +kernel) (by decide +kernel)) (goodIn_sub (fun _ h => List.mem_cons_of_mem _ (List.mem_append_right _ h)) (by decide +kernel))
set_option maxRecDepth 20000 in
theorem gX0_lateralOf_X0_requireFlight : GoodIn wsX0_lateralOf (wsV RX0 85 RX0 yX0_requireFlight wsX0_requireFlight) := goodIn_app (goodIn_of _ (by decide +kernel)) ggX0_lateralOf_X0_requireFlight
theorem dX0_lateralOf_0 : decode cX0_lateralOf 0 = .ok (.aload_n 0, 1) := by decide +kernel
theorem dX0_lateralOf_1 : decode cX0_lateralOf 1 = .ok (.iload_n 1, 1) := by decide +kernel
theorem dX0_lateralOf_2 : decode cX0_lateralOf 2 = .ok (.invokevirtual 85, 3) := by decide +kernel
theorem dX0_lateralOf_5 : decode cX0_lateralOf 5 = .ok (.aload_n 0, 1) := by decide +kernel
theorem dX0_lateralOf_6 : decode cX0_lateralOf 6 = .ok (.getfield 13, 3) := by decide +kernel
theorem dX0_lateralOf_9 : decode cX0_lateralOf 9 = .ok (.iload_n 1, 1) := by decide +kernel
theorem dX0_lateralOf_10 : decode cX0_lateralOf 10 = .ok (.iaload, 1) := by decide +kernel
theorem dX0_lateralOf_11 : decode cX0_lateralOf 11 = .ok (.ireturn, 1) := by decide +kernel
set_option maxRecDepth 20000 in
theorem ggX0_checkIn_X0_takeIn : GoodIn wsX0_checkIn wsX0_takeIn := goodIn_ca (goodIn_ca (goodIn_r _ [5, 6, 7, 8, 9, 10, 11, 12, 13, 14, 4, 15, 16, 17, 18, 19, 20, 21, 22, 23, 24, 25, 26, 27, 28, 44, 45, 46, 47, 48, 49, 50, 51, 52, 53, 54, 55, 56, 57, 58, 59, 60] (by decide +kernel) (by decide +kernel)) (goodIn_sub (fun _ h => List.mem_cons_of_mem _ (List.mem_append_left _ (List.mem_append_right _ h))) (by decide +kernel))) (goodIn_sub (fun _ h => List.mem_cons_of_mem _ (List.mem_append_right _ h)) (by decide +kernel))
set_option maxRecDepth 20000 in
theorem gX0_checkIn_X0_takeIn : GoodIn wsX0_checkIn (wsV RX0 88 RX0 yX0_takeIn wsX0_takeIn) := goodIn_app (goodIn_of _ (by decide +kernel)) ggX0_checkIn_X0_takeIn
set_option maxRecDepth 20000 in
theorem ggX0_checkIn_X0_bring : GoodIn wsX0_checkIn wsX0_bring := goodIn_r _ [32, 33, 11, 34, 27, 35, 36, 37, 38, 39, 4, 40, 41, 42, 43, 44, 45, 46, 47, 48, 49, 50, 51, 52, 53, 54, 55, 56, 57, 58, 59, 60] (by decide +kernel) (by decide +kernel)
set_option maxRecDepth 20000 in
theorem gX0_checkIn_X0_bring : GoodIn wsX0_checkIn (wsV RX0 92 RX0 yX0_bring wsX0_bring) := goodIn_app (goodIn_of _ (by decide +kernel)) ggX0_checkIn_X0_bring
theorem dX0_checkIn_0 : decode cX0_checkIn 0 = .ok (.aload_n 0, 1) := by decide +kernel
theorem dX0_checkIn_1 : decode cX0_checkIn 1 = .ok (.iload_n 1, 1) := by decide +kernel
theorem dX0_checkIn_2 : decode cX0_checkIn 2 = .ok (.iload_n 2, 1) := by decide +kernel
theorem dX0_checkIn_3 : decode cX0_checkIn 3 = .ok (.invokevirtual 88, 3) := by decide +kernel
theorem dX0_checkIn_6 : decode cX0_checkIn 6 = .ok (.istore_n 3, 1) := by decide +kernel
theorem dX0_checkIn_7 : decode cX0_checkIn 7 = .ok (.aload_n 0, 1) := by decide +kernel
theorem dX0_checkIn_8 : decode cX0_checkIn 8 = .ok (.iload_n 3, 1) := by decide +kernel
theorem dX0_checkIn_9 : decode cX0_checkIn 9 = .ok (.iconst 1, 1) := by decide +kernel
theorem dX0_checkIn_10 : decode cX0_checkIn 10 = .ok (.invokevirtual 92, 3) := by decide +kernel
theorem dX0_checkIn_13 : decode cX0_checkIn 13 = .ok (.iload_n 3, 1) := by decide +kernel
theorem dX0_checkIn_14 : decode cX0_checkIn 14 = .ok (.ireturn, 1) := by decide +kernel
set_option maxRecDepth 20000 in
theorem ggX0_transfer_X0_takeIn : GoodIn wsX0_transfer wsX0_takeIn := goodIn_ca (goodIn_ca (goodIn_r _ [5, 6, 7, 8, 9, 10, 11, 12, 13, 14, 4, 15, 16, 17, 18, 19, 20, 21, 22, 23, 24, 25, 26, 27, 28, 65, 66, 67, 68, 69, 70, 71, 72, 73, 74, 75, 76, 77, 78, 79, 80, 81] (by decide +kernel) (by decide +kernel)) (goodIn_sub (fun _ h => List.mem_cons_of_mem _ (List.mem_append_left _ (List.mem_append_right _ h))) (by decide +kernel))) (goodIn_sub (fun _ h => List.mem_cons_of_mem _ (List.mem_append_right _ h)) (by decide +kernel))
set_option maxRecDepth 20000 in
theorem gX0_transfer_X0_takeIn : GoodIn wsX0_transfer (wsV RX0 88 RX0 yX0_takeIn wsX0_takeIn) := goodIn_app (goodIn_of _ (by decide +kernel)) ggX0_transfer_X0_takeIn
set_option maxRecDepth 20000 in
theorem ggX0_transfer_X0_route : GoodIn wsX0_transfer wsX0_route := goodIn_r _ [32, 9, 11, 33, 34, 35, 4, 36, 37, 38, 39, 40, 41, 42, 27, 43, 44, 45, 46, 28, 47, 48, 49, 50, 51, 52, 53, 54, 55, 56, 57, 58, 59, 60, 61, 62, 63, 64, 65, 66, 67, 68, 69, 70, 71, 72, 73, 74, 75, 76, 77, 78, 79, 80, 81] (by decide +kernel) (by decide +kernel)
set_option maxRecDepth 20000 in
theorem gX0_transfer_X0_route : GoodIn wsX0_transfer (wsV RX0 96 RX0 yX0_route wsX0_route) := goodIn_app (goodIn_of _ (by decide +kernel)) ggX0_transfer_X0_route
theorem dX0_transfer_0 : decode cX0_transfer 0 = .ok (.aload_n 0, 1) := by decide +kernel
theorem dX0_transfer_1 : decode cX0_transfer 1 = .ok (.iload_n 1, 1) := by decide +kernel
theorem dX0_transfer_2 : decode cX0_transfer 2 = .ok (.iload_n 2, 1) := by decide +kernel
theorem dX0_transfer_3 : decode cX0_transfer 3 = .ok (.invokevirtual 88, 3) := by decide +kernel
theorem dX0_transfer_6 : decode cX0_transfer 6 = .ok (.istore_n 3, 1) := by decide +kernel
theorem dX0_transfer_7 : decode cX0_transfer 7 = .ok (.aload_n 0, 1) := by decide +kernel
theorem dX0_transfer_8 : decode cX0_transfer 8 = .ok (.iload_n 3, 1) := by decide +kernel
theorem dX0_transfer_9 : decode cX0_transfer 9 = .ok (.invokevirtual 96, 3) := by decide +kernel
theorem dX0_transfer_12 : decode cX0_transfer 12 = .ok (.iload_n 3, 1) := by decide +kernel
theorem dX0_transfer_13 : decode cX0_transfer 13 = .ok (.ireturn, 1) := by decide +kernel
set_option maxRecDepth 20000 in
theorem ggX0_decide_X0_requireBag : GoodIn wsX0_decide wsX0_requireBag := goodIn_ca (goodIn_r _ [10, 11, 12, 13, 57, 58, 59, 60, 61, 62, 63, 64, 65, 66, 67, 68, 69, 70, 71, 72, 73] (by decide +kernel) (by decide +kernel)) (goodIn_sub (fun _ h => List.mem_cons_of_mem _ (List.mem_append_right _ h)) (by decide +kernel))
set_option maxRecDepth 20000 in
theorem gX0_decide_X0_requireBag : GoodIn wsX0_decide (wsV RX0 99 RX0 yX0_requireBag wsX0_requireBag) := goodIn_app (goodIn_of _ (by decide +kernel)) ggX0_decide_X0_requireBag
set_option maxRecDepth 20000 in
theorem ggX0_decide_X0_decisionTime : GoodIn wsX0_decide wsX0_decisionTime := goodIn_r _ [16] (by decide +kernel) (by decide +kernel)
set_option maxRecDepth 20000 in
theorem gX0_decide_X0_decisionTime : GoodIn wsX0_decide (va_wsS RX0 104 yX0_decisionTime wsX0_decisionTime) := goodIn_app (goodIn_of _ (by decide +kernel)) ggX0_decide_X0_decisionTime
set_option maxRecDepth 20000 in
theorem ggX0_decide_X0_route : GoodIn wsX0_decide wsX0_route := goodIn_r _ [20, 21, 3, 22, 23, 24, 9, 25, 26, 27, 28, 29, 30, 31, 4, 32, 33, 34, 35, 36, 37, 38, 39, 40, 41, 42, 43, 44, 5, 45, 46, 47, 48, 49, 50, 51, 52, 53, 57, 58, 59, 60, 61, 62, 63, 64, 65, 66, 67, 68, 69, 70, 71, 72, 73] (by decide +kernel) (by decide +kernel)
set_option maxRecDepth 20000 in
theorem gX0_decide_X0_route : GoodIn wsX0_decide (wsV RX0 96 RX0 yX0_route wsX0_route) := goodIn_app (goodIn_of _ (by decide +kernel)) ggX0_decide_X0_route
set_option maxRecDepth 20000 in
theorem ggX0_decide_X0_nextLevel : GoodIn wsX0_decide wsX0_nextLevel := goodIn_r _ [56] (by decide +kernel) (by decide +kernel)
set_option maxRecDepth 20000 in
theorem gX0_decide_X0_nextLevel : GoodIn wsX0_decide (va_wsS RX0 109 yX0_nextLevel wsX0_nextLevel) := goodIn_app (goodIn_of _ (by decide +kernel)) ggX0_decide_X0_nextLevel
set_option maxRecDepth 20000 in
theorem ggX0_decide_X0_bring : GoodIn wsX0_decide wsX0_bring := goodIn_r _ [44, 27, 3, 5, 4, 45, 46, 47, 48, 49, 9, 50, 51, 52, 53, 57, 58, 59, 60, 61, 62, 63, 64, 65, 66, 67, 68, 69, 70, 71, 72, 73] (by decide +kernel) (by decide +kernel)
set_option maxRecDepth 20000 in
theorem gX0_decide_X0_bring : GoodIn wsX0_decide (wsV RX0 92 RX0 yX0_bring wsX0_bring) := goodIn_app (goodIn_of _ (by decide +kernel)) ggX0_decide_X0_bring
theorem dX0_decide_0 : decode cX0_decide 0 = .ok (.aload_n 0, 1) := by decide +kernel
theorem dX0_decide_1 : decode cX0_decide 1 = .ok (.iload_n 1, 1) := by decide +kernel
theorem dX0_decide_2 : decode cX0_decide 2 = .ok (.invokevirtual 99, 3) := by decide +kernel
theorem dX0_decide_5 : decode cX0_decide 5 = .ok (.aload_n 0, 1) := by decide +kernel
theorem dX0_decide_6 : decode cX0_decide 6 = .ok (.getfield 29, 3) := by decide +kernel
theorem dX0_decide_9 : decode cX0_decide 9 = .ok (.iload_n 1, 1) := by decide +kernel
theorem dX0_decide_10 : decode cX0_decide 10 = .ok (.iaload, 1) := by decide +kernel
theorem dX0_decide_11 : decode cX0_decide 11 = .ok (.istore_n 3, 1) := by decide +kernel
theorem dX0_decide_12 : decode cX0_decide 12 = .ok (.iload_n 3, 1) := by decide +kernel
theorem dX0_decide_13 : decode cX0_decide 13 = .ok (.iconst 1, 1) := by decide +kernel
theorem dX0_decide_14 : decode cX0_decide 14 = .ok (.if_icmp .eq 23, 3) := by decide +kernel
theorem dX0_decide_17 : decode cX0_decide 17 = .ok (.iload_n 3, 1) := by decide +kernel
theorem dX0_decide_18 : decode cX0_decide 18 = .ok (.iconst 2, 1) := by decide +kernel
theorem dX0_decide_19 : decode cX0_decide 19 = .ok (.if_icmp .eq 18, 3) := by decide +kernel
theorem dX0_decide_22 : decode cX0_decide 22 = .ok (.iload_n 3, 1) := by decide +kernel
theorem dX0_decide_23 : decode cX0_decide 23 = .ok (.iconst 3, 1) := by decide +kernel
theorem dX0_decide_24 : decode cX0_decide 24 = .ok (.if_icmp .eq 13, 3) := by decide +kernel
theorem dX0_decide_27 : decode cX0_decide 27 = .ok (.new 61, 3) := by decide +kernel
theorem dX0_decide_30 : decode cX0_decide 30 = .ok (.dup, 1) := by decide +kernel
theorem dX0_decide_31 : decode cX0_decide 31 = .ok (.ldc 102, 2) := by decide +kernel
theorem dX0_decide_33 : decode cX0_decide 33 = .ok (.invokespecial 65, 3) := by decide +kernel
theorem dX0_decide_36 : decode cX0_decide 36 = .ok (.athrow, 1) := by decide +kernel
theorem dX0_decide_37 : decode cX0_decide 37 = .ok (.aload_n 0, 1) := by decide +kernel
theorem dX0_decide_38 : decode cX0_decide 38 = .ok (.getfield 66, 3) := by decide +kernel
theorem dX0_decide_41 : decode cX0_decide 41 = .ok (.aload_n 0, 1) := by decide +kernel
theorem dX0_decide_42 : decode cX0_decide 42 = .ok (.getfield 35, 3) := by decide +kernel
theorem dX0_decide_45 : decode cX0_decide 45 = .ok (.iload_n 1, 1) := by decide +kernel
theorem dX0_decide_46 : decode cX0_decide 46 = .ok (.iaload, 1) := by decide +kernel
theorem dX0_decide_47 : decode cX0_decide 47 = .ok (.isub, 1) := by decide +kernel
theorem dX0_decide_48 : decode cX0_decide 48 = .ok (.iload_n 3, 1) := by decide +kernel
theorem dX0_decide_49 : decode cX0_decide 49 = .ok (.invokestatic 104, 3) := by decide +kernel
theorem dX0_decide_52 : decode cX0_decide 52 = .ok (.if_icmp .ge 13, 3) := by decide +kernel
theorem dX0_decide_55 : decode cX0_decide 55 = .ok (.new 61, 3) := by decide +kernel
theorem dX0_decide_58 : decode cX0_decide 58 = .ok (.dup, 1) := by decide +kernel
theorem dX0_decide_59 : decode cX0_decide 59 = .ok (.ldc 107, 2) := by decide +kernel
theorem dX0_decide_61 : decode cX0_decide 61 = .ok (.invokespecial 65, 3) := by decide +kernel
theorem dX0_decide_64 : decode cX0_decide 64 = .ok (.athrow, 1) := by decide +kernel
theorem dX0_decide_65 : decode cX0_decide 65 = .ok (.iload_n 2, 1) := by decide +kernel
theorem dX0_decide_66 : decode cX0_decide 66 = .ok (.ifCond .eq 11, 3) := by decide +kernel
theorem dX0_decide_69 : decode cX0_decide 69 = .ok (.aload_n 0, 1) := by decide +kernel
theorem dX0_decide_70 : decode cX0_decide 70 = .ok (.iload_n 1, 1) := by decide +kernel
theorem dX0_decide_71 : decode cX0_decide 71 = .ok (.invokevirtual 96, 3) := by decide +kernel
theorem dX0_decide_74 : decode cX0_decide 74 = .ok (.goto 12, 3) := by decide +kernel
theorem dX0_decide_77 : decode cX0_decide 77 = .ok (.aload_n 0, 1) := by decide +kernel
theorem dX0_decide_78 : decode cX0_decide 78 = .ok (.iload_n 1, 1) := by decide +kernel
theorem dX0_decide_79 : decode cX0_decide 79 = .ok (.iload_n 3, 1) := by decide +kernel
theorem dX0_decide_80 : decode cX0_decide 80 = .ok (.invokestatic 109, 3) := by decide +kernel
theorem dX0_decide_83 : decode cX0_decide 83 = .ok (.invokevirtual 92, 3) := by decide +kernel
theorem dX0_decide_86 : decode cX0_decide 86 = .ok (.aload_n 0, 1) := by decide +kernel
theorem dX0_decide_87 : decode cX0_decide 87 = .ok (.getfield 29, 3) := by decide +kernel
theorem dX0_decide_90 : decode cX0_decide 90 = .ok (.iload_n 1, 1) := by decide +kernel
theorem dX0_decide_91 : decode cX0_decide 91 = .ok (.iaload, 1) := by decide +kernel
theorem dX0_decide_92 : decode cX0_decide 92 = .ok (.ireturn, 1) := by decide +kernel
set_option maxRecDepth 20000 in
theorem ggX0_letGo_X0_requireBag : GoodIn wsX0_letGo wsX0_requireBag := goodIn_ca (goodIn_r _ [6, 7, 8, 9, 55, 56, 57, 58, 59, 60, 61, 62, 63, 64, 65, 66, 67, 68, 69, 70, 71] (by decide +kernel) (by decide +kernel)) (goodIn_sub (fun _ h => List.mem_cons_of_mem _ (List.mem_append_left _ (List.mem_append_right _ h))) (by decide +kernel))
set_option maxRecDepth 20000 in
theorem gX0_letGo_X0_requireBag : GoodIn wsX0_letGo (wsV RX0 99 RX0 yX0_requireBag wsX0_requireBag) := goodIn_app (goodIn_of _ (by decide +kernel)) ggX0_letGo_X0_requireBag
set_option maxRecDepth 20000 in
theorem ggX0_letGo_X0_requirePlace : GoodIn wsX0_letGo wsX0_requirePlace := goodIn_ca (goodIn_r _ [13, 14, 15, 1, 55, 56, 57, 58, 59, 60, 61, 62, 63, 64, 65, 66, 67, 68, 69, 70, 71] (by decide +kernel) (by decide +kernel)) (goodIn_sub (fun _ h => List.mem_cons_of_mem _ (List.mem_append_right _ h)) (by decide +kernel))
set_option maxRecDepth 20000 in
theorem gX0_letGo_X0_requirePlace : GoodIn wsX0_letGo (wsV RX0 112 RX0 yX0_requirePlace wsX0_requirePlace) := goodIn_app (goodIn_of _ (by decide +kernel)) ggX0_letGo_X0_requirePlace
set_option maxRecDepth 20000 in
theorem ggX0_letGo_X0_route : GoodIn wsX0_letGo wsX0_route := goodIn_r _ [19, 20, 1, 21, 22, 23, 5, 24, 25, 26, 27, 28, 29, 30, 31, 32, 33, 34, 35, 36, 37, 38, 39, 40, 41, 42, 43, 44, 45, 46, 47, 48, 49, 50, 51, 52, 53, 54, 55, 56, 57, 58, 59, 60, 61, 62, 63, 64, 65, 66, 67, 68, 69, 70, 71] (by decide +kernel) (by decide +kernel)
set_option maxRecDepth 20000 in
theorem gX0_letGo_X0_route : GoodIn wsX0_letGo (wsV RX0 96 RX0 yX0_route wsX0_route) := goodIn_app (goodIn_of _ (by decide +kernel)) ggX0_letGo_X0_route
theorem dX0_letGo_0 : decode cX0_letGo 0 = .ok (.aload_n 0, 1) := by decide +kernel
theorem dX0_letGo_1 : decode cX0_letGo 1 = .ok (.iload_n 1, 1) := by decide +kernel
theorem dX0_letGo_2 : decode cX0_letGo 2 = .ok (.invokevirtual 99, 3) := by decide +kernel
theorem dX0_letGo_5 : decode cX0_letGo 5 = .ok (.aload_n 0, 1) := by decide +kernel
theorem dX0_letGo_6 : decode cX0_letGo 6 = .ok (.iload_n 1, 1) := by decide +kernel
theorem dX0_letGo_7 : decode cX0_letGo 7 = .ok (.iconst 4, 1) := by decide +kernel
theorem dX0_letGo_8 : decode cX0_letGo 8 = .ok (.invokevirtual 112, 3) := by decide +kernel
theorem dX0_letGo_11 : decode cX0_letGo 11 = .ok (.aload_n 0, 1) := by decide +kernel
theorem dX0_letGo_12 : decode cX0_letGo 12 = .ok (.iload_n 1, 1) := by decide +kernel
theorem dX0_letGo_13 : decode cX0_letGo 13 = .ok (.invokevirtual 96, 3) := by decide +kernel
theorem dX0_letGo_16 : decode cX0_letGo 16 = .ok (.aload_n 0, 1) := by decide +kernel
theorem dX0_letGo_17 : decode cX0_letGo 17 = .ok (.getfield 29, 3) := by decide +kernel
theorem dX0_letGo_20 : decode cX0_letGo 20 = .ok (.iload_n 1, 1) := by decide +kernel
theorem dX0_letGo_21 : decode cX0_letGo 21 = .ok (.iaload, 1) := by decide +kernel
theorem dX0_letGo_22 : decode cX0_letGo 22 = .ok (.ireturn, 1) := by decide +kernel
set_option maxRecDepth 20000 in
theorem ggX0_load_X0_requireBag : GoodIn wsX0_load wsX0_requireBag := goodIn_ca (goodIn_r _ [6, 7, 8, 9, 41, 42, 43, 44, 45, 46, 47, 48, 49, 50, 51, 52, 53, 54, 55, 56, 57] (by decide +kernel) (by decide +kernel)) (goodIn_sub (fun _ h => List.mem_cons_of_mem _ (List.mem_append_left _ (List.mem_append_right _ h))) (by decide +kernel))
set_option maxRecDepth 20000 in
theorem gX0_load_X0_requireBag : GoodIn wsX0_load (wsV RX0 99 RX0 yX0_requireBag wsX0_requireBag) := goodIn_app (goodIn_of _ (by decide +kernel)) ggX0_load_X0_requireBag
set_option maxRecDepth 20000 in
theorem ggX0_load_X0_requirePlace : GoodIn wsX0_load wsX0_requirePlace := goodIn_ca (goodIn_r _ [13, 14, 15, 16, 41, 42, 43, 44, 45, 46, 47, 48, 49, 50, 51, 52, 53, 54, 55, 56, 57] (by decide +kernel) (by decide +kernel)) (goodIn_sub (fun _ h => List.mem_cons_of_mem _ (List.mem_append_right _ h)) (by decide +kernel))
set_option maxRecDepth 20000 in
theorem gX0_load_X0_requirePlace : GoodIn wsX0_load (wsV RX0 112 RX0 yX0_requirePlace wsX0_requirePlace) := goodIn_app (goodIn_of _ (by decide +kernel)) ggX0_load_X0_requirePlace
set_option maxRecDepth 20000 in
theorem ggX0_load_X0_bring : GoodIn wsX0_load wsX0_bring := goodIn_r _ [20, 21, 16, 22, 23, 24, 25, 26, 27, 28, 5, 29, 30, 31, 32, 41, 42, 43, 44, 45, 46, 47, 48, 49, 50, 51, 52, 53, 54, 55, 56, 57] (by decide +kernel) (by decide +kernel)
set_option maxRecDepth 20000 in
theorem gX0_load_X0_bring : GoodIn wsX0_load (wsV RX0 92 RX0 yX0_bring wsX0_bring) := goodIn_app (goodIn_of _ (by decide +kernel)) ggX0_load_X0_bring
set_option maxRecDepth 20000 in
theorem ggX0_load_X0_loadedBags : GoodIn wsX0_load wsX0_loadedBags := goodIn_r _ [36, 9, 37, 38, 39, 5, 40, 16, 1, 41, 42, 43, 44, 45, 46, 47, 48, 49, 50, 51, 52, 53, 54, 55, 56, 57] (by decide +kernel) (by decide +kernel)
set_option maxRecDepth 20000 in
theorem gX0_load_X0_loadedBags : GoodIn wsX0_load (wsV RX0 115 RX0 yX0_loadedBags wsX0_loadedBags) := goodIn_app (goodIn_of _ (by decide +kernel)) ggX0_load_X0_loadedBags
theorem dX0_load_0 : decode cX0_load 0 = .ok (.aload_n 0, 1) := by decide +kernel
theorem dX0_load_1 : decode cX0_load 1 = .ok (.iload_n 1, 1) := by decide +kernel
theorem dX0_load_2 : decode cX0_load 2 = .ok (.invokevirtual 99, 3) := by decide +kernel
theorem dX0_load_5 : decode cX0_load 5 = .ok (.aload_n 0, 1) := by decide +kernel
theorem dX0_load_6 : decode cX0_load 6 = .ok (.iload_n 1, 1) := by decide +kernel
theorem dX0_load_7 : decode cX0_load 7 = .ok (.bipush 7, 2) := by decide +kernel
theorem dX0_load_9 : decode cX0_load 9 = .ok (.invokevirtual 112, 3) := by decide +kernel
theorem dX0_load_12 : decode cX0_load 12 = .ok (.aload_n 0, 1) := by decide +kernel
theorem dX0_load_13 : decode cX0_load 13 = .ok (.iload_n 1, 1) := by decide +kernel
theorem dX0_load_14 : decode cX0_load 14 = .ok (.bipush 8, 2) := by decide +kernel
theorem dX0_load_16 : decode cX0_load 16 = .ok (.invokevirtual 92, 3) := by decide +kernel
theorem dX0_load_19 : decode cX0_load 19 = .ok (.aload_n 0, 1) := by decide +kernel
theorem dX0_load_20 : decode cX0_load 20 = .ok (.aload_n 0, 1) := by decide +kernel
theorem dX0_load_21 : decode cX0_load 21 = .ok (.getfield 20, 3) := by decide +kernel
theorem dX0_load_24 : decode cX0_load 24 = .ok (.iload_n 1, 1) := by decide +kernel
theorem dX0_load_25 : decode cX0_load 25 = .ok (.iaload, 1) := by decide +kernel
theorem dX0_load_26 : decode cX0_load 26 = .ok (.invokevirtual 115, 3) := by decide +kernel
theorem dX0_load_29 : decode cX0_load 29 = .ok (.ireturn, 1) := by decide +kernel
set_option maxRecDepth 20000 in
theorem ggX0_offload_X0_requireBag : GoodIn wsX0_offload wsX0_requireBag := goodIn_ca (goodIn_r _ [6, 7, 8, 9, 41, 42, 43, 44, 45, 46, 47, 48, 49, 50, 51, 52, 53, 54, 55, 56, 57] (by decide +kernel) (by decide +kernel)) (goodIn_sub (fun _ h => List.mem_cons_of_mem _ (List.mem_append_left _ (List.mem_append_right _ h))) (by decide +kernel))
set_option maxRecDepth 20000 in
theorem gX0_offload_X0_requireBag : GoodIn wsX0_offload (wsV RX0 99 RX0 yX0_requireBag wsX0_requireBag) := goodIn_app (goodIn_of _ (by decide +kernel)) ggX0_offload_X0_requireBag
set_option maxRecDepth 20000 in
theorem ggX0_offload_X0_requirePlace : GoodIn wsX0_offload wsX0_requirePlace := goodIn_ca (goodIn_r _ [13, 14, 15, 16, 41, 42, 43, 44, 45, 46, 47, 48, 49, 50, 51, 52, 53, 54, 55, 56, 57] (by decide +kernel) (by decide +kernel)) (goodIn_sub (fun _ h => List.mem_cons_of_mem _ (List.mem_append_right _ h)) (by decide +kernel))
set_option maxRecDepth 20000 in
theorem gX0_offload_X0_requirePlace : GoodIn wsX0_offload (wsV RX0 112 RX0 yX0_requirePlace wsX0_requirePlace) := goodIn_app (goodIn_of _ (by decide +kernel)) ggX0_offload_X0_requirePlace
set_option maxRecDepth 20000 in
theorem ggX0_offload_X0_bring : GoodIn wsX0_offload wsX0_bring := goodIn_r _ [20, 21, 16, 22, 23, 24, 25, 26, 27, 28, 5, 29, 30, 31, 32, 41, 42, 43, 44, 45, 46, 47, 48, 49, 50, 51, 52, 53, 54, 55, 56, 57] (by decide +kernel) (by decide +kernel)
set_option maxRecDepth 20000 in
theorem gX0_offload_X0_bring : GoodIn wsX0_offload (wsV RX0 92 RX0 yX0_bring wsX0_bring) := goodIn_app (goodIn_of _ (by decide +kernel)) ggX0_offload_X0_bring
set_option maxRecDepth 20000 in
theorem ggX0_offload_X0_loadedBags : GoodIn wsX0_offload wsX0_loadedBags := goodIn_r _ [36, 9, 37, 38, 39, 5, 40, 16, 1, 41, 42, 43, 44, 45, 46, 47, 48, 49, 50, 51, 52, 53, 54, 55, 56, 57] (by decide +kernel) (by decide +kernel)
set_option maxRecDepth 20000 in
theorem gX0_offload_X0_loadedBags : GoodIn wsX0_offload (wsV RX0 115 RX0 yX0_loadedBags wsX0_loadedBags) := goodIn_app (goodIn_of _ (by decide +kernel)) ggX0_offload_X0_loadedBags
theorem dX0_offload_0 : decode cX0_offload 0 = .ok (.aload_n 0, 1) := by decide +kernel
theorem dX0_offload_1 : decode cX0_offload 1 = .ok (.iload_n 1, 1) := by decide +kernel
theorem dX0_offload_2 : decode cX0_offload 2 = .ok (.invokevirtual 99, 3) := by decide +kernel
theorem dX0_offload_5 : decode cX0_offload 5 = .ok (.aload_n 0, 1) := by decide +kernel
theorem dX0_offload_6 : decode cX0_offload 6 = .ok (.iload_n 1, 1) := by decide +kernel
theorem dX0_offload_7 : decode cX0_offload 7 = .ok (.bipush 8, 2) := by decide +kernel
theorem dX0_offload_9 : decode cX0_offload 9 = .ok (.invokevirtual 112, 3) := by decide +kernel
theorem dX0_offload_12 : decode cX0_offload 12 = .ok (.aload_n 0, 1) := by decide +kernel
theorem dX0_offload_13 : decode cX0_offload 13 = .ok (.iload_n 1, 1) := by decide +kernel
theorem dX0_offload_14 : decode cX0_offload 14 = .ok (.bipush 10, 2) := by decide +kernel
theorem dX0_offload_16 : decode cX0_offload 16 = .ok (.invokevirtual 92, 3) := by decide +kernel
theorem dX0_offload_19 : decode cX0_offload 19 = .ok (.aload_n 0, 1) := by decide +kernel
theorem dX0_offload_20 : decode cX0_offload 20 = .ok (.aload_n 0, 1) := by decide +kernel
theorem dX0_offload_21 : decode cX0_offload 21 = .ok (.getfield 20, 3) := by decide +kernel
theorem dX0_offload_24 : decode cX0_offload 24 = .ok (.iload_n 1, 1) := by decide +kernel
theorem dX0_offload_25 : decode cX0_offload 25 = .ok (.iaload, 1) := by decide +kernel
theorem dX0_offload_26 : decode cX0_offload 26 = .ok (.invokevirtual 115, 3) := by decide +kernel
theorem dX0_offload_29 : decode cX0_offload 29 = .ok (.ireturn, 1) := by decide +kernel
set_option maxRecDepth 20000 in
theorem ggX0_sendOn_X0_requireBag : GoodIn wsX0_sendOn wsX0_requireBag := goodIn_ca (goodIn_r _ [10, 11, 12, 13, 61, 62, 63, 64, 65, 66, 67, 68, 69, 70, 71, 72, 73, 74, 75, 76, 77] (by decide +kernel) (by decide +kernel)) (goodIn_sub (fun _ h => List.mem_cons_of_mem _ (List.mem_append_right _ h)) (by decide +kernel))
set_option maxRecDepth 20000 in
theorem gX0_sendOn_X0_requireBag : GoodIn wsX0_sendOn (wsV RX0 99 RX0 yX0_requireBag wsX0_requireBag) := goodIn_app (goodIn_of _ (by decide +kernel)) ggX0_sendOn_X0_requireBag
set_option maxRecDepth 20000 in
theorem ggX0_sendOn_X0_requireFlight : GoodIn wsX0_sendOn wsX0_requireFlight := goodIn_ca (goodIn_r _ [17, 11, 12, 18, 61, 62, 63, 64, 65, 66, 67, 68, 69, 70, 71, 72, 73, 74, 75, 76, 77] (by decide +kernel) (by decide +kernel)) (goodIn_sub (fun _ h => List.mem_cons_of_mem _ (List.mem_append_right _ h)) (by decide +kernel))
set_option maxRecDepth 20000 in
theorem gX0_sendOn_X0_requireFlight : GoodIn wsX0_sendOn (wsV RX0 85 RX0 yX0_requireFlight wsX0_requireFlight) := goodIn_app (goodIn_of _ (by decide +kernel)) ggX0_sendOn_X0_requireFlight
set_option maxRecDepth 20000 in
theorem ggX0_sendOn_X0_requireNotDeparted : GoodIn wsX0_sendOn wsX0_requireNotDeparted := goodIn_ca (goodIn_r _ [22, 1, 2, 23, 24, 61, 62, 63, 64, 65, 66, 67, 68, 69, 70, 71, 72, 73, 74, 75, 76, 77] (by decide +kernel) (by decide +kernel)) (goodIn_sub (fun _ h => List.mem_cons_of_mem _ (List.mem_append_left _ (List.mem_append_right _ h))) (by decide +kernel))
set_option maxRecDepth 20000 in
theorem gX0_sendOn_X0_requireNotDeparted : GoodIn wsX0_sendOn (wsV RX0 120 RX0 yX0_requireNotDeparted wsX0_requireNotDeparted) := goodIn_app (goodIn_of _ (by decide +kernel)) ggX0_sendOn_X0_requireNotDeparted
set_option maxRecDepth 20000 in
theorem ggX0_sendOn_X0_route : GoodIn wsX0_sendOn wsX0_route := goodIn_r _ [28, 4, 3, 29, 30, 31, 9, 32, 33, 34, 35, 36, 37, 38, 23, 39, 40, 41, 42, 24, 43, 44, 45, 46, 47, 48, 49, 50, 51, 52, 53, 54, 55, 56, 57, 58, 59, 60, 61, 62, 63, 64, 65, 66, 67, 68, 69, 70, 71, 72, 73, 74, 75, 76, 77] (by decide +kernel) (by decide +kernel)
set_option maxRecDepth 20000 in
theorem gX0_sendOn_X0_route : GoodIn wsX0_sendOn (wsV RX0 96 RX0 yX0_route wsX0_route) := goodIn_app (goodIn_of _ (by decide +kernel)) ggX0_sendOn_X0_route
theorem dX0_sendOn_0 : decode cX0_sendOn 0 = .ok (.aload_n 0, 1) := by decide +kernel
theorem dX0_sendOn_1 : decode cX0_sendOn 1 = .ok (.iload_n 1, 1) := by decide +kernel
theorem dX0_sendOn_2 : decode cX0_sendOn 2 = .ok (.invokevirtual 99, 3) := by decide +kernel
theorem dX0_sendOn_5 : decode cX0_sendOn 5 = .ok (.aload_n 0, 1) := by decide +kernel
theorem dX0_sendOn_6 : decode cX0_sendOn 6 = .ok (.iload_n 2, 1) := by decide +kernel
theorem dX0_sendOn_7 : decode cX0_sendOn 7 = .ok (.invokevirtual 85, 3) := by decide +kernel
theorem dX0_sendOn_10 : decode cX0_sendOn 10 = .ok (.aload_n 0, 1) := by decide +kernel
theorem dX0_sendOn_11 : decode cX0_sendOn 11 = .ok (.getfield 29, 3) := by decide +kernel
theorem dX0_sendOn_14 : decode cX0_sendOn 14 = .ok (.iload_n 1, 1) := by decide +kernel
theorem dX0_sendOn_15 : decode cX0_sendOn 15 = .ok (.iaload, 1) := by decide +kernel
theorem dX0_sendOn_16 : decode cX0_sendOn 16 = .ok (.bipush 10, 2) := by decide +kernel
theorem dX0_sendOn_18 : decode cX0_sendOn 18 = .ok (.if_icmp .eq 24, 3) := by decide +kernel
theorem dX0_sendOn_21 : decode cX0_sendOn 21 = .ok (.aload_n 0, 1) := by decide +kernel
theorem dX0_sendOn_22 : decode cX0_sendOn 22 = .ok (.getfield 29, 3) := by decide +kernel
theorem dX0_sendOn_25 : decode cX0_sendOn 25 = .ok (.iload_n 1, 1) := by decide +kernel
theorem dX0_sendOn_26 : decode cX0_sendOn 26 = .ok (.iaload, 1) := by decide +kernel
theorem dX0_sendOn_27 : decode cX0_sendOn 27 = .ok (.bipush 11, 2) := by decide +kernel
theorem dX0_sendOn_29 : decode cX0_sendOn 29 = .ok (.if_icmp .eq 13, 3) := by decide +kernel
theorem dX0_sendOn_32 : decode cX0_sendOn 32 = .ok (.new 61, 3) := by decide +kernel
theorem dX0_sendOn_35 : decode cX0_sendOn 35 = .ok (.dup, 1) := by decide +kernel
theorem dX0_sendOn_36 : decode cX0_sendOn 36 = .ok (.ldc 118, 2) := by decide +kernel
theorem dX0_sendOn_38 : decode cX0_sendOn 38 = .ok (.invokespecial 65, 3) := by decide +kernel
theorem dX0_sendOn_41 : decode cX0_sendOn 41 = .ok (.athrow, 1) := by decide +kernel
theorem dX0_sendOn_42 : decode cX0_sendOn 42 = .ok (.aload_n 0, 1) := by decide +kernel
theorem dX0_sendOn_43 : decode cX0_sendOn 43 = .ok (.iload_n 2, 1) := by decide +kernel
theorem dX0_sendOn_44 : decode cX0_sendOn 44 = .ok (.invokevirtual 120, 3) := by decide +kernel
theorem dX0_sendOn_47 : decode cX0_sendOn 47 = .ok (.aload_n 0, 1) := by decide +kernel
theorem dX0_sendOn_48 : decode cX0_sendOn 48 = .ok (.getfield 20, 3) := by decide +kernel
theorem dX0_sendOn_51 : decode cX0_sendOn 51 = .ok (.iload_n 1, 1) := by decide +kernel
theorem dX0_sendOn_52 : decode cX0_sendOn 52 = .ok (.iload_n 2, 1) := by decide +kernel
theorem dX0_sendOn_53 : decode cX0_sendOn 53 = .ok (.iastore, 1) := by decide +kernel
theorem dX0_sendOn_54 : decode cX0_sendOn 54 = .ok (.aload_n 0, 1) := by decide +kernel
theorem dX0_sendOn_55 : decode cX0_sendOn 55 = .ok (.getfield 26, 3) := by decide +kernel
theorem dX0_sendOn_58 : decode cX0_sendOn 58 = .ok (.iload_n 1, 1) := by decide +kernel
theorem dX0_sendOn_59 : decode cX0_sendOn 59 = .ok (.iconst 1, 1) := by decide +kernel
theorem dX0_sendOn_60 : decode cX0_sendOn 60 = .ok (.bastore, 1) := by decide +kernel
theorem dX0_sendOn_61 : decode cX0_sendOn 61 = .ok (.aload_n 0, 1) := by decide +kernel
theorem dX0_sendOn_62 : decode cX0_sendOn 62 = .ok (.iload_n 1, 1) := by decide +kernel
theorem dX0_sendOn_63 : decode cX0_sendOn 63 = .ok (.invokevirtual 96, 3) := by decide +kernel
theorem dX0_sendOn_66 : decode cX0_sendOn 66 = .ok (.aload_n 0, 1) := by decide +kernel
theorem dX0_sendOn_67 : decode cX0_sendOn 67 = .ok (.getfield 29, 3) := by decide +kernel
theorem dX0_sendOn_70 : decode cX0_sendOn 70 = .ok (.iload_n 1, 1) := by decide +kernel
theorem dX0_sendOn_71 : decode cX0_sendOn 71 = .ok (.iaload, 1) := by decide +kernel
theorem dX0_sendOn_72 : decode cX0_sendOn 72 = .ok (.ireturn, 1) := by decide +kernel
theorem dX0_bags_0 : decode cX0_bags 0 = .ok (.aload_n 0, 1) := by decide +kernel
theorem dX0_bags_1 : decode cX0_bags 1 = .ok (.getfield 123, 3) := by decide +kernel
theorem dX0_bags_4 : decode cX0_bags 4 = .ok (.ireturn, 1) := by decide +kernel
set_option maxRecDepth 20000 in
theorem ggX0_placeOf_X0_requireBag : GoodIn wsX0_placeOf wsX0_requireBag := goodIn_ca (goodIn_r _ [6, 7, 8, 9, 10, 11, 12, 13, 14, 15, 16, 17, 18, 19, 20, 21, 22, 23, 24, 25, 26] (by decide +kernel) (by decide +kernel)) (goodIn_sub (fun _ h => List.mem_cons_of_mem _ (List.mem_append_right _ h)) (by decide +kernel))
set_option maxRecDepth 20000 in
theorem gX0_placeOf_X0_requireBag : GoodIn wsX0_placeOf (wsV RX0 99 RX0 yX0_requireBag wsX0_requireBag) := goodIn_app (goodIn_of _ (by decide +kernel)) ggX0_placeOf_X0_requireBag
theorem dX0_placeOf_0 : decode cX0_placeOf 0 = .ok (.aload_n 0, 1) := by decide +kernel
theorem dX0_placeOf_1 : decode cX0_placeOf 1 = .ok (.iload_n 1, 1) := by decide +kernel
theorem dX0_placeOf_2 : decode cX0_placeOf 2 = .ok (.invokevirtual 99, 3) := by decide +kernel
theorem dX0_placeOf_5 : decode cX0_placeOf 5 = .ok (.aload_n 0, 1) := by decide +kernel
theorem dX0_placeOf_6 : decode cX0_placeOf 6 = .ok (.getfield 29, 3) := by decide +kernel
theorem dX0_placeOf_9 : decode cX0_placeOf 9 = .ok (.iload_n 1, 1) := by decide +kernel
theorem dX0_placeOf_10 : decode cX0_placeOf 10 = .ok (.iaload, 1) := by decide +kernel
theorem dX0_placeOf_11 : decode cX0_placeOf 11 = .ok (.ireturn, 1) := by decide +kernel
set_option maxRecDepth 20000 in
theorem ggX0_placeByScans_X0_requireBag : GoodIn wsX0_placeByScans wsX0_requireBag := goodIn_ca (goodIn_r _ [12, 13, 14, 15, 16, 17, 18, 19, 20, 21, 22, 23, 24, 25, 26, 27, 28, 29, 30, 31, 32] (by decide +kernel) (by decide +kernel)) (goodIn_sub (fun _ h => List.mem_cons_of_mem _ (List.mem_append_right _ h)) (by decide +kernel))
set_option maxRecDepth 20000 in
theorem gX0_placeByScans_X0_requireBag : GoodIn wsX0_placeByScans (wsV RX0 99 RX0 yX0_requireBag wsX0_requireBag) := goodIn_app (goodIn_of _ (by decide +kernel)) ggX0_placeByScans_X0_requireBag
theorem dX0_placeByScans_0 : decode cX0_placeByScans 0 = .ok (.aload_n 0, 1) := by decide +kernel
theorem dX0_placeByScans_1 : decode cX0_placeByScans 1 = .ok (.iload_n 1, 1) := by decide +kernel
theorem dX0_placeByScans_2 : decode cX0_placeByScans 2 = .ok (.invokevirtual 99, 3) := by decide +kernel
theorem dX0_placeByScans_5 : decode cX0_placeByScans 5 = .ok (.iload_n 2, 1) := by decide +kernel
theorem dX0_placeByScans_6 : decode cX0_placeByScans 6 = .ok (.ifCond .lt 11, 3) := by decide +kernel
theorem dX0_placeByScans_9 : decode cX0_placeByScans 9 = .ok (.iload_n 2, 1) := by decide +kernel
theorem dX0_placeByScans_10 : decode cX0_placeByScans 10 = .ok (.aload_n 0, 1) := by decide +kernel
theorem dX0_placeByScans_11 : decode cX0_placeByScans 11 = .ok (.getfield 66, 3) := by decide +kernel
theorem dX0_placeByScans_14 : decode cX0_placeByScans 14 = .ok (.if_icmp .le 13, 3) := by decide +kernel
theorem dX0_placeByScans_17 : decode cX0_placeByScans 17 = .ok (.new 50, 3) := by decide +kernel
theorem dX0_placeByScans_20 : decode cX0_placeByScans 20 = .ok (.dup, 1) := by decide +kernel
theorem dX0_placeByScans_21 : decode cX0_placeByScans 21 = .ok (.ldc 126, 2) := by decide +kernel
theorem dX0_placeByScans_23 : decode cX0_placeByScans 23 = .ok (.invokespecial 54, 3) := by decide +kernel
theorem dX0_placeByScans_26 : decode cX0_placeByScans 26 = .ok (.athrow, 1) := by decide +kernel
theorem dX0_placeByScans_27 : decode cX0_placeByScans 27 = .ok (.aload_n 0, 1) := by decide +kernel
theorem dX0_placeByScans_28 : decode cX0_placeByScans 28 = .ok (.getfield 79, 3) := by decide +kernel
theorem dX0_placeByScans_31 : decode cX0_placeByScans 31 = .ok (.iconst 1, 1) := by decide +kernel
theorem dX0_placeByScans_32 : decode cX0_placeByScans 32 = .ok (.isub, 1) := by decide +kernel
theorem dX0_placeByScans_33 : decode cX0_placeByScans 33 = .ok (.istore_n 3, 1) := by decide +kernel
theorem dX0_placeByScans_34 : decode cX0_placeByScans 34 = .ok (.iload_n 3, 1) := by decide +kernel
theorem dX0_placeByScans_35 : decode cX0_placeByScans 35 = .ok (.ifCond .lt 36, 3) := by decide +kernel
theorem dX0_placeByScans_38 : decode cX0_placeByScans 38 = .ok (.aload_n 0, 1) := by decide +kernel
theorem dX0_placeByScans_39 : decode cX0_placeByScans 39 = .ok (.getfield 41, 3) := by decide +kernel
theorem dX0_placeByScans_42 : decode cX0_placeByScans 42 = .ok (.iload_n 3, 1) := by decide +kernel
theorem dX0_placeByScans_43 : decode cX0_placeByScans 43 = .ok (.iaload, 1) := by decide +kernel
theorem dX0_placeByScans_44 : decode cX0_placeByScans 44 = .ok (.iload_n 1, 1) := by decide +kernel
theorem dX0_placeByScans_45 : decode cX0_placeByScans 45 = .ok (.if_icmp .ne 20, 3) := by decide +kernel
theorem dX0_placeByScans_48 : decode cX0_placeByScans 48 = .ok (.aload_n 0, 1) := by decide +kernel
theorem dX0_placeByScans_49 : decode cX0_placeByScans 49 = .ok (.getfield 47, 3) := by decide +kernel
theorem dX0_placeByScans_52 : decode cX0_placeByScans 52 = .ok (.iload_n 3, 1) := by decide +kernel
theorem dX0_placeByScans_53 : decode cX0_placeByScans 53 = .ok (.iaload, 1) := by decide +kernel
theorem dX0_placeByScans_54 : decode cX0_placeByScans 54 = .ok (.iload_n 2, 1) := by decide +kernel
theorem dX0_placeByScans_55 : decode cX0_placeByScans 55 = .ok (.if_icmp .gt 10, 3) := by decide +kernel
theorem dX0_placeByScans_58 : decode cX0_placeByScans 58 = .ok (.aload_n 0, 1) := by decide +kernel
theorem dX0_placeByScans_59 : decode cX0_placeByScans 59 = .ok (.getfield 44, 3) := by decide +kernel
theorem dX0_placeByScans_62 : decode cX0_placeByScans 62 = .ok (.iload_n 3, 1) := by decide +kernel
theorem dX0_placeByScans_63 : decode cX0_placeByScans 63 = .ok (.iaload, 1) := by decide +kernel
theorem dX0_placeByScans_64 : decode cX0_placeByScans 64 = .ok (.ireturn, 1) := by decide +kernel
theorem dX0_placeByScans_65 : decode cX0_placeByScans 65 = .ok (.iinc 3 (-1), 3) := by decide +kernel
theorem dX0_placeByScans_68 : decode cX0_placeByScans 68 = .ok (.goto (-34), 3) := by decide +kernel
theorem dX0_placeByScans_71 : decode cX0_placeByScans 71 = .ok (.iconst (-1), 1) := by decide +kernel
theorem dX0_placeByScans_72 : decode cX0_placeByScans 72 = .ok (.ireturn, 1) := by decide +kernel
set_option maxRecDepth 20000 in
theorem ggX0_flightOf_X0_requireBag : GoodIn wsX0_flightOf wsX0_requireBag := goodIn_ca (goodIn_r _ [6, 7, 8, 9, 10, 11, 12, 13, 14, 15, 16, 17, 18, 19, 20, 21, 22, 23, 24, 25, 26] (by decide +kernel) (by decide +kernel)) (goodIn_sub (fun _ h => List.mem_cons_of_mem _ (List.mem_append_right _ h)) (by decide +kernel))
set_option maxRecDepth 20000 in
theorem gX0_flightOf_X0_requireBag : GoodIn wsX0_flightOf (wsV RX0 99 RX0 yX0_requireBag wsX0_requireBag) := goodIn_app (goodIn_of _ (by decide +kernel)) ggX0_flightOf_X0_requireBag
theorem dX0_flightOf_0 : decode cX0_flightOf 0 = .ok (.aload_n 0, 1) := by decide +kernel
theorem dX0_flightOf_1 : decode cX0_flightOf 1 = .ok (.iload_n 1, 1) := by decide +kernel
theorem dX0_flightOf_2 : decode cX0_flightOf 2 = .ok (.invokevirtual 99, 3) := by decide +kernel
theorem dX0_flightOf_5 : decode cX0_flightOf 5 = .ok (.aload_n 0, 1) := by decide +kernel
theorem dX0_flightOf_6 : decode cX0_flightOf 6 = .ok (.getfield 20, 3) := by decide +kernel
theorem dX0_flightOf_9 : decode cX0_flightOf 9 = .ok (.iload_n 1, 1) := by decide +kernel
theorem dX0_flightOf_10 : decode cX0_flightOf 10 = .ok (.iaload, 1) := by decide +kernel
theorem dX0_flightOf_11 : decode cX0_flightOf 11 = .ok (.ireturn, 1) := by decide +kernel
theorem dX0_count_0 : decode cX0_count 0 = .ok (.iload_n 1, 1) := by decide +kernel
theorem dX0_count_1 : decode cX0_count 1 = .ok (.iconst 1, 1) := by decide +kernel
theorem dX0_count_2 : decode cX0_count 2 = .ok (.if_icmp .lt 9, 3) := by decide +kernel
theorem dX0_count_5 : decode cX0_count 5 = .ok (.iload_n 1, 1) := by decide +kernel
theorem dX0_count_6 : decode cX0_count 6 = .ok (.bipush 11, 2) := by decide +kernel
theorem dX0_count_8 : decode cX0_count 8 = .ok (.if_icmp .le 13, 3) := by decide +kernel
theorem dX0_count_11 : decode cX0_count 11 = .ok (.new 50, 3) := by decide +kernel
theorem dX0_count_14 : decode cX0_count 14 = .ok (.dup, 1) := by decide +kernel
theorem dX0_count_15 : decode cX0_count 15 = .ok (.ldc 128, 2) := by decide +kernel
theorem dX0_count_17 : decode cX0_count 17 = .ok (.invokespecial 54, 3) := by decide +kernel
theorem dX0_count_20 : decode cX0_count 20 = .ok (.athrow, 1) := by decide +kernel
theorem dX0_count_21 : decode cX0_count 21 = .ok (.aload_n 0, 1) := by decide +kernel
theorem dX0_count_22 : decode cX0_count 22 = .ok (.getfield 38, 3) := by decide +kernel
theorem dX0_count_25 : decode cX0_count 25 = .ok (.iload_n 1, 1) := by decide +kernel
theorem dX0_count_26 : decode cX0_count 26 = .ok (.iaload, 1) := by decide +kernel
theorem dX0_count_27 : decode cX0_count 27 = .ok (.ireturn, 1) := by decide +kernel
theorem dX0_atLateral_0 : decode cX0_atLateral 0 = .ok (.iload_n 1, 1) := by decide +kernel
theorem dX0_atLateral_1 : decode cX0_atLateral 1 = .ok (.ifCond .lt 8, 3) := by decide +kernel
theorem dX0_atLateral_4 : decode cX0_atLateral 4 = .ok (.iload_n 1, 1) := by decide +kernel
theorem dX0_atLateral_5 : decode cX0_atLateral 5 = .ok (.iconst 4, 1) := by decide +kernel
theorem dX0_atLateral_6 : decode cX0_atLateral 6 = .ok (.if_icmp .lt 13, 3) := by decide +kernel
theorem dX0_atLateral_9 : decode cX0_atLateral 9 = .ok (.new 130, 3) := by decide +kernel
theorem dX0_atLateral_12 : decode cX0_atLateral 12 = .ok (.dup, 1) := by decide +kernel
theorem dX0_atLateral_13 : decode cX0_atLateral 13 = .ok (.ldc 132, 2) := by decide +kernel
theorem dX0_atLateral_15 : decode cX0_atLateral 15 = .ok (.invokespecial 134, 3) := by decide +kernel
theorem dX0_atLateral_18 : decode cX0_atLateral 18 = .ok (.athrow, 1) := by decide +kernel
theorem dX0_atLateral_19 : decode cX0_atLateral 19 = .ok (.iconst 0, 1) := by decide +kernel
theorem dX0_atLateral_20 : decode cX0_atLateral 20 = .ok (.istore_n 2, 1) := by decide +kernel
theorem dX0_atLateral_21 : decode cX0_atLateral 21 = .ok (.iconst 0, 1) := by decide +kernel
theorem dX0_atLateral_22 : decode cX0_atLateral 22 = .ok (.istore_n 3, 1) := by decide +kernel
theorem dX0_atLateral_23 : decode cX0_atLateral 23 = .ok (.iload_n 3, 1) := by decide +kernel
theorem dX0_atLateral_24 : decode cX0_atLateral 24 = .ok (.aload_n 0, 1) := by decide +kernel
theorem dX0_atLateral_25 : decode cX0_atLateral 25 = .ok (.getfield 123, 3) := by decide +kernel
theorem dX0_atLateral_28 : decode cX0_atLateral 28 = .ok (.if_icmp .ge 38, 3) := by decide +kernel
theorem dX0_atLateral_31 : decode cX0_atLateral 31 = .ok (.aload_n 0, 1) := by decide +kernel
theorem dX0_atLateral_32 : decode cX0_atLateral 32 = .ok (.getfield 29, 3) := by decide +kernel
theorem dX0_atLateral_35 : decode cX0_atLateral 35 = .ok (.iload_n 3, 1) := by decide +kernel
theorem dX0_atLateral_36 : decode cX0_atLateral 36 = .ok (.iaload, 1) := by decide +kernel
theorem dX0_atLateral_37 : decode cX0_atLateral 37 = .ok (.bipush 7, 2) := by decide +kernel
theorem dX0_atLateral_39 : decode cX0_atLateral 39 = .ok (.if_icmp .ne 21, 3) := by decide +kernel
theorem dX0_atLateral_42 : decode cX0_atLateral 42 = .ok (.aload_n 0, 1) := by decide +kernel
theorem dX0_atLateral_43 : decode cX0_atLateral 43 = .ok (.getfield 13, 3) := by decide +kernel
theorem dX0_atLateral_46 : decode cX0_atLateral 46 = .ok (.aload_n 0, 1) := by decide +kernel
theorem dX0_atLateral_47 : decode cX0_atLateral 47 = .ok (.getfield 20, 3) := by decide +kernel
theorem dX0_atLateral_50 : decode cX0_atLateral 50 = .ok (.iload_n 3, 1) := by decide +kernel
theorem dX0_atLateral_51 : decode cX0_atLateral 51 = .ok (.iaload, 1) := by decide +kernel
theorem dX0_atLateral_52 : decode cX0_atLateral 52 = .ok (.iaload, 1) := by decide +kernel
theorem dX0_atLateral_53 : decode cX0_atLateral 53 = .ok (.iload_n 1, 1) := by decide +kernel
theorem dX0_atLateral_54 : decode cX0_atLateral 54 = .ok (.if_icmp .ne 6, 3) := by decide +kernel
theorem dX0_atLateral_57 : decode cX0_atLateral 57 = .ok (.iinc 2 1, 3) := by decide +kernel
theorem dX0_atLateral_60 : decode cX0_atLateral 60 = .ok (.iinc 3 1, 3) := by decide +kernel
theorem dX0_atLateral_63 : decode cX0_atLateral 63 = .ok (.goto (-40), 3) := by decide +kernel
theorem dX0_atLateral_66 : decode cX0_atLateral 66 = .ok (.iload_n 2, 1) := by decide +kernel
theorem dX0_atLateral_67 : decode cX0_atLateral 67 = .ok (.ireturn, 1) := by decide +kernel
set_option maxRecDepth 20000 in
theorem ggX0_unmatched_X0_requireFlight : GoodIn wsX0_unmatched wsX0_requireFlight := goodIn_ca (goodIn_r _ [6, 7, 8, 9, 23, 24, 25, 26, 27, 28, 29, 30, 31, 32, 33, 34, 35, 36, 37, 38, 39] (by decide +kernel) (by decide +kernel)) (goodIn_sub (fun _ h => List.mem_cons_of_mem _ (List.mem_append_right _ h)) (by decide +kernel))
set_option maxRecDepth 20000 in
theorem gX0_unmatched_X0_requireFlight : GoodIn wsX0_unmatched (wsV RX0 85 RX0 yX0_requireFlight wsX0_requireFlight) := goodIn_app (goodIn_of _ (by decide +kernel)) ggX0_unmatched_X0_requireFlight
set_option maxRecDepth 20000 in
theorem ggX0_unmatched_X0_isLoadedFor : GoodIn wsX0_unmatched wsX0_isLoadedFor := goodIn_r _ [13, 14, 15, 23, 24, 25, 26, 27, 28, 29, 30, 31, 32, 33, 34, 35, 36, 37, 38, 39] (by decide +kernel) (by decide +kernel)
set_option maxRecDepth 20000 in
theorem gX0_unmatched_X0_isLoadedFor : GoodIn wsX0_unmatched (wsV RX0 135 RX0 yX0_isLoadedFor wsX0_isLoadedFor) := goodIn_app (goodIn_of _ (by decide +kernel)) ggX0_unmatched_X0_isLoadedFor
set_option maxRecDepth 20000 in
theorem ggX0_unmatched_X0_mayFly : GoodIn wsX0_unmatched wsX0_mayFly := goodIn_r _ [19, 20, 21, 22, 23, 24, 25, 26, 27, 28, 29, 30, 31, 32, 33, 34, 35, 36, 37, 38, 39] (by decide +kernel) (by decide +kernel)
set_option maxRecDepth 20000 in
theorem gX0_unmatched_X0_mayFly : GoodIn wsX0_unmatched (wsV RX0 139 RX0 yX0_mayFly wsX0_mayFly) := goodIn_app (goodIn_of _ (by decide +kernel)) ggX0_unmatched_X0_mayFly
theorem dX0_unmatched_0 : decode cX0_unmatched 0 = .ok (.aload_n 0, 1) := by decide +kernel
theorem dX0_unmatched_1 : decode cX0_unmatched 1 = .ok (.iload_n 1, 1) := by decide +kernel
theorem dX0_unmatched_2 : decode cX0_unmatched 2 = .ok (.invokevirtual 85, 3) := by decide +kernel
theorem dX0_unmatched_5 : decode cX0_unmatched 5 = .ok (.iconst 0, 1) := by decide +kernel
theorem dX0_unmatched_6 : decode cX0_unmatched 6 = .ok (.istore_n 2, 1) := by decide +kernel
theorem dX0_unmatched_7 : decode cX0_unmatched 7 = .ok (.iconst 0, 1) := by decide +kernel
theorem dX0_unmatched_8 : decode cX0_unmatched 8 = .ok (.istore_n 3, 1) := by decide +kernel
theorem dX0_unmatched_9 : decode cX0_unmatched 9 = .ok (.iload_n 3, 1) := by decide +kernel
theorem dX0_unmatched_10 : decode cX0_unmatched 10 = .ok (.aload_n 0, 1) := by decide +kernel
theorem dX0_unmatched_11 : decode cX0_unmatched 11 = .ok (.getfield 123, 3) := by decide +kernel
theorem dX0_unmatched_14 : decode cX0_unmatched 14 = .ok (.if_icmp .ge 29, 3) := by decide +kernel
theorem dX0_unmatched_17 : decode cX0_unmatched 17 = .ok (.aload_n 0, 1) := by decide +kernel
theorem dX0_unmatched_18 : decode cX0_unmatched 18 = .ok (.iload_n 3, 1) := by decide +kernel
theorem dX0_unmatched_19 : decode cX0_unmatched 19 = .ok (.iload_n 1, 1) := by decide +kernel
theorem dX0_unmatched_20 : decode cX0_unmatched 20 = .ok (.invokevirtual 135, 3) := by decide +kernel
theorem dX0_unmatched_23 : decode cX0_unmatched 23 = .ok (.ifCond .eq 14, 3) := by decide +kernel
theorem dX0_unmatched_26 : decode cX0_unmatched 26 = .ok (.aload_n 0, 1) := by decide +kernel
theorem dX0_unmatched_27 : decode cX0_unmatched 27 = .ok (.iload_n 3, 1) := by decide +kernel
theorem dX0_unmatched_28 : decode cX0_unmatched 28 = .ok (.invokevirtual 139, 3) := by decide +kernel
theorem dX0_unmatched_31 : decode cX0_unmatched 31 = .ok (.ifCond .ne 6, 3) := by decide +kernel
theorem dX0_unmatched_34 : decode cX0_unmatched 34 = .ok (.iinc 2 1, 3) := by decide +kernel
theorem dX0_unmatched_37 : decode cX0_unmatched 37 = .ok (.iinc 3 1, 3) := by decide +kernel
theorem dX0_unmatched_40 : decode cX0_unmatched 40 = .ok (.goto (-31), 3) := by decide +kernel
theorem dX0_unmatched_43 : decode cX0_unmatched 43 = .ok (.iload_n 2, 1) := by decide +kernel
theorem dX0_unmatched_44 : decode cX0_unmatched 44 = .ok (.ireturn, 1) := by decide +kernel
set_option maxRecDepth 20000 in
theorem ggX0_untilClose_X0_requireFlight : GoodIn wsX0_untilClose wsX0_requireFlight := goodIn_ca (goodIn_r _ [10, 11, 12, 13, 19, 20, 21, 22, 23, 24, 25, 26, 27, 28, 29, 30, 31, 32, 33, 34, 35] (by decide +kernel) (by decide +kernel)) (goodIn_sub (fun _ h => List.mem_cons_of_mem _ (List.mem_append_right _ h)) (by decide +kernel))
set_option maxRecDepth 20000 in
theorem gX0_untilClose_X0_requireFlight : GoodIn wsX0_untilClose (wsV RX0 85 RX0 yX0_requireFlight wsX0_requireFlight) := goodIn_app (goodIn_of _ (by decide +kernel)) ggX0_untilClose_X0_requireFlight
set_option maxRecDepth 20000 in
theorem ggX0_untilClose_X0_closing : GoodIn wsX0_untilClose wsX0_closing := goodIn_r _ [17, 18, 19, 20, 21, 22, 23, 24, 25, 26, 27, 28, 29, 30, 31, 32, 33, 34, 35] (by decide +kernel) (by decide +kernel)
set_option maxRecDepth 20000 in
theorem gX0_untilClose_X0_closing : GoodIn wsX0_untilClose (wsV RX0 143 RX0 yX0_closing wsX0_closing) := goodIn_app (goodIn_of _ (by decide +kernel)) ggX0_untilClose_X0_closing
theorem dX0_untilClose_0 : decode cX0_untilClose 0 = .ok (.aload_n 0, 1) := by decide +kernel
theorem dX0_untilClose_1 : decode cX0_untilClose 1 = .ok (.iload_n 1, 1) := by decide +kernel
theorem dX0_untilClose_2 : decode cX0_untilClose 2 = .ok (.invokevirtual 85, 3) := by decide +kernel
theorem dX0_untilClose_5 : decode cX0_untilClose 5 = .ok (.iconst 0, 1) := by decide +kernel
theorem dX0_untilClose_6 : decode cX0_untilClose 6 = .ok (.aload_n 0, 1) := by decide +kernel
theorem dX0_untilClose_7 : decode cX0_untilClose 7 = .ok (.iload_n 1, 1) := by decide +kernel
theorem dX0_untilClose_8 : decode cX0_untilClose 8 = .ok (.invokevirtual 143, 3) := by decide +kernel
theorem dX0_untilClose_11 : decode cX0_untilClose 11 = .ok (.aload_n 0, 1) := by decide +kernel
end
section
theorem dX0_untilClose_12 : decode cX0_untilClose 12 = .ok (.getfield 66, 3) := by decide +kernel
theorem dX0_untilClose_15 : decode cX0_untilClose 15 = .ok (.isub, 1) := by decide +kernel
theorem dX0_untilClose_16 : decode cX0_untilClose 16 = .ok (.invokestatic 146, 3) := by decide +kernel
theorem dX0_untilClose_19 : decode cX0_untilClose 19 = .ok (.ireturn, 1) := by decide +kernel
theorem dX0_scans_0 : decode cX0_scans 0 = .ok (.aload_n 0, 1) := by decide +kernel
theorem dX0_scans_1 : decode cX0_scans 1 = .ok (.getfield 79, 3) := by decide +kernel
theorem dX0_scans_4 : decode cX0_scans 4 = .ok (.ireturn, 1) := by decide +kernel
set_option maxRecDepth 20000 in
theorem ggX0_bagOfScan_X0_requireScan : GoodIn wsX0_bagOfScan wsX0_requireScan := goodIn_ca (goodIn_r _ [6, 7, 8, 9, 10, 11, 12, 13, 14, 15, 16, 17, 18, 19, 20, 21, 22, 23, 24, 25, 26] (by decide +kernel) (by decide +kernel)) (goodIn_sub (fun _ h => List.mem_cons_of_mem _ (List.mem_append_right _ h)) (by decide +kernel))
set_option maxRecDepth 20000 in
theorem gX0_bagOfScan_X0_requireScan : GoodIn wsX0_bagOfScan (wsV RX0 151 RX0 yX0_requireScan wsX0_requireScan) := goodIn_app (goodIn_of _ (by decide +kernel)) ggX0_bagOfScan_X0_requireScan
theorem dX0_bagOfScan_0 : decode cX0_bagOfScan 0 = .ok (.aload_n 0, 1) := by decide +kernel
theorem dX0_bagOfScan_1 : decode cX0_bagOfScan 1 = .ok (.iload_n 1, 1) := by decide +kernel
theorem dX0_bagOfScan_2 : decode cX0_bagOfScan 2 = .ok (.invokevirtual 151, 3) := by decide +kernel
theorem dX0_bagOfScan_5 : decode cX0_bagOfScan 5 = .ok (.aload_n 0, 1) := by decide +kernel
theorem dX0_bagOfScan_6 : decode cX0_bagOfScan 6 = .ok (.getfield 41, 3) := by decide +kernel
theorem dX0_bagOfScan_9 : decode cX0_bagOfScan 9 = .ok (.iload_n 1, 1) := by decide +kernel
theorem dX0_bagOfScan_10 : decode cX0_bagOfScan 10 = .ok (.iaload, 1) := by decide +kernel
theorem dX0_bagOfScan_11 : decode cX0_bagOfScan 11 = .ok (.ireturn, 1) := by decide +kernel
set_option maxRecDepth 20000 in
theorem ggX0_placeOfScan_X0_requireScan : GoodIn wsX0_placeOfScan wsX0_requireScan := goodIn_ca (goodIn_r _ [6, 7, 8, 9, 10, 11, 12, 13, 14, 15, 16, 17, 18, 19, 20, 21, 22, 23, 24, 25, 26] (by decide +kernel) (by decide +kernel)) (goodIn_sub (fun _ h => List.mem_cons_of_mem _ (List.mem_append_right _ h)) (by decide +kernel))
set_option maxRecDepth 20000 in
theorem gX0_placeOfScan_X0_requireScan : GoodIn wsX0_placeOfScan (wsV RX0 151 RX0 yX0_requireScan wsX0_requireScan) := goodIn_app (goodIn_of _ (by decide +kernel)) ggX0_placeOfScan_X0_requireScan
theorem dX0_placeOfScan_0 : decode cX0_placeOfScan 0 = .ok (.aload_n 0, 1) := by decide +kernel
theorem dX0_placeOfScan_1 : decode cX0_placeOfScan 1 = .ok (.iload_n 1, 1) := by decide +kernel
theorem dX0_placeOfScan_2 : decode cX0_placeOfScan 2 = .ok (.invokevirtual 151, 3) := by decide +kernel
theorem dX0_placeOfScan_5 : decode cX0_placeOfScan 5 = .ok (.aload_n 0, 1) := by decide +kernel
theorem dX0_placeOfScan_6 : decode cX0_placeOfScan 6 = .ok (.getfield 44, 3) := by decide +kernel
theorem dX0_placeOfScan_9 : decode cX0_placeOfScan 9 = .ok (.iload_n 1, 1) := by decide +kernel
theorem dX0_placeOfScan_10 : decode cX0_placeOfScan 10 = .ok (.iaload, 1) := by decide +kernel
theorem dX0_placeOfScan_11 : decode cX0_placeOfScan 11 = .ok (.ireturn, 1) := by decide +kernel
theorem dX0_requireFlight_0 : decode cX0_requireFlight 0 = .ok (.iload_n 1, 1) := by decide +kernel
theorem dX0_requireFlight_1 : decode cX0_requireFlight 1 = .ok (.ifCond .lt 11, 3) := by decide +kernel
theorem dX0_requireFlight_4 : decode cX0_requireFlight 4 = .ok (.iload_n 1, 1) := by decide +kernel
theorem dX0_requireFlight_5 : decode cX0_requireFlight 5 = .ok (.aload_n 0, 1) := by decide +kernel
theorem dX0_requireFlight_6 : decode cX0_requireFlight 6 = .ok (.getfield 57, 3) := by decide +kernel
theorem dX0_requireFlight_9 : decode cX0_requireFlight 9 = .ok (.if_icmp .lt 13, 3) := by decide +kernel
theorem dX0_requireFlight_12 : decode cX0_requireFlight 12 = .ok (.new 130, 3) := by decide +kernel
theorem dX0_requireFlight_15 : decode cX0_requireFlight 15 = .ok (.dup, 1) := by decide +kernel
theorem dX0_requireFlight_16 : decode cX0_requireFlight 16 = .ok (.ldc 154, 2) := by decide +kernel
theorem dX0_requireFlight_18 : decode cX0_requireFlight 18 = .ok (.invokespecial 134, 3) := by decide +kernel
theorem dX0_requireFlight_21 : decode cX0_requireFlight 21 = .ok (.athrow, 1) := by decide +kernel
theorem dX0_requireFlight_22 : decode cX0_requireFlight 22 = .ok (.return_, 1) := by decide +kernel
theorem dX0_requireRider_0 : decode cX0_requireRider 0 = .ok (.iload_n 1, 1) := by decide +kernel
theorem dX0_requireRider_1 : decode cX0_requireRider 1 = .ok (.ifCond .lt 9, 3) := by decide +kernel
theorem dX0_requireRider_4 : decode cX0_requireRider 4 = .ok (.iload_n 1, 1) := by decide +kernel
theorem dX0_requireRider_5 : decode cX0_requireRider 5 = .ok (.bipush 40, 2) := by decide +kernel
theorem dX0_requireRider_7 : decode cX0_requireRider 7 = .ok (.if_icmp .lt 13, 3) := by decide +kernel
theorem dX0_requireRider_10 : decode cX0_requireRider 10 = .ok (.new 130, 3) := by decide +kernel
theorem dX0_requireRider_13 : decode cX0_requireRider 13 = .ok (.dup, 1) := by decide +kernel
theorem dX0_requireRider_14 : decode cX0_requireRider 14 = .ok (.ldc 156, 2) := by decide +kernel
theorem dX0_requireRider_16 : decode cX0_requireRider 16 = .ok (.invokespecial 134, 3) := by decide +kernel
theorem dX0_requireRider_19 : decode cX0_requireRider 19 = .ok (.athrow, 1) := by decide +kernel
theorem dX0_requireRider_20 : decode cX0_requireRider 20 = .ok (.return_, 1) := by decide +kernel
theorem dX0_requireBag_0 : decode cX0_requireBag 0 = .ok (.iload_n 1, 1) := by decide +kernel
theorem dX0_requireBag_1 : decode cX0_requireBag 1 = .ok (.ifCond .lt 11, 3) := by decide +kernel
theorem dX0_requireBag_4 : decode cX0_requireBag 4 = .ok (.iload_n 1, 1) := by decide +kernel
theorem dX0_requireBag_5 : decode cX0_requireBag 5 = .ok (.aload_n 0, 1) := by decide +kernel
theorem dX0_requireBag_6 : decode cX0_requireBag 6 = .ok (.getfield 123, 3) := by decide +kernel
theorem dX0_requireBag_9 : decode cX0_requireBag 9 = .ok (.if_icmp .lt 13, 3) := by decide +kernel
theorem dX0_requireBag_12 : decode cX0_requireBag 12 = .ok (.new 130, 3) := by decide +kernel
theorem dX0_requireBag_15 : decode cX0_requireBag 15 = .ok (.dup, 1) := by decide +kernel
theorem dX0_requireBag_16 : decode cX0_requireBag 16 = .ok (.ldc 158, 2) := by decide +kernel
theorem dX0_requireBag_18 : decode cX0_requireBag 18 = .ok (.invokespecial 134, 3) := by decide +kernel
theorem dX0_requireBag_21 : decode cX0_requireBag 21 = .ok (.athrow, 1) := by decide +kernel
theorem dX0_requireBag_22 : decode cX0_requireBag 22 = .ok (.return_, 1) := by decide +kernel
theorem dX0_requireScan_0 : decode cX0_requireScan 0 = .ok (.iload_n 1, 1) := by decide +kernel
theorem dX0_requireScan_1 : decode cX0_requireScan 1 = .ok (.ifCond .lt 11, 3) := by decide +kernel
theorem dX0_requireScan_4 : decode cX0_requireScan 4 = .ok (.iload_n 1, 1) := by decide +kernel
theorem dX0_requireScan_5 : decode cX0_requireScan 5 = .ok (.aload_n 0, 1) := by decide +kernel
theorem dX0_requireScan_6 : decode cX0_requireScan 6 = .ok (.getfield 79, 3) := by decide +kernel
theorem dX0_requireScan_9 : decode cX0_requireScan 9 = .ok (.if_icmp .lt 13, 3) := by decide +kernel
theorem dX0_requireScan_12 : decode cX0_requireScan 12 = .ok (.new 130, 3) := by decide +kernel
theorem dX0_requireScan_15 : decode cX0_requireScan 15 = .ok (.dup, 1) := by decide +kernel
theorem dX0_requireScan_16 : decode cX0_requireScan 16 = .ok (.ldc 160, 2) := by decide +kernel
theorem dX0_requireScan_18 : decode cX0_requireScan 18 = .ok (.invokespecial 134, 3) := by decide +kernel
theorem dX0_requireScan_21 : decode cX0_requireScan 21 = .ok (.athrow, 1) := by decide +kernel
theorem dX0_requireScan_22 : decode cX0_requireScan 22 = .ok (.return_, 1) := by decide +kernel
theorem dX0_requirePlace_0 : decode cX0_requirePlace 0 = .ok (.aload_n 0, 1) := by decide +kernel
theorem dX0_requirePlace_1 : decode cX0_requirePlace 1 = .ok (.getfield 29, 3) := by decide +kernel
theorem dX0_requirePlace_4 : decode cX0_requirePlace 4 = .ok (.iload_n 1, 1) := by decide +kernel
theorem dX0_requirePlace_5 : decode cX0_requirePlace 5 = .ok (.iaload, 1) := by decide +kernel
theorem dX0_requirePlace_6 : decode cX0_requirePlace 6 = .ok (.iload_n 2, 1) := by decide +kernel
theorem dX0_requirePlace_7 : decode cX0_requirePlace 7 = .ok (.if_icmp .eq 13, 3) := by decide +kernel
theorem dX0_requirePlace_10 : decode cX0_requirePlace 10 = .ok (.new 61, 3) := by decide +kernel
theorem dX0_requirePlace_13 : decode cX0_requirePlace 13 = .ok (.dup, 1) := by decide +kernel
theorem dX0_requirePlace_14 : decode cX0_requirePlace 14 = .ok (.ldc 162, 2) := by decide +kernel
theorem dX0_requirePlace_16 : decode cX0_requirePlace 16 = .ok (.invokespecial 65, 3) := by decide +kernel
theorem dX0_requirePlace_19 : decode cX0_requirePlace 19 = .ok (.athrow, 1) := by decide +kernel
theorem dX0_requirePlace_20 : decode cX0_requirePlace 20 = .ok (.return_, 1) := by decide +kernel
theorem dX0_requireNotDeparted_0 : decode cX0_requireNotDeparted 0 = .ok (.aload_n 0, 1) := by decide +kernel
theorem dX0_requireNotDeparted_1 : decode cX0_requireNotDeparted 1 = .ok (.getfield 66, 3) := by decide +kernel
theorem dX0_requireNotDeparted_4 : decode cX0_requireNotDeparted 4 = .ok (.aload_n 0, 1) := by decide +kernel
theorem dX0_requireNotDeparted_5 : decode cX0_requireNotDeparted 5 = .ok (.getfield 9, 3) := by decide +kernel
theorem dX0_requireNotDeparted_8 : decode cX0_requireNotDeparted 8 = .ok (.iload_n 1, 1) := by decide +kernel
theorem dX0_requireNotDeparted_9 : decode cX0_requireNotDeparted 9 = .ok (.iaload, 1) := by decide +kernel
theorem dX0_requireNotDeparted_10 : decode cX0_requireNotDeparted 10 = .ok (.if_icmp .lt 13, 3) := by decide +kernel
theorem dX0_requireNotDeparted_13 : decode cX0_requireNotDeparted 13 = .ok (.new 61, 3) := by decide +kernel
theorem dX0_requireNotDeparted_16 : decode cX0_requireNotDeparted 16 = .ok (.dup, 1) := by decide +kernel
theorem dX0_requireNotDeparted_17 : decode cX0_requireNotDeparted 17 = .ok (.ldc 164, 2) := by decide +kernel
theorem dX0_requireNotDeparted_19 : decode cX0_requireNotDeparted 19 = .ok (.invokespecial 65, 3) := by decide +kernel
theorem dX0_requireNotDeparted_22 : decode cX0_requireNotDeparted 22 = .ok (.athrow, 1) := by decide +kernel
theorem dX0_requireNotDeparted_23 : decode cX0_requireNotDeparted 23 = .ok (.return_, 1) := by decide +kernel
set_option maxRecDepth 20000 in
theorem ggX0_lowestFreeLateral_X0_isFree : GoodIn wsX0_lowestFreeLateral wsX0_isFree := goodIn_r _ [5, 6, 7, 8, 9, 10, 11, 12, 13, 14, 15, 16, 17, 18, 19, 20, 21, 22, 23, 24, 25, 26, 27, 28, 29] (by decide +kernel) (by decide +kernel)
set_option maxRecDepth 20000 in
theorem gX0_lowestFreeLateral_X0_isFree : GoodIn wsX0_lowestFreeLateral (wsV RX0 166 RX0 yX0_isFree wsX0_isFree) := goodIn_app (goodIn_of _ (by decide +kernel)) ggX0_lowestFreeLateral_X0_isFree
theorem dX0_lowestFreeLateral_0 : decode cX0_lowestFreeLateral 0 = .ok (.iconst 0, 1) := by decide +kernel
theorem dX0_lowestFreeLateral_1 : decode cX0_lowestFreeLateral 1 = .ok (.istore_n 2, 1) := by decide +kernel
theorem dX0_lowestFreeLateral_2 : decode cX0_lowestFreeLateral 2 = .ok (.iload_n 2, 1) := by decide +kernel
theorem dX0_lowestFreeLateral_3 : decode cX0_lowestFreeLateral 3 = .ok (.iconst 4, 1) := by decide +kernel
theorem dX0_lowestFreeLateral_4 : decode cX0_lowestFreeLateral 4 = .ok (.if_icmp .ge 20, 3) := by decide +kernel
theorem dX0_lowestFreeLateral_7 : decode cX0_lowestFreeLateral 7 = .ok (.aload_n 0, 1) := by decide +kernel
theorem dX0_lowestFreeLateral_8 : decode cX0_lowestFreeLateral 8 = .ok (.iload_n 2, 1) := by decide +kernel
theorem dX0_lowestFreeLateral_9 : decode cX0_lowestFreeLateral 9 = .ok (.iload_n 1, 1) := by decide +kernel
theorem dX0_lowestFreeLateral_10 : decode cX0_lowestFreeLateral 10 = .ok (.invokevirtual 166, 3) := by decide +kernel
theorem dX0_lowestFreeLateral_13 : decode cX0_lowestFreeLateral 13 = .ok (.ifCond .eq 5, 3) := by decide +kernel
theorem dX0_lowestFreeLateral_16 : decode cX0_lowestFreeLateral 16 = .ok (.iload_n 2, 1) := by decide +kernel
theorem dX0_lowestFreeLateral_17 : decode cX0_lowestFreeLateral 17 = .ok (.ireturn, 1) := by decide +kernel
theorem dX0_lowestFreeLateral_18 : decode cX0_lowestFreeLateral 18 = .ok (.iinc 2 1, 3) := by decide +kernel
theorem dX0_lowestFreeLateral_21 : decode cX0_lowestFreeLateral 21 = .ok (.goto (-19), 3) := by decide +kernel
theorem dX0_lowestFreeLateral_24 : decode cX0_lowestFreeLateral 24 = .ok (.iconst (-1), 1) := by decide +kernel
theorem dX0_lowestFreeLateral_25 : decode cX0_lowestFreeLateral 25 = .ok (.ireturn, 1) := by decide +kernel
theorem dX0_isFree_0 : decode cX0_isFree 0 = .ok (.iconst 0, 1) := by decide +kernel
theorem dX0_isFree_1 : decode cX0_isFree 1 = .ok (.istore_n 3, 1) := by decide +kernel
theorem dX0_isFree_2 : decode cX0_isFree 2 = .ok (.iload_n 3, 1) := by decide +kernel
theorem dX0_isFree_3 : decode cX0_isFree 3 = .ok (.aload_n 0, 1) := by decide +kernel
theorem dX0_isFree_4 : decode cX0_isFree 4 = .ok (.getfield 57, 3) := by decide +kernel
theorem dX0_isFree_7 : decode cX0_isFree 7 = .ok (.if_icmp .ge 37, 3) := by decide +kernel
theorem dX0_isFree_10 : decode cX0_isFree 10 = .ok (.aload_n 0, 1) := by decide +kernel
theorem dX0_isFree_11 : decode cX0_isFree 11 = .ok (.getfield 13, 3) := by decide +kernel
theorem dX0_isFree_14 : decode cX0_isFree 14 = .ok (.iload_n 3, 1) := by decide +kernel
theorem dX0_isFree_15 : decode cX0_isFree 15 = .ok (.iaload, 1) := by decide +kernel
theorem dX0_isFree_16 : decode cX0_isFree 16 = .ok (.iload_n 1, 1) := by decide +kernel
theorem dX0_isFree_17 : decode cX0_isFree 17 = .ok (.if_icmp .ne 21, 3) := by decide +kernel
theorem dX0_isFree_20 : decode cX0_isFree 20 = .ok (.aload_n 0, 1) := by decide +kernel
theorem dX0_isFree_21 : decode cX0_isFree 21 = .ok (.getfield 9, 3) := by decide +kernel
theorem dX0_isFree_24 : decode cX0_isFree 24 = .ok (.iload_n 3, 1) := by decide +kernel
theorem dX0_isFree_25 : decode cX0_isFree 25 = .ok (.iaload, 1) := by decide +kernel
theorem dX0_isFree_26 : decode cX0_isFree 26 = .ok (.iload_n 2, 1) := by decide +kernel
theorem dX0_isFree_27 : decode cX0_isFree 27 = .ok (.isub, 1) := by decide +kernel
theorem dX0_isFree_28 : decode cX0_isFree 28 = .ok (.invokestatic 169, 3) := by decide +kernel
theorem dX0_isFree_31 : decode cX0_isFree 31 = .ok (.bipush 60, 2) := by decide +kernel
theorem dX0_isFree_33 : decode cX0_isFree 33 = .ok (.if_icmp .ge 5, 3) := by decide +kernel
theorem dX0_isFree_36 : decode cX0_isFree 36 = .ok (.iconst 0, 1) := by decide +kernel
theorem dX0_isFree_37 : decode cX0_isFree 37 = .ok (.ireturn, 1) := by decide +kernel
theorem dX0_isFree_38 : decode cX0_isFree 38 = .ok (.iinc 3 1, 3) := by decide +kernel
theorem dX0_isFree_41 : decode cX0_isFree 41 = .ok (.goto (-39), 3) := by decide +kernel
theorem dX0_isFree_44 : decode cX0_isFree 44 = .ok (.iconst 1, 1) := by decide +kernel
theorem dX0_isFree_45 : decode cX0_isFree 45 = .ok (.ireturn, 1) := by decide +kernel
theorem dX0_closing_0 : decode cX0_closing 0 = .ok (.aload_n 0, 1) := by decide +kernel
theorem dX0_closing_1 : decode cX0_closing 1 = .ok (.getfield 9, 3) := by decide +kernel
theorem dX0_closing_4 : decode cX0_closing 4 = .ok (.iload_n 1, 1) := by decide +kernel
theorem dX0_closing_5 : decode cX0_closing 5 = .ok (.iaload, 1) := by decide +kernel
theorem dX0_closing_6 : decode cX0_closing 6 = .ok (.bipush 10, 2) := by decide +kernel
theorem dX0_closing_8 : decode cX0_closing 8 = .ok (.isub, 1) := by decide +kernel
theorem dX0_closing_9 : decode cX0_closing 9 = .ok (.ireturn, 1) := by decide +kernel
set_option maxRecDepth 20000 in
theorem ggX0_hasClosed_X0_closing : GoodIn wsX0_hasClosed wsX0_closing := goodIn_r _ [6, 7, 8, 9, 10, 11, 12, 13, 14, 15, 16, 17, 18, 19, 20, 21, 22, 23, 24] (by decide +kernel) (by decide +kernel)
set_option maxRecDepth 20000 in
theorem gX0_hasClosed_X0_closing : GoodIn wsX0_hasClosed (wsV RX0 143 RX0 yX0_closing wsX0_closing) := goodIn_app (goodIn_of _ (by decide +kernel)) ggX0_hasClosed_X0_closing
theorem dX0_hasClosed_0 : decode cX0_hasClosed 0 = .ok (.aload_n 0, 1) := by decide +kernel
theorem dX0_hasClosed_1 : decode cX0_hasClosed 1 = .ok (.getfield 66, 3) := by decide +kernel
theorem dX0_hasClosed_4 : decode cX0_hasClosed 4 = .ok (.aload_n 0, 1) := by decide +kernel
theorem dX0_hasClosed_5 : decode cX0_hasClosed 5 = .ok (.iload_n 1, 1) := by decide +kernel
theorem dX0_hasClosed_6 : decode cX0_hasClosed 6 = .ok (.invokevirtual 143, 3) := by decide +kernel
theorem dX0_hasClosed_9 : decode cX0_hasClosed 9 = .ok (.if_icmp .lt 7, 3) := by decide +kernel
theorem dX0_hasClosed_12 : decode cX0_hasClosed 12 = .ok (.iconst 1, 1) := by decide +kernel
theorem dX0_hasClosed_13 : decode cX0_hasClosed 13 = .ok (.goto 4, 3) := by decide +kernel
theorem dX0_hasClosed_16 : decode cX0_hasClosed 16 = .ok (.iconst 0, 1) := by decide +kernel
theorem dX0_hasClosed_17 : decode cX0_hasClosed 17 = .ok (.ireturn, 1) := by decide +kernel
theorem dX0_hasOpened_0 : decode cX0_hasOpened 0 = .ok (.aload_n 0, 1) := by decide +kernel
theorem dX0_hasOpened_1 : decode cX0_hasOpened 1 = .ok (.getfield 66, 3) := by decide +kernel
theorem dX0_hasOpened_4 : decode cX0_hasOpened 4 = .ok (.aload_n 0, 1) := by decide +kernel
theorem dX0_hasOpened_5 : decode cX0_hasOpened 5 = .ok (.getfield 9, 3) := by decide +kernel
theorem dX0_hasOpened_8 : decode cX0_hasOpened 8 = .ok (.iload_n 1, 1) := by decide +kernel
theorem dX0_hasOpened_9 : decode cX0_hasOpened 9 = .ok (.iaload, 1) := by decide +kernel
theorem dX0_hasOpened_10 : decode cX0_hasOpened 10 = .ok (.bipush 60, 2) := by decide +kernel
theorem dX0_hasOpened_12 : decode cX0_hasOpened 12 = .ok (.isub, 1) := by decide +kernel
theorem dX0_hasOpened_13 : decode cX0_hasOpened 13 = .ok (.if_icmp .lt 7, 3) := by decide +kernel
theorem dX0_hasOpened_16 : decode cX0_hasOpened 16 = .ok (.iconst 1, 1) := by decide +kernel
theorem dX0_hasOpened_17 : decode cX0_hasOpened 17 = .ok (.goto 4, 3) := by decide +kernel
theorem dX0_hasOpened_20 : decode cX0_hasOpened 20 = .ok (.iconst 0, 1) := by decide +kernel
theorem dX0_hasOpened_21 : decode cX0_hasOpened 21 = .ok (.ireturn, 1) := by decide +kernel
set_option maxRecDepth 20000 in
theorem ggX0_loadedBags_X0_isLoadedFor : GoodIn wsX0_loadedBags wsX0_isLoadedFor := goodIn_r _ [6, 7, 8, 9, 10, 11, 12, 13, 14, 15, 16, 17, 18, 19, 20, 21, 22, 23, 24, 25] (by decide +kernel) (by decide +kernel)
set_option maxRecDepth 20000 in
theorem gX0_loadedBags_X0_isLoadedFor : GoodIn wsX0_loadedBags (wsV RX0 135 RX0 yX0_isLoadedFor wsX0_isLoadedFor) := goodIn_app (goodIn_of _ (by decide +kernel)) ggX0_loadedBags_X0_isLoadedFor
theorem dX0_loadedBags_0 : decode cX0_loadedBags 0 = .ok (.iconst 0, 1) := by decide +kernel
theorem dX0_loadedBags_1 : decode cX0_loadedBags 1 = .ok (.istore_n 2, 1) := by decide +kernel
theorem dX0_loadedBags_2 : decode cX0_loadedBags 2 = .ok (.iconst 0, 1) := by decide +kernel
theorem dX0_loadedBags_3 : decode cX0_loadedBags 3 = .ok (.istore_n 3, 1) := by decide +kernel
theorem dX0_loadedBags_4 : decode cX0_loadedBags 4 = .ok (.iload_n 3, 1) := by decide +kernel
theorem dX0_loadedBags_5 : decode cX0_loadedBags 5 = .ok (.aload_n 0, 1) := by decide +kernel
theorem dX0_loadedBags_6 : decode cX0_loadedBags 6 = .ok (.getfield 123, 3) := by decide +kernel
theorem dX0_loadedBags_9 : decode cX0_loadedBags 9 = .ok (.if_icmp .ge 21, 3) := by decide +kernel
theorem dX0_loadedBags_12 : decode cX0_loadedBags 12 = .ok (.aload_n 0, 1) := by decide +kernel
theorem dX0_loadedBags_13 : decode cX0_loadedBags 13 = .ok (.iload_n 3, 1) := by decide +kernel
theorem dX0_loadedBags_14 : decode cX0_loadedBags 14 = .ok (.iload_n 1, 1) := by decide +kernel
theorem dX0_loadedBags_15 : decode cX0_loadedBags 15 = .ok (.invokevirtual 135, 3) := by decide +kernel
theorem dX0_loadedBags_18 : decode cX0_loadedBags 18 = .ok (.ifCond .eq 6, 3) := by decide +kernel
theorem dX0_loadedBags_21 : decode cX0_loadedBags 21 = .ok (.iinc 2 1, 3) := by decide +kernel
theorem dX0_loadedBags_24 : decode cX0_loadedBags 24 = .ok (.iinc 3 1, 3) := by decide +kernel
theorem dX0_loadedBags_27 : decode cX0_loadedBags 27 = .ok (.goto (-23), 3) := by decide +kernel
theorem dX0_loadedBags_30 : decode cX0_loadedBags 30 = .ok (.iload_n 2, 1) := by decide +kernel
theorem dX0_loadedBags_31 : decode cX0_loadedBags 31 = .ok (.ireturn, 1) := by decide +kernel
theorem dX0_isLoadedFor_0 : decode cX0_isLoadedFor 0 = .ok (.aload_n 0, 1) := by decide +kernel
theorem dX0_isLoadedFor_1 : decode cX0_isLoadedFor 1 = .ok (.getfield 29, 3) := by decide +kernel
theorem dX0_isLoadedFor_4 : decode cX0_isLoadedFor 4 = .ok (.iload_n 1, 1) := by decide +kernel
theorem dX0_isLoadedFor_5 : decode cX0_isLoadedFor 5 = .ok (.iaload, 1) := by decide +kernel
theorem dX0_isLoadedFor_6 : decode cX0_isLoadedFor 6 = .ok (.bipush 8, 2) := by decide +kernel
theorem dX0_isLoadedFor_8 : decode cX0_isLoadedFor 8 = .ok (.if_icmp .ne 17, 3) := by decide +kernel
theorem dX0_isLoadedFor_11 : decode cX0_isLoadedFor 11 = .ok (.aload_n 0, 1) := by decide +kernel
theorem dX0_isLoadedFor_12 : decode cX0_isLoadedFor 12 = .ok (.getfield 20, 3) := by decide +kernel
theorem dX0_isLoadedFor_15 : decode cX0_isLoadedFor 15 = .ok (.iload_n 1, 1) := by decide +kernel
theorem dX0_isLoadedFor_16 : decode cX0_isLoadedFor 16 = .ok (.iaload, 1) := by decide +kernel
theorem dX0_isLoadedFor_17 : decode cX0_isLoadedFor 17 = .ok (.iload_n 2, 1) := by decide +kernel
theorem dX0_isLoadedFor_18 : decode cX0_isLoadedFor 18 = .ok (.if_icmp .ne 7, 3) := by decide +kernel
theorem dX0_isLoadedFor_21 : decode cX0_isLoadedFor 21 = .ok (.iconst 1, 1) := by decide +kernel
theorem dX0_isLoadedFor_22 : decode cX0_isLoadedFor 22 = .ok (.goto 4, 3) := by decide +kernel
theorem dX0_isLoadedFor_25 : decode cX0_isLoadedFor 25 = .ok (.iconst 0, 1) := by decide +kernel
theorem dX0_isLoadedFor_26 : decode cX0_isLoadedFor 26 = .ok (.ireturn, 1) := by decide +kernel
theorem dX0_mayFly_0 : decode cX0_mayFly 0 = .ok (.aload_n 0, 1) := by decide +kernel
theorem dX0_mayFly_1 : decode cX0_mayFly 1 = .ok (.getfield 26, 3) := by decide +kernel
theorem dX0_mayFly_4 : decode cX0_mayFly 4 = .ok (.iload_n 1, 1) := by decide +kernel
theorem dX0_mayFly_5 : decode cX0_mayFly 5 = .ok (.baload, 1) := by decide +kernel
theorem dX0_mayFly_6 : decode cX0_mayFly 6 = .ok (.ifCond .ne 17, 3) := by decide +kernel
theorem dX0_mayFly_9 : decode cX0_mayFly 9 = .ok (.aload_n 0, 1) := by decide +kernel
theorem dX0_mayFly_10 : decode cX0_mayFly 10 = .ok (.getfield 16, 3) := by decide +kernel
theorem dX0_mayFly_13 : decode cX0_mayFly 13 = .ok (.aload_n 0, 1) := by decide +kernel
theorem dX0_mayFly_14 : decode cX0_mayFly 14 = .ok (.getfield 23, 3) := by decide +kernel
theorem dX0_mayFly_17 : decode cX0_mayFly 17 = .ok (.iload_n 1, 1) := by decide +kernel
theorem dX0_mayFly_18 : decode cX0_mayFly 18 = .ok (.iaload, 1) := by decide +kernel
theorem dX0_mayFly_19 : decode cX0_mayFly 19 = .ok (.baload, 1) := by decide +kernel
theorem dX0_mayFly_20 : decode cX0_mayFly 20 = .ok (.ifCond .eq 7, 3) := by decide +kernel
theorem dX0_mayFly_23 : decode cX0_mayFly 23 = .ok (.iconst 1, 1) := by decide +kernel
theorem dX0_mayFly_24 : decode cX0_mayFly 24 = .ok (.goto 4, 3) := by decide +kernel
theorem dX0_mayFly_27 : decode cX0_mayFly 27 = .ok (.iconst 0, 1) := by decide +kernel
theorem dX0_mayFly_28 : decode cX0_mayFly 28 = .ok (.ireturn, 1) := by decide +kernel
theorem dX0_decisionTime_0 : decode cX0_decisionTime 0 = .ok (.iload_n 0, 1) := by decide +kernel
theorem dX0_decisionTime_1 : decode cX0_decisionTime 1 = .ok (.iconst 1, 1) := by decide +kernel
theorem dX0_decisionTime_2 : decode cX0_decisionTime 2 = .ok (.if_icmp .ne 5, 3) := by decide +kernel
theorem dX0_decisionTime_5 : decode cX0_decisionTime 5 = .ok (.iconst 2, 1) := by decide +kernel
theorem dX0_decisionTime_6 : decode cX0_decisionTime 6 = .ok (.ireturn, 1) := by decide +kernel
theorem dX0_decisionTime_7 : decode cX0_decisionTime 7 = .ok (.iload_n 0, 1) := by decide +kernel
theorem dX0_decisionTime_8 : decode cX0_decisionTime 8 = .ok (.iconst 2, 1) := by decide +kernel
theorem dX0_decisionTime_9 : decode cX0_decisionTime 9 = .ok (.if_icmp .ne 7, 3) := by decide +kernel
theorem dX0_decisionTime_12 : decode cX0_decisionTime 12 = .ok (.iconst 4, 1) := by decide +kernel
theorem dX0_decisionTime_13 : decode cX0_decisionTime 13 = .ok (.goto 5, 3) := by decide +kernel
theorem dX0_decisionTime_16 : decode cX0_decisionTime 16 = .ok (.bipush 10, 2) := by decide +kernel
theorem dX0_decisionTime_18 : decode cX0_decisionTime 18 = .ok (.ireturn, 1) := by decide +kernel
theorem dX0_nextLevel_0 : decode cX0_nextLevel 0 = .ok (.iload_n 0, 1) := by decide +kernel
theorem dX0_nextLevel_1 : decode cX0_nextLevel 1 = .ok (.iconst 1, 1) := by decide +kernel
theorem dX0_nextLevel_2 : decode cX0_nextLevel 2 = .ok (.if_icmp .ne 5, 3) := by decide +kernel
theorem dX0_nextLevel_5 : decode cX0_nextLevel 5 = .ok (.iconst 2, 1) := by decide +kernel
theorem dX0_nextLevel_6 : decode cX0_nextLevel 6 = .ok (.ireturn, 1) := by decide +kernel
theorem dX0_nextLevel_7 : decode cX0_nextLevel 7 = .ok (.iload_n 0, 1) := by decide +kernel
theorem dX0_nextLevel_8 : decode cX0_nextLevel 8 = .ok (.iconst 2, 1) := by decide +kernel
theorem dX0_nextLevel_9 : decode cX0_nextLevel 9 = .ok (.if_icmp .ne 7, 3) := by decide +kernel
theorem dX0_nextLevel_12 : decode cX0_nextLevel 12 = .ok (.iconst 3, 1) := by decide +kernel
theorem dX0_nextLevel_13 : decode cX0_nextLevel 13 = .ok (.goto 4, 3) := by decide +kernel
theorem dX0_nextLevel_16 : decode cX0_nextLevel 16 = .ok (.iconst 4, 1) := by decide +kernel
theorem dX0_nextLevel_17 : decode cX0_nextLevel 17 = .ok (.ireturn, 1) := by decide +kernel
set_option maxRecDepth 20000 in
theorem ggX0_takeIn_X0_requireFlight : GoodIn wsX0_takeIn wsX0_requireFlight := goodIn_ca (goodIn_r _ [11, 12, 13, 14, 25, 26, 27, 28, 29, 30, 31, 32, 33, 34, 35, 36, 37, 38, 39, 40, 41] (by decide +kernel) (by decide +kernel)) (goodIn_sub (fun _ h => List.mem_cons_of_mem _ (List.mem_append_right _ h)) (by decide +kernel))
set_option maxRecDepth 20000 in
theorem gX0_takeIn_X0_requireFlight : GoodIn wsX0_takeIn (wsV RX0 85 RX0 yX0_requireFlight wsX0_requireFlight) := goodIn_app (goodIn_of _ (by decide +kernel)) ggX0_takeIn_X0_requireFlight
set_option maxRecDepth 20000 in
theorem ggX0_takeIn_X0_requireRider : GoodIn wsX0_takeIn wsX0_requireRider := goodIn_ca (goodIn_r _ [18, 12, 13] (by decide +kernel) (by decide +kernel)) (goodIn_sub (fun _ h => List.mem_cons_of_mem _ (List.mem_append_right _ h)) (by decide +kernel))
set_option maxRecDepth 20000 in
theorem gX0_takeIn_X0_requireRider : GoodIn wsX0_takeIn (wsV RX0 73 RX0 yX0_requireRider wsX0_requireRider) := goodIn_app (goodIn_of _ (by decide +kernel)) ggX0_takeIn_X0_requireRider
set_option maxRecDepth 20000 in
theorem ggX0_takeIn_X0_requireNotDeparted : GoodIn wsX0_takeIn wsX0_requireNotDeparted := goodIn_ca (goodIn_r _ [22, 1, 2, 23, 24, 25, 26, 27, 28, 29, 30, 31, 32, 33, 34, 35, 36, 37, 38, 39, 40, 41] (by decide +kernel) (by decide +kernel)) (goodIn_sub (fun _ h => List.mem_cons_of_mem _ (List.mem_append_left _ (List.mem_append_right _ h))) (by decide +kernel))
set_option maxRecDepth 20000 in
theorem gX0_takeIn_X0_requireNotDeparted : GoodIn wsX0_takeIn (wsV RX0 120 RX0 yX0_requireNotDeparted wsX0_requireNotDeparted) := goodIn_app (goodIn_of _ (by decide +kernel)) ggX0_takeIn_X0_requireNotDeparted
theorem dX0_takeIn_0 : decode cX0_takeIn 0 = .ok (.aload_n 0, 1) := by decide +kernel
theorem dX0_takeIn_1 : decode cX0_takeIn 1 = .ok (.iload_n 1, 1) := by decide +kernel
theorem dX0_takeIn_2 : decode cX0_takeIn 2 = .ok (.invokevirtual 85, 3) := by decide +kernel
theorem dX0_takeIn_5 : decode cX0_takeIn 5 = .ok (.aload_n 0, 1) := by decide +kernel
theorem dX0_takeIn_6 : decode cX0_takeIn 6 = .ok (.iload_n 2, 1) := by decide +kernel
theorem dX0_takeIn_7 : decode cX0_takeIn 7 = .ok (.invokevirtual 73, 3) := by decide +kernel
theorem dX0_takeIn_10 : decode cX0_takeIn 10 = .ok (.aload_n 0, 1) := by decide +kernel
theorem dX0_takeIn_11 : decode cX0_takeIn 11 = .ok (.getfield 123, 3) := by decide +kernel
theorem dX0_takeIn_14 : decode cX0_takeIn 14 = .ok (.bipush 48, 2) := by decide +kernel
theorem dX0_takeIn_16 : decode cX0_takeIn 16 = .ok (.if_icmp .lt 13, 3) := by decide +kernel
theorem dX0_takeIn_19 : decode cX0_takeIn 19 = .ok (.new 61, 3) := by decide +kernel
theorem dX0_takeIn_22 : decode cX0_takeIn 22 = .ok (.dup, 1) := by decide +kernel
theorem dX0_takeIn_23 : decode cX0_takeIn 23 = .ok (.ldc 172, 2) := by decide +kernel
theorem dX0_takeIn_25 : decode cX0_takeIn 25 = .ok (.invokespecial 65, 3) := by decide +kernel
theorem dX0_takeIn_28 : decode cX0_takeIn 28 = .ok (.athrow, 1) := by decide +kernel
theorem dX0_takeIn_29 : decode cX0_takeIn 29 = .ok (.aload_n 0, 1) := by decide +kernel
theorem dX0_takeIn_30 : decode cX0_takeIn 30 = .ok (.iload_n 1, 1) := by decide +kernel
theorem dX0_takeIn_31 : decode cX0_takeIn 31 = .ok (.invokevirtual 120, 3) := by decide +kernel
theorem dX0_takeIn_34 : decode cX0_takeIn 34 = .ok (.aload_n 0, 1) := by decide +kernel
theorem dX0_takeIn_35 : decode cX0_takeIn 35 = .ok (.getfield 123, 3) := by decide +kernel
theorem dX0_takeIn_38 : decode cX0_takeIn 38 = .ok (.istore_n 3, 1) := by decide +kernel
theorem dX0_takeIn_39 : decode cX0_takeIn 39 = .ok (.aload_n 0, 1) := by decide +kernel
theorem dX0_takeIn_40 : decode cX0_takeIn 40 = .ok (.getfield 20, 3) := by decide +kernel
theorem dX0_takeIn_43 : decode cX0_takeIn 43 = .ok (.iload_n 3, 1) := by decide +kernel
theorem dX0_takeIn_44 : decode cX0_takeIn 44 = .ok (.iload_n 1, 1) := by decide +kernel
theorem dX0_takeIn_45 : decode cX0_takeIn 45 = .ok (.iastore, 1) := by decide +kernel
theorem dX0_takeIn_46 : decode cX0_takeIn 46 = .ok (.aload_n 0, 1) := by decide +kernel
theorem dX0_takeIn_47 : decode cX0_takeIn 47 = .ok (.getfield 23, 3) := by decide +kernel
theorem dX0_takeIn_50 : decode cX0_takeIn 50 = .ok (.iload_n 3, 1) := by decide +kernel
theorem dX0_takeIn_51 : decode cX0_takeIn 51 = .ok (.iload_n 2, 1) := by decide +kernel
theorem dX0_takeIn_52 : decode cX0_takeIn 52 = .ok (.iastore, 1) := by decide +kernel
theorem dX0_takeIn_53 : decode cX0_takeIn 53 = .ok (.aload_n 0, 1) := by decide +kernel
theorem dX0_takeIn_54 : decode cX0_takeIn 54 = .ok (.getfield 29, 3) := by decide +kernel
theorem dX0_takeIn_57 : decode cX0_takeIn 57 = .ok (.iload_n 3, 1) := by decide +kernel
theorem dX0_takeIn_58 : decode cX0_takeIn 58 = .ok (.iconst 0, 1) := by decide +kernel
theorem dX0_takeIn_59 : decode cX0_takeIn 59 = .ok (.iastore, 1) := by decide +kernel
theorem dX0_takeIn_60 : decode cX0_takeIn 60 = .ok (.aload_n 0, 1) := by decide +kernel
theorem dX0_takeIn_61 : decode cX0_takeIn 61 = .ok (.dup, 1) := by decide +kernel
theorem dX0_takeIn_62 : decode cX0_takeIn 62 = .ok (.getfield 123, 3) := by decide +kernel
theorem dX0_takeIn_65 : decode cX0_takeIn 65 = .ok (.iconst 1, 1) := by decide +kernel
theorem dX0_takeIn_66 : decode cX0_takeIn 66 = .ok (.iadd, 1) := by decide +kernel
theorem dX0_takeIn_67 : decode cX0_takeIn 67 = .ok (.putfield 123, 3) := by decide +kernel
theorem dX0_takeIn_70 : decode cX0_takeIn 70 = .ok (.iload_n 3, 1) := by decide +kernel
theorem dX0_takeIn_71 : decode cX0_takeIn 71 = .ok (.ireturn, 1) := by decide +kernel
set_option maxRecDepth 20000 in
theorem ggX0_route_X0_routeTo : GoodIn wsX0_route wsX0_routeTo := goodIn_r _ [7, 8, 9, 10, 11, 12, 6, 13, 14, 15, 16, 17, 18, 19, 20, 21, 22, 23, 38, 39, 40, 41, 42, 43, 44, 45, 46, 47, 48, 49, 50, 51, 52, 53, 54] (by decide +kernel) (by decide +kernel)
set_option maxRecDepth 20000 in
theorem gX0_route_X0_routeTo : GoodIn wsX0_route (wsV RX0 174 RX0 yX0_routeTo wsX0_routeTo) := goodIn_app (goodIn_of _ (by decide +kernel)) ggX0_route_X0_routeTo
set_option maxRecDepth 20000 in
theorem ggX0_route_X0_bring : GoodIn wsX0_route wsX0_bring := goodIn_r _ [27, 9, 2, 28, 14, 29, 30, 31, 32, 33, 6, 34, 35, 36, 37, 38, 39, 40, 41, 42, 43, 44, 45, 46, 47, 48, 49, 50, 51, 52, 53, 54] (by decide +kernel) (by decide +kernel)
set_option maxRecDepth 20000 in
theorem gX0_route_X0_bring : GoodIn wsX0_route (wsV RX0 92 RX0 yX0_bring wsX0_bring) := goodIn_app (goodIn_of _ (by decide +kernel)) ggX0_route_X0_bring
theorem dX0_route_0 : decode cX0_route 0 = .ok (.aload_n 0, 1) := by decide +kernel
theorem dX0_route_1 : decode cX0_route 1 = .ok (.aload_n 0, 1) := by decide +kernel
theorem dX0_route_2 : decode cX0_route 2 = .ok (.getfield 20, 3) := by decide +kernel
theorem dX0_route_5 : decode cX0_route 5 = .ok (.iload_n 1, 1) := by decide +kernel
theorem dX0_route_6 : decode cX0_route 6 = .ok (.iaload, 1) := by decide +kernel
theorem dX0_route_7 : decode cX0_route 7 = .ok (.invokevirtual 174, 3) := by decide +kernel
theorem dX0_route_10 : decode cX0_route 10 = .ok (.istore_n 2, 1) := by decide +kernel
theorem dX0_route_11 : decode cX0_route 11 = .ok (.iload_n 2, 1) := by decide +kernel
theorem dX0_route_12 : decode cX0_route 12 = .ok (.bipush 6, 2) := by decide +kernel
theorem dX0_route_14 : decode cX0_route 14 = .ok (.if_icmp .ne 15, 3) := by decide +kernel
theorem dX0_route_17 : decode cX0_route 17 = .ok (.aload_n 0, 1) := by decide +kernel
theorem dX0_route_18 : decode cX0_route 18 = .ok (.getfield 29, 3) := by decide +kernel
theorem dX0_route_21 : decode cX0_route 21 = .ok (.iload_n 1, 1) := by decide +kernel
theorem dX0_route_22 : decode cX0_route 22 = .ok (.iaload, 1) := by decide +kernel
theorem dX0_route_23 : decode cX0_route 23 = .ok (.bipush 6, 2) := by decide +kernel
theorem dX0_route_25 : decode cX0_route 25 = .ok (.if_icmp .ne 4, 3) := by decide +kernel
theorem dX0_route_28 : decode cX0_route 28 = .ok (.return_, 1) := by decide +kernel
theorem dX0_route_29 : decode cX0_route 29 = .ok (.aload_n 0, 1) := by decide +kernel
theorem dX0_route_30 : decode cX0_route 30 = .ok (.iload_n 1, 1) := by decide +kernel
theorem dX0_route_31 : decode cX0_route 31 = .ok (.iload_n 2, 1) := by decide +kernel
theorem dX0_route_32 : decode cX0_route 32 = .ok (.invokevirtual 92, 3) := by decide +kernel
theorem dX0_route_35 : decode cX0_route 35 = .ok (.return_, 1) := by decide +kernel
set_option maxRecDepth 20000 in
theorem ggX0_routeTo_X0_hasClosed : GoodIn wsX0_routeTo wsX0_hasClosed := goodIn_r _ [7, 8, 9, 10, 11, 6, 12, 13, 18, 19, 20, 21, 22, 23, 24, 25, 26, 27, 28, 29, 30, 31, 32, 33, 34] (by decide +kernel) (by decide +kernel)
set_option maxRecDepth 20000 in
theorem gX0_routeTo_X0_hasClosed : GoodIn wsX0_routeTo (wsV RX0 177 RX0 yX0_hasClosed wsX0_hasClosed) := goodIn_app (goodIn_of _ (by decide +kernel)) ggX0_routeTo_X0_hasClosed
set_option maxRecDepth 20000 in
theorem ggX0_routeTo_X0_hasOpened : GoodIn wsX0_routeTo wsX0_hasOpened := goodIn_r _ [17, 8, 13, 18, 19, 20, 21, 22, 23, 24, 25, 26, 27, 28, 29, 30, 31, 32, 33, 34] (by decide +kernel) (by decide +kernel)
set_option maxRecDepth 20000 in
theorem gX0_routeTo_X0_hasOpened : GoodIn wsX0_routeTo (wsV RX0 180 RX0 yX0_hasOpened wsX0_hasOpened) := goodIn_app (goodIn_of _ (by decide +kernel)) ggX0_routeTo_X0_hasOpened
theorem dX0_routeTo_0 : decode cX0_routeTo 0 = .ok (.aload_n 0, 1) := by decide +kernel
theorem dX0_routeTo_1 : decode cX0_routeTo 1 = .ok (.iload_n 1, 1) := by decide +kernel
theorem dX0_routeTo_2 : decode cX0_routeTo 2 = .ok (.invokevirtual 177, 3) := by decide +kernel
theorem dX0_routeTo_5 : decode cX0_routeTo 5 = .ok (.ifCond .ne 13, 3) := by decide +kernel
theorem dX0_routeTo_8 : decode cX0_routeTo 8 = .ok (.aload_n 0, 1) := by decide +kernel
theorem dX0_routeTo_9 : decode cX0_routeTo 9 = .ok (.getfield 13, 3) := by decide +kernel
theorem dX0_routeTo_12 : decode cX0_routeTo 12 = .ok (.iload_n 1, 1) := by decide +kernel
theorem dX0_routeTo_13 : decode cX0_routeTo 13 = .ok (.iaload, 1) := by decide +kernel
theorem dX0_routeTo_14 : decode cX0_routeTo 14 = .ok (.iconst (-1), 1) := by decide +kernel
theorem dX0_routeTo_15 : decode cX0_routeTo 15 = .ok (.if_icmp .ne 6, 3) := by decide +kernel
theorem dX0_routeTo_18 : decode cX0_routeTo 18 = .ok (.bipush 11, 2) := by decide +kernel
theorem dX0_routeTo_20 : decode cX0_routeTo 20 = .ok (.ireturn, 1) := by decide +kernel
theorem dX0_routeTo_21 : decode cX0_routeTo 21 = .ok (.aload_n 0, 1) := by decide +kernel
theorem dX0_routeTo_22 : decode cX0_routeTo 22 = .ok (.iload_n 1, 1) := by decide +kernel
theorem dX0_routeTo_23 : decode cX0_routeTo 23 = .ok (.invokevirtual 180, 3) := by decide +kernel
theorem dX0_routeTo_26 : decode cX0_routeTo 26 = .ok (.ifCond .eq 6, 3) := by decide +kernel
theorem dX0_routeTo_29 : decode cX0_routeTo 29 = .ok (.bipush 7, 2) := by decide +kernel
theorem dX0_routeTo_31 : decode cX0_routeTo 31 = .ok (.ireturn, 1) := by decide +kernel
theorem dX0_routeTo_32 : decode cX0_routeTo 32 = .ok (.aload_n 0, 1) := by decide +kernel
theorem dX0_routeTo_33 : decode cX0_routeTo 33 = .ok (.getfield 38, 3) := by decide +kernel
theorem dX0_routeTo_36 : decode cX0_routeTo 36 = .ok (.iconst 5, 1) := by decide +kernel
theorem dX0_routeTo_37 : decode cX0_routeTo 37 = .ok (.iaload, 1) := by decide +kernel
theorem dX0_routeTo_38 : decode cX0_routeTo 38 = .ok (.bipush 8, 2) := by decide +kernel
theorem dX0_routeTo_40 : decode cX0_routeTo 40 = .ok (.if_icmp .ge 7, 3) := by decide +kernel
theorem dX0_routeTo_43 : decode cX0_routeTo 43 = .ok (.iconst 5, 1) := by decide +kernel
theorem dX0_routeTo_44 : decode cX0_routeTo 44 = .ok (.goto 5, 3) := by decide +kernel
theorem dX0_routeTo_47 : decode cX0_routeTo 47 = .ok (.bipush 6, 2) := by decide +kernel
theorem dX0_routeTo_49 : decode cX0_routeTo 49 = .ok (.ireturn, 1) := by decide +kernel
set_option maxRecDepth 20000 in
theorem ggX0_bring_X0_scan : GoodIn wsX0_bring wsX0_scan := goodIn_r _ [11, 6, 12, 13, 14, 4, 15, 16, 17, 18, 19, 20, 21, 22, 23, 24, 25, 26, 27, 28, 29, 30, 31] (by decide +kernel) (by decide +kernel)
set_option maxRecDepth 20000 in
theorem gX0_bring_X0_scan : GoodIn wsX0_bring (wsV RX0 183 RX0 yX0_scan wsX0_scan) := goodIn_app (goodIn_of _ (by decide +kernel)) ggX0_bring_X0_scan
theorem dX0_bring_0 : decode cX0_bring 0 = .ok (.aload_n 0, 1) := by decide +kernel
theorem dX0_bring_1 : decode cX0_bring 1 = .ok (.getfield 38, 3) := by decide +kernel
theorem dX0_bring_4 : decode cX0_bring 4 = .ok (.aload_n 0, 1) := by decide +kernel
theorem dX0_bring_5 : decode cX0_bring 5 = .ok (.getfield 29, 3) := by decide +kernel
theorem dX0_bring_8 : decode cX0_bring 8 = .ok (.iload_n 1, 1) := by decide +kernel
theorem dX0_bring_9 : decode cX0_bring 9 = .ok (.iaload, 1) := by decide +kernel
theorem dX0_bring_10 : decode cX0_bring 10 = .ok (.dup2, 1) := by decide +kernel
theorem dX0_bring_11 : decode cX0_bring 11 = .ok (.iaload, 1) := by decide +kernel
theorem dX0_bring_12 : decode cX0_bring 12 = .ok (.iconst 1, 1) := by decide +kernel
theorem dX0_bring_13 : decode cX0_bring 13 = .ok (.isub, 1) := by decide +kernel
theorem dX0_bring_14 : decode cX0_bring 14 = .ok (.iastore, 1) := by decide +kernel
theorem dX0_bring_15 : decode cX0_bring 15 = .ok (.aload_n 0, 1) := by decide +kernel
theorem dX0_bring_16 : decode cX0_bring 16 = .ok (.getfield 38, 3) := by decide +kernel
theorem dX0_bring_19 : decode cX0_bring 19 = .ok (.iload_n 2, 1) := by decide +kernel
theorem dX0_bring_20 : decode cX0_bring 20 = .ok (.dup2, 1) := by decide +kernel
theorem dX0_bring_21 : decode cX0_bring 21 = .ok (.iaload, 1) := by decide +kernel
theorem dX0_bring_22 : decode cX0_bring 22 = .ok (.iconst 1, 1) := by decide +kernel
theorem dX0_bring_23 : decode cX0_bring 23 = .ok (.iadd, 1) := by decide +kernel
theorem dX0_bring_24 : decode cX0_bring 24 = .ok (.iastore, 1) := by decide +kernel
theorem dX0_bring_25 : decode cX0_bring 25 = .ok (.aload_n 0, 1) := by decide +kernel
theorem dX0_bring_26 : decode cX0_bring 26 = .ok (.getfield 29, 3) := by decide +kernel
theorem dX0_bring_29 : decode cX0_bring 29 = .ok (.iload_n 1, 1) := by decide +kernel
theorem dX0_bring_30 : decode cX0_bring 30 = .ok (.iload_n 2, 1) := by decide +kernel
theorem dX0_bring_31 : decode cX0_bring 31 = .ok (.iastore, 1) := by decide +kernel
theorem dX0_bring_32 : decode cX0_bring 32 = .ok (.aload_n 0, 1) := by decide +kernel
theorem dX0_bring_33 : decode cX0_bring 33 = .ok (.getfield 35, 3) := by decide +kernel
theorem dX0_bring_36 : decode cX0_bring 36 = .ok (.iload_n 1, 1) := by decide +kernel
theorem dX0_bring_37 : decode cX0_bring 37 = .ok (.aload_n 0, 1) := by decide +kernel
theorem dX0_bring_38 : decode cX0_bring 38 = .ok (.getfield 66, 3) := by decide +kernel
theorem dX0_bring_41 : decode cX0_bring 41 = .ok (.iastore, 1) := by decide +kernel
theorem dX0_bring_42 : decode cX0_bring 42 = .ok (.aload_n 0, 1) := by decide +kernel
theorem dX0_bring_43 : decode cX0_bring 43 = .ok (.getfield 32, 3) := by decide +kernel
theorem dX0_bring_46 : decode cX0_bring 46 = .ok (.iload_n 1, 1) := by decide +kernel
theorem dX0_bring_47 : decode cX0_bring 47 = .ok (.aload_n 0, 1) := by decide +kernel
theorem dX0_bring_48 : decode cX0_bring 48 = .ok (.getfield 79, 3) := by decide +kernel
theorem dX0_bring_51 : decode cX0_bring 51 = .ok (.iastore, 1) := by decide +kernel
theorem dX0_bring_52 : decode cX0_bring 52 = .ok (.aload_n 0, 1) := by decide +kernel
theorem dX0_bring_53 : decode cX0_bring 53 = .ok (.iload_n 1, 1) := by decide +kernel
theorem dX0_bring_54 : decode cX0_bring 54 = .ok (.iload_n 2, 1) := by decide +kernel
theorem dX0_bring_55 : decode cX0_bring 55 = .ok (.invokevirtual 183, 3) := by decide +kernel
theorem dX0_bring_58 : decode cX0_bring 58 = .ok (.return_, 1) := by decide +kernel
theorem dX0_scan_0 : decode cX0_scan 0 = .ok (.aload_n 0, 1) := by decide +kernel
theorem dX0_scan_1 : decode cX0_scan 1 = .ok (.getfield 79, 3) := by decide +kernel
theorem dX0_scan_4 : decode cX0_scan 4 = .ok (.sipush 2048, 3) := by decide +kernel
theorem dX0_scan_7 : decode cX0_scan 7 = .ok (.if_icmp .lt 4, 3) := by decide +kernel
theorem dX0_scan_10 : decode cX0_scan 10 = .ok (.return_, 1) := by decide +kernel
theorem dX0_scan_11 : decode cX0_scan 11 = .ok (.aload_n 0, 1) := by decide +kernel
theorem dX0_scan_12 : decode cX0_scan 12 = .ok (.getfield 41, 3) := by decide +kernel
theorem dX0_scan_15 : decode cX0_scan 15 = .ok (.aload_n 0, 1) := by decide +kernel
theorem dX0_scan_16 : decode cX0_scan 16 = .ok (.getfield 79, 3) := by decide +kernel
theorem dX0_scan_19 : decode cX0_scan 19 = .ok (.iload_n 1, 1) := by decide +kernel
theorem dX0_scan_20 : decode cX0_scan 20 = .ok (.iastore, 1) := by decide +kernel
theorem dX0_scan_21 : decode cX0_scan 21 = .ok (.aload_n 0, 1) := by decide +kernel
theorem dX0_scan_22 : decode cX0_scan 22 = .ok (.getfield 44, 3) := by decide +kernel
theorem dX0_scan_25 : decode cX0_scan 25 = .ok (.aload_n 0, 1) := by decide +kernel
theorem dX0_scan_26 : decode cX0_scan 26 = .ok (.getfield 79, 3) := by decide +kernel
theorem dX0_scan_29 : decode cX0_scan 29 = .ok (.iload_n 2, 1) := by decide +kernel
theorem dX0_scan_30 : decode cX0_scan 30 = .ok (.iastore, 1) := by decide +kernel
theorem dX0_scan_31 : decode cX0_scan 31 = .ok (.aload_n 0, 1) := by decide +kernel
theorem dX0_scan_32 : decode cX0_scan 32 = .ok (.getfield 47, 3) := by decide +kernel
theorem dX0_scan_35 : decode cX0_scan 35 = .ok (.aload_n 0, 1) := by decide +kernel
theorem dX0_scan_36 : decode cX0_scan 36 = .ok (.getfield 79, 3) := by decide +kernel
theorem dX0_scan_39 : decode cX0_scan 39 = .ok (.aload_n 0, 1) := by decide +kernel
theorem dX0_scan_40 : decode cX0_scan 40 = .ok (.getfield 66, 3) := by decide +kernel
theorem dX0_scan_43 : decode cX0_scan 43 = .ok (.iastore, 1) := by decide +kernel
theorem dX0_scan_44 : decode cX0_scan 44 = .ok (.aload_n 0, 1) := by decide +kernel
theorem dX0_scan_45 : decode cX0_scan 45 = .ok (.dup, 1) := by decide +kernel
theorem dX0_scan_46 : decode cX0_scan 46 = .ok (.getfield 79, 3) := by decide +kernel
theorem dX0_scan_49 : decode cX0_scan 49 = .ok (.iconst 1, 1) := by decide +kernel
theorem dX0_scan_50 : decode cX0_scan 50 = .ok (.iadd, 1) := by decide +kernel
theorem dX0_scan_51 : decode cX0_scan 51 = .ok (.putfield 79, 3) := by decide +kernel
theorem dX0_scan_54 : decode cX0_scan 54 = .ok (.return_, 1) := by decide +kernel
set_option maxRecDepth 20000 in
theorem ggX0_passOneMinute_X0_emptyStore : GoodIn wsX0_passOneMinute wsX0_emptyStore := goodIn_r _ [6, 7, 8, 9, 5, 10, 11, 12, 13, 14, 15, 16, 17, 18, 19, 1, 20, 21, 22, 23, 24, 25, 26, 27, 28, 29, 30, 31, 32, 33, 75, 76, 77, 78, 79, 80, 81, 82, 83, 84, 85, 86, 87, 88, 89, 90, 91] (by decide +kernel) (by decide +kernel)
set_option maxRecDepth 20000 in
theorem gX0_passOneMinute_X0_emptyStore : GoodIn wsX0_passOneMinute (wsV RX0 186 RX0 yX0_emptyStore wsX0_emptyStore) := goodIn_app (goodIn_of _ (by decide +kernel)) ggX0_passOneMinute_X0_emptyStore
set_option maxRecDepth 20000 in
theorem ggX0_passOneMinute_X0_routeLoop : GoodIn wsX0_passOneMinute wsX0_routeLoop := goodIn_r _ [37, 11, 12, 13, 38, 39, 40, 5, 41, 14, 42, 43, 44, 45, 46, 47, 48, 49, 50, 1, 51, 52, 53, 54, 20, 16, 17, 18, 19, 21, 22, 23, 24, 25, 15, 26, 27, 28, 29, 30, 31, 32, 33, 75, 76, 77, 78, 79, 80, 81, 82, 83, 84, 85, 86, 87, 88, 89, 90, 91] (by decide +kernel) (by decide +kernel)
set_option maxRecDepth 20000 in
theorem gX0_passOneMinute_X0_routeLoop : GoodIn wsX0_passOneMinute (wsV RX0 189 RX0 yX0_routeLoop wsX0_routeLoop) := goodIn_app (goodIn_of _ (by decide +kernel)) ggX0_passOneMinute_X0_routeLoop
set_option maxRecDepth 20000 in
theorem ggX0_passOneMinute_X0_depart : GoodIn wsX0_passOneMinute wsX0_depart := goodIn_r _ [58, 59, 20, 1, 60, 61, 62, 5, 63, 12, 14, 64, 65, 66, 67, 13, 68, 69, 70, 71, 72, 73, 74, 21, 22, 23, 24, 11, 25, 15, 26, 27, 28, 29, 30, 31, 32, 33, 75, 76, 77, 78, 79, 80, 81, 82, 83, 84, 85, 86, 87, 88, 89, 90, 91] (by decide +kernel) (by decide +kernel)
set_option maxRecDepth 20000 in
theorem gX0_passOneMinute_X0_depart : GoodIn wsX0_passOneMinute (wsV RX0 192 RX0 yX0_depart wsX0_depart) := goodIn_app (goodIn_of _ (by decide +kernel)) ggX0_passOneMinute_X0_depart
theorem dX0_passOneMinute_0 : decode cX0_passOneMinute 0 = .ok (.aload_n 0, 1) := by decide +kernel
theorem dX0_passOneMinute_1 : decode cX0_passOneMinute 1 = .ok (.dup, 1) := by decide +kernel
theorem dX0_passOneMinute_2 : decode cX0_passOneMinute 2 = .ok (.getfield 66, 3) := by decide +kernel
theorem dX0_passOneMinute_5 : decode cX0_passOneMinute 5 = .ok (.iconst 1, 1) := by decide +kernel
theorem dX0_passOneMinute_6 : decode cX0_passOneMinute 6 = .ok (.iadd, 1) := by decide +kernel
theorem dX0_passOneMinute_7 : decode cX0_passOneMinute 7 = .ok (.putfield 66, 3) := by decide +kernel
theorem dX0_passOneMinute_10 : decode cX0_passOneMinute 10 = .ok (.aload_n 0, 1) := by decide +kernel
theorem dX0_passOneMinute_11 : decode cX0_passOneMinute 11 = .ok (.invokevirtual 186, 3) := by decide +kernel
theorem dX0_passOneMinute_14 : decode cX0_passOneMinute 14 = .ok (.aload_n 0, 1) := by decide +kernel
theorem dX0_passOneMinute_15 : decode cX0_passOneMinute 15 = .ok (.invokevirtual 189, 3) := by decide +kernel
theorem dX0_passOneMinute_18 : decode cX0_passOneMinute 18 = .ok (.aload_n 0, 1) := by decide +kernel
theorem dX0_passOneMinute_19 : decode cX0_passOneMinute 19 = .ok (.invokevirtual 192, 3) := by decide +kernel
theorem dX0_passOneMinute_22 : decode cX0_passOneMinute 22 = .ok (.return_, 1) := by decide +kernel
set_option maxRecDepth 20000 in
theorem ggX0_emptyStore_X0_firstToLeaveStore : GoodIn wsX0_emptyStore wsX0_firstToLeaveStore := goodIn_r _ [5, 6, 7, 8, 9, 10, 11, 12, 13, 4, 14, 15, 16, 30, 31, 32, 33, 34, 35, 36, 37, 38, 39, 40, 41, 42, 43, 44, 45, 46] (by decide +kernel) (by decide +kernel)
set_option maxRecDepth 20000 in
theorem gX0_emptyStore_X0_firstToLeaveStore : GoodIn wsX0_emptyStore (wsV RX0 195 RX0 yX0_firstToLeaveStore wsX0_firstToLeaveStore) := goodIn_app (goodIn_of _ (by decide +kernel)) ggX0_emptyStore_X0_firstToLeaveStore
set_option maxRecDepth 20000 in
theorem ggX0_emptyStore_X0_bring : GoodIn wsX0_emptyStore wsX0_bring := goodIn_r _ [20, 6, 8, 21, 15, 10, 22, 23, 24, 25, 4, 26, 27, 28, 29, 30, 31, 32, 33, 34, 35, 36, 37, 38, 39, 40, 41, 42, 43, 44, 45, 46] (by decide +kernel) (by decide +kernel)
set_option maxRecDepth 20000 in
theorem gX0_emptyStore_X0_bring : GoodIn wsX0_emptyStore (wsV RX0 92 RX0 yX0_bring wsX0_bring) := goodIn_app (goodIn_of _ (by decide +kernel)) ggX0_emptyStore_X0_bring
theorem dX0_emptyStore_0 : decode cX0_emptyStore 0 = .ok (.iconst 0, 1) := by decide +kernel
theorem dX0_emptyStore_1 : decode cX0_emptyStore 1 = .ok (.istore_n 1, 1) := by decide +kernel
theorem dX0_emptyStore_2 : decode cX0_emptyStore 2 = .ok (.iload_n 1, 1) := by decide +kernel
theorem dX0_emptyStore_3 : decode cX0_emptyStore 3 = .ok (.iconst 3, 1) := by decide +kernel
theorem dX0_emptyStore_4 : decode cX0_emptyStore 4 = .ok (.if_icmp .ge 27, 3) := by decide +kernel
theorem dX0_emptyStore_7 : decode cX0_emptyStore 7 = .ok (.aload_n 0, 1) := by decide +kernel
theorem dX0_emptyStore_8 : decode cX0_emptyStore 8 = .ok (.invokevirtual 195, 3) := by decide +kernel
theorem dX0_emptyStore_11 : decode cX0_emptyStore 11 = .ok (.istore_n 2, 1) := by decide +kernel
theorem dX0_emptyStore_12 : decode cX0_emptyStore 12 = .ok (.iload_n 2, 1) := by decide +kernel
theorem dX0_emptyStore_13 : decode cX0_emptyStore 13 = .ok (.iconst (-1), 1) := by decide +kernel
theorem dX0_emptyStore_14 : decode cX0_emptyStore 14 = .ok (.if_icmp .ne 4, 3) := by decide +kernel
theorem dX0_emptyStore_17 : decode cX0_emptyStore 17 = .ok (.return_, 1) := by decide +kernel
theorem dX0_emptyStore_18 : decode cX0_emptyStore 18 = .ok (.aload_n 0, 1) := by decide +kernel
theorem dX0_emptyStore_19 : decode cX0_emptyStore 19 = .ok (.iload_n 2, 1) := by decide +kernel
theorem dX0_emptyStore_20 : decode cX0_emptyStore 20 = .ok (.bipush 7, 2) := by decide +kernel
theorem dX0_emptyStore_22 : decode cX0_emptyStore 22 = .ok (.invokevirtual 92, 3) := by decide +kernel
theorem dX0_emptyStore_25 : decode cX0_emptyStore 25 = .ok (.iinc 1 1, 3) := by decide +kernel
theorem dX0_emptyStore_28 : decode cX0_emptyStore 28 = .ok (.goto (-26), 3) := by decide +kernel
theorem dX0_emptyStore_31 : decode cX0_emptyStore 31 = .ok (.return_, 1) := by decide +kernel
set_option maxRecDepth 20000 in
theorem ggX0_firstToLeaveStore_X0_hasOpened : GoodIn wsX0_firstToLeaveStore wsX0_hasOpened := goodIn_r _ [10, 11, 12, 13, 14, 15, 16, 17, 18, 19, 20, 21, 22, 23, 24, 25, 26, 27, 28, 29] (by decide +kernel) (by decide +kernel)
set_option maxRecDepth 20000 in
theorem gX0_firstToLeaveStore_X0_hasOpened : GoodIn wsX0_firstToLeaveStore (wsV RX0 180 RX0 yX0_hasOpened wsX0_hasOpened) := goodIn_app (goodIn_of _ (by decide +kernel)) ggX0_firstToLeaveStore_X0_hasOpened
theorem dX0_firstToLeaveStore_0 : decode cX0_firstToLeaveStore 0 = .ok (.aload_n 0, 1) := by decide +kernel
theorem dX0_firstToLeaveStore_1 : decode cX0_firstToLeaveStore 1 = .ok (.getfield 38, 3) := by decide +kernel
theorem dX0_firstToLeaveStore_4 : decode cX0_firstToLeaveStore 4 = .ok (.iconst 5, 1) := by decide +kernel
theorem dX0_firstToLeaveStore_5 : decode cX0_firstToLeaveStore 5 = .ok (.iaload, 1) := by decide +kernel
theorem dX0_firstToLeaveStore_6 : decode cX0_firstToLeaveStore 6 = .ok (.ifCond .ne 5, 3) := by decide +kernel
theorem dX0_firstToLeaveStore_9 : decode cX0_firstToLeaveStore 9 = .ok (.iconst (-1), 1) := by decide +kernel
theorem dX0_firstToLeaveStore_10 : decode cX0_firstToLeaveStore 10 = .ok (.ireturn, 1) := by decide +kernel
theorem dX0_firstToLeaveStore_11 : decode cX0_firstToLeaveStore 11 = .ok (.iconst (-1), 1) := by decide +kernel
theorem dX0_firstToLeaveStore_12 : decode cX0_firstToLeaveStore 12 = .ok (.istore_n 1, 1) := by decide +kernel
theorem dX0_firstToLeaveStore_13 : decode cX0_firstToLeaveStore 13 = .ok (.iconst 0, 1) := by decide +kernel
theorem dX0_firstToLeaveStore_14 : decode cX0_firstToLeaveStore 14 = .ok (.istore_n 2, 1) := by decide +kernel
theorem dX0_firstToLeaveStore_15 : decode cX0_firstToLeaveStore 15 = .ok (.iload_n 2, 1) := by decide +kernel
theorem dX0_firstToLeaveStore_16 : decode cX0_firstToLeaveStore 16 = .ok (.aload_n 0, 1) := by decide +kernel
theorem dX0_firstToLeaveStore_17 : decode cX0_firstToLeaveStore 17 = .ok (.getfield 123, 3) := by decide +kernel
theorem dX0_firstToLeaveStore_20 : decode cX0_firstToLeaveStore 20 = .ok (.if_icmp .ge 54, 3) := by decide +kernel
theorem dX0_firstToLeaveStore_23 : decode cX0_firstToLeaveStore 23 = .ok (.aload_n 0, 1) := by decide +kernel
theorem dX0_firstToLeaveStore_24 : decode cX0_firstToLeaveStore 24 = .ok (.getfield 29, 3) := by decide +kernel
theorem dX0_firstToLeaveStore_27 : decode cX0_firstToLeaveStore 27 = .ok (.iload_n 2, 1) := by decide +kernel
theorem dX0_firstToLeaveStore_28 : decode cX0_firstToLeaveStore 28 = .ok (.iaload, 1) := by decide +kernel
theorem dX0_firstToLeaveStore_29 : decode cX0_firstToLeaveStore 29 = .ok (.iconst 5, 1) := by decide +kernel
theorem dX0_firstToLeaveStore_30 : decode cX0_firstToLeaveStore 30 = .ok (.if_icmp .ne 38, 3) := by decide +kernel
theorem dX0_firstToLeaveStore_33 : decode cX0_firstToLeaveStore 33 = .ok (.aload_n 0, 1) := by decide +kernel
theorem dX0_firstToLeaveStore_34 : decode cX0_firstToLeaveStore 34 = .ok (.aload_n 0, 1) := by decide +kernel
theorem dX0_firstToLeaveStore_35 : decode cX0_firstToLeaveStore 35 = .ok (.getfield 20, 3) := by decide +kernel
theorem dX0_firstToLeaveStore_38 : decode cX0_firstToLeaveStore 38 = .ok (.iload_n 2, 1) := by decide +kernel
theorem dX0_firstToLeaveStore_39 : decode cX0_firstToLeaveStore 39 = .ok (.iaload, 1) := by decide +kernel
theorem dX0_firstToLeaveStore_40 : decode cX0_firstToLeaveStore 40 = .ok (.invokevirtual 180, 3) := by decide +kernel
theorem dX0_firstToLeaveStore_43 : decode cX0_firstToLeaveStore 43 = .ok (.ifCond .eq 25, 3) := by decide +kernel
theorem dX0_firstToLeaveStore_46 : decode cX0_firstToLeaveStore 46 = .ok (.iload_n 1, 1) := by decide +kernel
theorem dX0_firstToLeaveStore_47 : decode cX0_firstToLeaveStore 47 = .ok (.iconst (-1), 1) := by decide +kernel
theorem dX0_firstToLeaveStore_48 : decode cX0_firstToLeaveStore 48 = .ok (.if_icmp .eq 18, 3) := by decide +kernel
theorem dX0_firstToLeaveStore_51 : decode cX0_firstToLeaveStore 51 = .ok (.aload_n 0, 1) := by decide +kernel
theorem dX0_firstToLeaveStore_52 : decode cX0_firstToLeaveStore 52 = .ok (.getfield 32, 3) := by decide +kernel
theorem dX0_firstToLeaveStore_55 : decode cX0_firstToLeaveStore 55 = .ok (.iload_n 2, 1) := by decide +kernel
theorem dX0_firstToLeaveStore_56 : decode cX0_firstToLeaveStore 56 = .ok (.iaload, 1) := by decide +kernel
theorem dX0_firstToLeaveStore_57 : decode cX0_firstToLeaveStore 57 = .ok (.aload_n 0, 1) := by decide +kernel
theorem dX0_firstToLeaveStore_58 : decode cX0_firstToLeaveStore 58 = .ok (.getfield 32, 3) := by decide +kernel
theorem dX0_firstToLeaveStore_61 : decode cX0_firstToLeaveStore 61 = .ok (.iload_n 1, 1) := by decide +kernel
theorem dX0_firstToLeaveStore_62 : decode cX0_firstToLeaveStore 62 = .ok (.iaload, 1) := by decide +kernel
theorem dX0_firstToLeaveStore_63 : decode cX0_firstToLeaveStore 63 = .ok (.if_icmp .ge 5, 3) := by decide +kernel
theorem dX0_firstToLeaveStore_66 : decode cX0_firstToLeaveStore 66 = .ok (.iload_n 2, 1) := by decide +kernel
theorem dX0_firstToLeaveStore_67 : decode cX0_firstToLeaveStore 67 = .ok (.istore_n 1, 1) := by decide +kernel
theorem dX0_firstToLeaveStore_68 : decode cX0_firstToLeaveStore 68 = .ok (.iinc 2 1, 3) := by decide +kernel
theorem dX0_firstToLeaveStore_71 : decode cX0_firstToLeaveStore 71 = .ok (.goto (-56), 3) := by decide +kernel
theorem dX0_firstToLeaveStore_74 : decode cX0_firstToLeaveStore 74 = .ok (.iload_n 1, 1) := by decide +kernel
theorem dX0_firstToLeaveStore_75 : decode cX0_firstToLeaveStore 75 = .ok (.ireturn, 1) := by decide +kernel
set_option maxRecDepth 20000 in
theorem ggX0_routeLoop_X0_route : GoodIn wsX0_routeLoop wsX0_route := goodIn_r _ [8, 9, 3, 10, 11, 12, 7, 13, 14, 1, 15, 16, 17, 18, 19, 20, 21, 22, 23, 24, 25, 26, 27, 28, 29, 30, 31, 32, 33, 34, 35, 36, 37, 38, 39, 40, 41, 42, 43, 44, 45, 46, 47, 48, 49, 50, 51, 52, 53, 54, 55, 56, 57, 58, 59] (by decide +kernel) (by decide +kernel)
set_option maxRecDepth 20000 in
theorem gX0_routeLoop_X0_route : GoodIn wsX0_routeLoop (wsV RX0 96 RX0 yX0_route wsX0_route) := goodIn_app (goodIn_of _ (by decide +kernel)) ggX0_routeLoop_X0_route
theorem dX0_routeLoop_0 : decode cX0_routeLoop 0 = .ok (.aload_n 0, 1) := by decide +kernel
theorem dX0_routeLoop_1 : decode cX0_routeLoop 1 = .ok (.getfield 38, 3) := by decide +kernel
theorem dX0_routeLoop_4 : decode cX0_routeLoop 4 = .ok (.bipush 6, 2) := by decide +kernel
theorem dX0_routeLoop_6 : decode cX0_routeLoop 6 = .ok (.iaload, 1) := by decide +kernel
theorem dX0_routeLoop_7 : decode cX0_routeLoop 7 = .ok (.ifCond .ne 4, 3) := by decide +kernel
theorem dX0_routeLoop_10 : decode cX0_routeLoop 10 = .ok (.return_, 1) := by decide +kernel
theorem dX0_routeLoop_11 : decode cX0_routeLoop 11 = .ok (.iconst 0, 1) := by decide +kernel
theorem dX0_routeLoop_12 : decode cX0_routeLoop 12 = .ok (.istore_n 1, 1) := by decide +kernel
theorem dX0_routeLoop_13 : decode cX0_routeLoop 13 = .ok (.iload_n 1, 1) := by decide +kernel
theorem dX0_routeLoop_14 : decode cX0_routeLoop 14 = .ok (.aload_n 0, 1) := by decide +kernel
theorem dX0_routeLoop_15 : decode cX0_routeLoop 15 = .ok (.getfield 123, 3) := by decide +kernel
theorem dX0_routeLoop_18 : decode cX0_routeLoop 18 = .ok (.if_icmp .ge 25, 3) := by decide +kernel
theorem dX0_routeLoop_21 : decode cX0_routeLoop 21 = .ok (.aload_n 0, 1) := by decide +kernel
theorem dX0_routeLoop_22 : decode cX0_routeLoop 22 = .ok (.getfield 29, 3) := by decide +kernel
theorem dX0_routeLoop_25 : decode cX0_routeLoop 25 = .ok (.iload_n 1, 1) := by decide +kernel
theorem dX0_routeLoop_26 : decode cX0_routeLoop 26 = .ok (.iaload, 1) := by decide +kernel
theorem dX0_routeLoop_27 : decode cX0_routeLoop 27 = .ok (.bipush 6, 2) := by decide +kernel
theorem dX0_routeLoop_29 : decode cX0_routeLoop 29 = .ok (.if_icmp .ne 8, 3) := by decide +kernel
theorem dX0_routeLoop_32 : decode cX0_routeLoop 32 = .ok (.aload_n 0, 1) := by decide +kernel
theorem dX0_routeLoop_33 : decode cX0_routeLoop 33 = .ok (.iload_n 1, 1) := by decide +kernel
theorem dX0_routeLoop_34 : decode cX0_routeLoop 34 = .ok (.invokevirtual 96, 3) := by decide +kernel
theorem dX0_routeLoop_37 : decode cX0_routeLoop 37 = .ok (.iinc 1 1, 3) := by decide +kernel
theorem dX0_routeLoop_40 : decode cX0_routeLoop 40 = .ok (.goto (-27), 3) := by decide +kernel
theorem dX0_routeLoop_43 : decode cX0_routeLoop 43 = .ok (.return_, 1) := by decide +kernel
set_option maxRecDepth 20000 in
theorem ggX0_depart_X0_settleBags : GoodIn wsX0_depart wsX0_settleBags := goodIn_r _ [8, 9, 10, 11, 12, 13, 7, 14, 15, 16, 17, 18, 19, 20, 21, 22, 23, 24, 25, 26, 27, 28, 3, 29, 30, 31, 32, 33, 34, 35, 36, 37, 38, 39, 40, 41, 42, 43, 44, 45, 46, 47, 48, 49, 50, 51, 52, 53, 54] (by decide +kernel) (by decide +kernel)
set_option maxRecDepth 20000 in
theorem gX0_depart_X0_settleBags : GoodIn wsX0_depart (wsV RX0 199 RX0 yX0_settleBags wsX0_settleBags) := goodIn_app (goodIn_of _ (by decide +kernel)) ggX0_depart_X0_settleBags
theorem dX0_depart_0 : decode cX0_depart 0 = .ok (.iconst 0, 1) := by decide +kernel
theorem dX0_depart_1 : decode cX0_depart 1 = .ok (.istore_n 1, 1) := by decide +kernel
theorem dX0_depart_2 : decode cX0_depart 2 = .ok (.iload_n 1, 1) := by decide +kernel
theorem dX0_depart_3 : decode cX0_depart 3 = .ok (.aload_n 0, 1) := by decide +kernel
theorem dX0_depart_4 : decode cX0_depart 4 = .ok (.getfield 57, 3) := by decide +kernel
theorem dX0_depart_7 : decode cX0_depart 7 = .ok (.if_icmp .ge 27, 3) := by decide +kernel
theorem dX0_depart_10 : decode cX0_depart 10 = .ok (.aload_n 0, 1) := by decide +kernel
theorem dX0_depart_11 : decode cX0_depart 11 = .ok (.getfield 9, 3) := by decide +kernel
theorem dX0_depart_14 : decode cX0_depart 14 = .ok (.iload_n 1, 1) := by decide +kernel
theorem dX0_depart_15 : decode cX0_depart 15 = .ok (.iaload, 1) := by decide +kernel
theorem dX0_depart_16 : decode cX0_depart 16 = .ok (.aload_n 0, 1) := by decide +kernel
theorem dX0_depart_17 : decode cX0_depart 17 = .ok (.getfield 66, 3) := by decide +kernel
theorem dX0_depart_20 : decode cX0_depart 20 = .ok (.if_icmp .ne 8, 3) := by decide +kernel
theorem dX0_depart_23 : decode cX0_depart 23 = .ok (.aload_n 0, 1) := by decide +kernel
theorem dX0_depart_24 : decode cX0_depart 24 = .ok (.iload_n 1, 1) := by decide +kernel
theorem dX0_depart_25 : decode cX0_depart 25 = .ok (.invokevirtual 199, 3) := by decide +kernel
theorem dX0_depart_28 : decode cX0_depart 28 = .ok (.iinc 1 1, 3) := by decide +kernel
theorem dX0_depart_31 : decode cX0_depart 31 = .ok (.goto (-29), 3) := by decide +kernel
theorem dX0_depart_34 : decode cX0_depart 34 = .ok (.return_, 1) := by decide +kernel
set_option maxRecDepth 20000 in
theorem ggX0_settleBags_X0_settle : GoodIn wsX0_settleBags wsX0_settle := goodIn_r _ [7, 8, 9, 10, 11, 6, 12, 13, 14, 15, 16, 17, 18, 19, 20, 21, 22, 23, 24, 25, 26, 27, 28, 29, 30, 31, 32, 33, 34, 35, 36, 37, 38, 39, 40, 41, 42, 43, 44, 45, 46, 47, 48] (by decide +kernel) (by decide +kernel)
set_option maxRecDepth 20000 in
theorem gX0_settleBags_X0_settle : GoodIn wsX0_settleBags (wsV RX0 202 RX0 yX0_settle wsX0_settle) := goodIn_app (goodIn_of _ (by decide +kernel)) ggX0_settleBags_X0_settle
theorem dX0_settleBags_0 : decode cX0_settleBags 0 = .ok (.iconst 0, 1) := by decide +kernel
theorem dX0_settleBags_1 : decode cX0_settleBags 1 = .ok (.istore_n 2, 1) := by decide +kernel
theorem dX0_settleBags_2 : decode cX0_settleBags 2 = .ok (.iload_n 2, 1) := by decide +kernel
theorem dX0_settleBags_3 : decode cX0_settleBags 3 = .ok (.aload_n 0, 1) := by decide +kernel
theorem dX0_settleBags_4 : decode cX0_settleBags 4 = .ok (.getfield 123, 3) := by decide +kernel
theorem dX0_settleBags_7 : decode cX0_settleBags 7 = .ok (.if_icmp .ge 24, 3) := by decide +kernel
theorem dX0_settleBags_10 : decode cX0_settleBags 10 = .ok (.aload_n 0, 1) := by decide +kernel
theorem dX0_settleBags_11 : decode cX0_settleBags 11 = .ok (.getfield 20, 3) := by decide +kernel
theorem dX0_settleBags_14 : decode cX0_settleBags 14 = .ok (.iload_n 2, 1) := by decide +kernel
theorem dX0_settleBags_15 : decode cX0_settleBags 15 = .ok (.iaload, 1) := by decide +kernel
theorem dX0_settleBags_16 : decode cX0_settleBags 16 = .ok (.iload_n 1, 1) := by decide +kernel
theorem dX0_settleBags_17 : decode cX0_settleBags 17 = .ok (.if_icmp .ne 8, 3) := by decide +kernel
theorem dX0_settleBags_20 : decode cX0_settleBags 20 = .ok (.aload_n 0, 1) := by decide +kernel
theorem dX0_settleBags_21 : decode cX0_settleBags 21 = .ok (.iload_n 2, 1) := by decide +kernel
theorem dX0_settleBags_22 : decode cX0_settleBags 22 = .ok (.invokevirtual 202, 3) := by decide +kernel
theorem dX0_settleBags_25 : decode cX0_settleBags 25 = .ok (.iinc 2 1, 3) := by decide +kernel
theorem dX0_settleBags_28 : decode cX0_settleBags 28 = .ok (.goto (-26), 3) := by decide +kernel
theorem dX0_settleBags_31 : decode cX0_settleBags 31 = .ok (.return_, 1) := by decide +kernel
set_option maxRecDepth 20000 in
theorem ggX0_settle_X0_mayFly : GoodIn wsX0_settle wsX0_mayFly := goodIn_r _ [6, 7, 8, 9, 26, 27, 28, 29, 30, 31, 32, 33, 34, 35, 36, 37, 38, 39, 40, 41, 42] (by decide +kernel) (by decide +kernel)
set_option maxRecDepth 20000 in
theorem gX0_settle_X0_mayFly : GoodIn wsX0_settle (wsV RX0 139 RX0 yX0_mayFly wsX0_mayFly) := goodIn_app (goodIn_of _ (by decide +kernel)) ggX0_settle_X0_mayFly
set_option maxRecDepth 20000 in
theorem ggX0_settle_X0_bring : GoodIn wsX0_settle wsX0_bring := goodIn_r _ [13, 14, 1, 15, 16, 17, 18, 19, 20, 21, 5, 22, 23, 24, 25, 26, 27, 28, 29, 30, 31, 32, 33, 34, 35, 36, 37, 38, 39, 40, 41, 42] (by decide +kernel) (by decide +kernel)
set_option maxRecDepth 20000 in
theorem gX0_settle_X0_bring : GoodIn wsX0_settle (wsV RX0 92 RX0 yX0_bring wsX0_bring) := goodIn_app (goodIn_of _ (by decide +kernel)) ggX0_settle_X0_bring
theorem dX0_settle_0 : decode cX0_settle 0 = .ok (.aload_n 0, 1) := by decide +kernel
theorem dX0_settle_1 : decode cX0_settle 1 = .ok (.getfield 29, 3) := by decide +kernel
theorem dX0_settle_4 : decode cX0_settle 4 = .ok (.iload_n 1, 1) := by decide +kernel
theorem dX0_settle_5 : decode cX0_settle 5 = .ok (.iaload, 1) := by decide +kernel
theorem dX0_settle_6 : decode cX0_settle 6 = .ok (.istore_n 2, 1) := by decide +kernel
theorem dX0_settle_7 : decode cX0_settle 7 = .ok (.iload_n 2, 1) := by decide +kernel
theorem dX0_settle_8 : decode cX0_settle 8 = .ok (.bipush 8, 2) := by decide +kernel
theorem dX0_settle_10 : decode cX0_settle 10 = .ok (.if_icmp .ne 26, 3) := by decide +kernel
theorem dX0_settle_13 : decode cX0_settle 13 = .ok (.aload_n 0, 1) := by decide +kernel
theorem dX0_settle_14 : decode cX0_settle 14 = .ok (.iload_n 1, 1) := by decide +kernel
theorem dX0_settle_15 : decode cX0_settle 15 = .ok (.aload_n 0, 1) := by decide +kernel
theorem dX0_settle_16 : decode cX0_settle 16 = .ok (.iload_n 1, 1) := by decide +kernel
theorem dX0_settle_17 : decode cX0_settle 17 = .ok (.invokevirtual 139, 3) := by decide +kernel
theorem dX0_settle_20 : decode cX0_settle 20 = .ok (.ifCond .eq 8, 3) := by decide +kernel
theorem dX0_settle_23 : decode cX0_settle 23 = .ok (.bipush 9, 2) := by decide +kernel
theorem dX0_settle_25 : decode cX0_settle 25 = .ok (.goto 5, 3) := by decide +kernel
theorem dX0_settle_28 : decode cX0_settle 28 = .ok (.bipush 10, 2) := by decide +kernel
theorem dX0_settle_30 : decode cX0_settle 30 = .ok (.invokevirtual 92, 3) := by decide +kernel
theorem dX0_settle_33 : decode cX0_settle 33 = .ok (.goto 27, 3) := by decide +kernel
theorem dX0_settle_36 : decode cX0_settle 36 = .ok (.iload_n 2, 1) := by decide +kernel
theorem dX0_settle_37 : decode cX0_settle 37 = .ok (.iconst 5, 1) := by decide +kernel
theorem dX0_settle_38 : decode cX0_settle 38 = .ok (.if_icmp .eq 15, 3) := by decide +kernel
theorem dX0_settle_41 : decode cX0_settle 41 = .ok (.iload_n 2, 1) := by decide +kernel
theorem dX0_settle_42 : decode cX0_settle 42 = .ok (.bipush 6, 2) := by decide +kernel
theorem dX0_settle_44 : decode cX0_settle 44 = .ok (.if_icmp .eq 9, 3) := by decide +kernel
theorem dX0_settle_47 : decode cX0_settle 47 = .ok (.iload_n 2, 1) := by decide +kernel
theorem dX0_settle_48 : decode cX0_settle 48 = .ok (.bipush 7, 2) := by decide +kernel
theorem dX0_settle_50 : decode cX0_settle 50 = .ok (.if_icmp .ne 10, 3) := by decide +kernel
theorem dX0_settle_53 : decode cX0_settle 53 = .ok (.aload_n 0, 1) := by decide +kernel
theorem dX0_settle_54 : decode cX0_settle 54 = .ok (.iload_n 1, 1) := by decide +kernel
theorem dX0_settle_55 : decode cX0_settle 55 = .ok (.bipush 11, 2) := by decide +kernel
theorem dX0_settle_57 : decode cX0_settle 57 = .ok (.invokevirtual 92, 3) := by decide +kernel
theorem dX0_settle_60 : decode cX0_settle 60 = .ok (.return_, 1) := by decide +kernel
theorem dJ9_abs_0f7a4_0 : decode cJ9_abs_0f7a4 0 = .ok (.iload_n 0, 1) := by decide +kernel
theorem dJ9_abs_0f7a4_1 : decode cJ9_abs_0f7a4 1 = .ok (.ifCond .ge 8, 3) := by decide +kernel
theorem dJ9_abs_0f7a4_4 : decode cJ9_abs_0f7a4 4 = .ok (.iload_n 0, 1) := by decide +kernel
theorem dJ9_abs_0f7a4_5 : decode cJ9_abs_0f7a4 5 = .ok (.ineg, 1) := by decide +kernel
theorem dJ9_abs_0f7a4_6 : decode cJ9_abs_0f7a4 6 = .ok (.goto 4, 3) := by decide +kernel
theorem dJ9_abs_0f7a4_9 : decode cJ9_abs_0f7a4 9 = .ok (.iload_n 0, 1) := by decide +kernel
theorem dJ9_abs_0f7a4_10 : decode cJ9_abs_0f7a4 10 = .ok (.ireturn, 1) := by decide +kernel
theorem dJ9_max_7cf53_0 : decode cJ9_max_7cf53 0 = .ok (.iload_n 0, 1) := by decide +kernel
theorem dJ9_max_7cf53_1 : decode cJ9_max_7cf53 1 = .ok (.iload_n 1, 1) := by decide +kernel
theorem dJ9_max_7cf53_2 : decode cJ9_max_7cf53 2 = .ok (.if_icmp .lt 7, 3) := by decide +kernel
theorem dJ9_max_7cf53_5 : decode cJ9_max_7cf53 5 = .ok (.iload_n 0, 1) := by decide +kernel
theorem dJ9_max_7cf53_6 : decode cJ9_max_7cf53 6 = .ok (.goto 4, 3) := by decide +kernel
theorem dJ9_max_7cf53_9 : decode cJ9_max_7cf53 9 = .ok (.iload_n 1, 1) := by decide +kernel
theorem dJ9_max_7cf53_10 : decode cJ9_max_7cf53 10 = .ok (.ireturn, 1) := by decide +kernel
theorem dL_low_0 : decode cL_low 0 = .ok (.iload_n 0, 1) := by decide +kernel
theorem dL_low_1 : decode cL_low 1 = .ok (.ldc 7, 2) := by decide +kernel
theorem dL_low_3 : decode cL_low 3 = .ok (.iand, 1) := by decide +kernel
theorem dL_low_4 : decode cL_low 4 = .ok (.iload_n 1, 1) := by decide +kernel
theorem dL_low_5 : decode cL_low 5 = .ok (.irem, 1) := by decide +kernel
theorem dL_low_6 : decode cL_low 6 = .ok (.ireturn, 1) := by decide +kernel
theorem dL_cell_0 : decode cL_cell 0 = .ok (.iload_n 1, 1) := by decide +kernel
theorem dL_cell_1 : decode cL_cell 1 = .ok (.aload_n 0, 1) := by decide +kernel
theorem dL_cell_2 : decode cL_cell 2 = .ok (.arraylength, 1) := by decide +kernel
theorem dL_cell_3 : decode cL_cell 3 = .ok (.if_icmp .ge 9, 3) := by decide +kernel
theorem dL_cell_6 : decode cL_cell 6 = .ok (.aload_n 0, 1) := by decide +kernel
theorem dL_cell_7 : decode cL_cell 7 = .ok (.iload_n 1, 1) := by decide +kernel
theorem dL_cell_8 : decode cL_cell 8 = .ok (.iaload, 1) := by decide +kernel
theorem dL_cell_9 : decode cL_cell 9 = .ok (.goto 11, 3) := by decide +kernel
theorem dL_cell_12 : decode cL_cell 12 = .ok (.ldc 8, 2) := by decide +kernel
theorem dL_cell_14 : decode cL_cell 14 = .ok (.iload_n 1, 1) := by decide +kernel
theorem dL_cell_15 : decode cL_cell 15 = .ok (.imul, 1) := by decide +kernel
theorem dL_cell_16 : decode cL_cell 16 = .ok (.sipush 977, 3) := by decide +kernel
theorem dL_cell_19 : decode cL_cell 19 = .ok (.iadd, 1) := by decide +kernel
theorem dL_cell_20 : decode cL_cell 20 = .ok (.ireturn, 1) := by decide +kernel
set_option maxRecDepth 20000 in
theorem ggL_addFlight_X0_addFlight : GoodIn wsL_addFlight wsX0_addFlight := goodIn_ca (goodIn_ca (goodIn_r _ [6, 7, 8, 9, 10, 11, 12, 13, 14, 15, 16, 17, 5, 18, 19, 20, 21, 22, 23, 24, 25, 26, 27, 28, 29, 30, 31, 32, 33, 34, 35, 36, 37, 38, 39, 40, 41, 42, 43] (by decide +kernel) (by decide +kernel)) (goodIn_sub (fun _ h => List.mem_cons_of_mem _ (List.mem_append_left _ (List.mem_append_right _ h))) (by decide +kernel))) (goodIn_sub (fun _ h => List.mem_cons_of_mem _ (List.mem_append_right _ h)) (by decide +kernel))
set_option maxRecDepth 20000 in
theorem gL_addFlight_X0_addFlight : GoodIn wsL_addFlight (wsV RL 9 RX0 yX0_addFlight wsX0_addFlight) := goodIn_app (goodIn_of _ (by decide +kernel)) ggL_addFlight_X0_addFlight
theorem dL_addFlight_0 : decode cL_addFlight 0 = .ok (.aload_n 0, 1) := by decide +kernel
theorem dL_addFlight_1 : decode cL_addFlight 1 = .ok (.iload_n 1, 1) := by decide +kernel
theorem dL_addFlight_2 : decode cL_addFlight 2 = .ok (.invokevirtual 9, 3) := by decide +kernel
theorem dL_addFlight_5 : decode cL_addFlight 5 = .ok (.ireturn, 1) := by decide +kernel
theorem dL_addFlight_6 : decode cL_addFlight 6 = .ok (.astore_n 2, 1) := by decide +kernel
theorem dL_addFlight_7 : decode cL_addFlight 7 = .ok (.bipush (-3), 2) := by decide +kernel
theorem dL_addFlight_9 : decode cL_addFlight 9 = .ok (.ireturn, 1) := by decide +kernel
set_option maxRecDepth 20000 in
theorem ggL_comes_X0_transfer : GoodIn wsL_comes wsX0_transfer := goodIn_ca (goodIn_ca (goodIn_r _ [6, 7, 8, 9, 5, 10, 11, 12, 13, 14, 15, 16, 17, 18, 19, 20, 21, 22, 23, 24, 25, 26, 27, 28, 29, 30, 31, 32, 33, 34, 35, 36, 37, 38, 39, 40, 41, 42, 43, 44, 45, 46, 47, 48, 49, 50, 51, 52, 53, 54, 55, 56, 57, 58, 59, 60, 61, 62, 63, 64, 65, 66, 67, 68, 69, 74, 75, 76, 77, 78, 79, 80, 81, 82, 83, 84, 85, 86, 87, 88, 89, 90] (by decide +kernel) (by decide +kernel)) (goodIn_sub (fun _ h => List.mem_cons_of_mem _ (List.mem_append_left _ (List.mem_append_right _ h))) (by decide +kernel))) (goodIn_sub (fun _ h => List.mem_cons_of_mem _ (List.mem_append_right _ h)) (by decide +kernel))
set_option maxRecDepth 20000 in
theorem gL_comes_X0_transfer : GoodIn wsL_comes (wsV RL 17 RX0 yX0_transfer wsX0_transfer) := goodIn_app (goodIn_of _ (by decide +kernel)) ggL_comes_X0_transfer
set_option maxRecDepth 20000 in
theorem ggL_comes_X0_checkIn : GoodIn wsL_comes wsX0_checkIn := goodIn_ca (goodIn_ca (goodIn_r _ [73, 7, 8, 9, 5, 10, 11, 12, 13, 14, 15, 16, 17, 18, 19, 20, 21, 22, 23, 24, 25, 26, 27, 28, 29, 30, 31, 32, 33, 56, 57, 58, 59, 43, 60, 61, 62, 63, 64, 65, 66, 67, 68, 69, 74, 75, 76, 77, 78, 79, 80, 81, 82, 83, 84, 85, 86, 87, 88, 89, 90] (by decide +kernel) (by decide +kernel)) (goodIn_sub (fun _ h => List.mem_cons_of_mem _ (List.mem_append_left _ (List.mem_append_right _ h))) (by decide +kernel))) (goodIn_sub (fun _ h => List.mem_cons_of_mem _ (List.mem_append_right _ h)) (by decide +kernel))
set_option maxRecDepth 20000 in
theorem gL_comes_X0_checkIn : GoodIn wsL_comes (wsV RL 21 RX0 yX0_checkIn wsX0_checkIn) := goodIn_app (goodIn_of _ (by decide +kernel)) ggL_comes_X0_checkIn
theorem dL_comes_0 : decode cL_comes 0 = .ok (.iload_n 3, 1) := by decide +kernel
theorem dL_comes_1 : decode cL_comes 1 = .ok (.ifCond .eq 12, 3) := by decide +kernel
theorem dL_comes_4 : decode cL_comes 4 = .ok (.aload_n 0, 1) := by decide +kernel
theorem dL_comes_5 : decode cL_comes 5 = .ok (.iload_n 1, 1) := by decide +kernel
theorem dL_comes_6 : decode cL_comes 6 = .ok (.iload_n 2, 1) := by decide +kernel
theorem dL_comes_7 : decode cL_comes 7 = .ok (.invokevirtual 17, 3) := by decide +kernel
theorem dL_comes_10 : decode cL_comes 10 = .ok (.goto 9, 3) := by decide +kernel
theorem dL_comes_13 : decode cL_comes 13 = .ok (.aload_n 0, 1) := by decide +kernel
theorem dL_comes_14 : decode cL_comes 14 = .ok (.iload_n 1, 1) := by decide +kernel
theorem dL_comes_15 : decode cL_comes 15 = .ok (.iload_n 2, 1) := by decide +kernel
theorem dL_comes_16 : decode cL_comes 16 = .ok (.invokevirtual 21, 3) := by decide +kernel
theorem dL_comes_19 : decode cL_comes 19 = .ok (.ireturn, 1) := by decide +kernel
theorem dL_comes_20 : decode cL_comes 20 = .ok (.astore 4, 2) := by decide +kernel
theorem dL_comes_22 : decode cL_comes 22 = .ok (.bipush (-3), 2) := by decide +kernel
theorem dL_comes_24 : decode cL_comes 24 = .ok (.ireturn, 1) := by decide +kernel
set_option maxRecDepth 20000 in
theorem ggL_decide_X0_decide : GoodIn wsL_decide wsX0_decide := goodIn_ca (goodIn_ca (goodIn_r _ [6, 7, 8, 9, 10, 11, 12, 13, 14, 5, 15, 16, 17, 18, 19, 20, 21, 22, 23, 24, 25, 26, 27, 28, 29, 30, 31, 32, 33, 34, 35, 36, 37, 38, 39, 40, 41, 42, 43, 44, 45, 46, 47, 48, 49, 50, 51, 52, 53, 54, 55, 56, 57, 58, 59, 60, 61, 62, 63, 64, 65, 66, 67, 68, 69, 70, 71, 72, 73, 74, 75, 76, 77, 78] (by decide +kernel) (by decide +kernel)) (goodIn_sub (fun _ h => List.mem_cons_of_mem _ (List.mem_append_left _ (List.mem_append_right _ h))) (by decide +kernel))) (goodIn_sub (fun _ h => List.mem_cons_of_mem _ (List.mem_append_right _ h)) (by decide +kernel))
set_option maxRecDepth 20000 in
theorem gL_decide_X0_decide : GoodIn wsL_decide (wsV RL 24 RX0 yX0_decide wsX0_decide) := goodIn_app (goodIn_of _ (by decide +kernel)) ggL_decide_X0_decide
theorem dL_decide_0 : decode cL_decide 0 = .ok (.aload_n 0, 1) := by decide +kernel
theorem dL_decide_1 : decode cL_decide 1 = .ok (.iload_n 1, 1) := by decide +kernel
theorem dL_decide_2 : decode cL_decide 2 = .ok (.iload_n 2, 1) := by decide +kernel
theorem dL_decide_3 : decode cL_decide 3 = .ok (.invokevirtual 24, 3) := by decide +kernel
theorem dL_decide_6 : decode cL_decide 6 = .ok (.ireturn, 1) := by decide +kernel
theorem dL_decide_7 : decode cL_decide 7 = .ok (.astore_n 3, 1) := by decide +kernel
theorem dL_decide_8 : decode cL_decide 8 = .ok (.bipush (-3), 2) := by decide +kernel
theorem dL_decide_10 : decode cL_decide 10 = .ok (.ireturn, 1) := by decide +kernel
set_option maxRecDepth 20000 in
theorem ggL_sendOn_X0_sendOn : GoodIn wsL_sendOn wsX0_sendOn := goodIn_ca (goodIn_ca (goodIn_r _ [6, 7, 8, 9, 10, 11, 12, 13, 14, 5, 15, 16, 17, 18, 19, 20, 21, 22, 23, 24, 25, 26, 27, 28, 29, 30, 31, 32, 33, 34, 35, 36, 37, 38, 39, 40, 41, 42, 43, 44, 45, 46, 47, 48, 49, 50, 51, 52, 53, 54, 55, 56, 57, 58, 59, 60, 61, 62, 63, 64, 65, 66, 67, 68, 69, 70, 71, 72, 73, 74, 75, 76, 77, 78, 79, 80, 81, 82] (by decide +kernel) (by decide +kernel)) (goodIn_sub (fun _ h => List.mem_cons_of_mem _ (List.mem_append_left _ (List.mem_append_right _ h))) (by decide +kernel))) (goodIn_sub (fun _ h => List.mem_cons_of_mem _ (List.mem_append_right _ h)) (by decide +kernel))
set_option maxRecDepth 20000 in
theorem gL_sendOn_X0_sendOn : GoodIn wsL_sendOn (wsV RL 28 RX0 yX0_sendOn wsX0_sendOn) := goodIn_app (goodIn_of _ (by decide +kernel)) ggL_sendOn_X0_sendOn
theorem dL_sendOn_0 : decode cL_sendOn 0 = .ok (.aload_n 0, 1) := by decide +kernel
theorem dL_sendOn_1 : decode cL_sendOn 1 = .ok (.iload_n 1, 1) := by decide +kernel
theorem dL_sendOn_2 : decode cL_sendOn 2 = .ok (.iload_n 2, 1) := by decide +kernel
theorem dL_sendOn_3 : decode cL_sendOn 3 = .ok (.invokevirtual 28, 3) := by decide +kernel
theorem dL_sendOn_6 : decode cL_sendOn 6 = .ok (.ireturn, 1) := by decide +kernel
theorem dL_sendOn_7 : decode cL_sendOn 7 = .ok (.astore_n 3, 1) := by decide +kernel
theorem dL_sendOn_8 : decode cL_sendOn 8 = .ok (.bipush (-3), 2) := by decide +kernel
theorem dL_sendOn_10 : decode cL_sendOn 10 = .ok (.ireturn, 1) := by decide +kernel
set_option maxRecDepth 20000 in
theorem ggL_holds_X0_count : GoodIn wsL_holds wsX0_count := goodIn_ca (goodIn_r _ [5, 6, 7, 8, 89, 90, 91, 92, 93, 94, 95, 96, 97, 98, 99, 100, 101, 102, 103, 104, 105] (by decide +kernel) (by decide +kernel)) (goodIn_sub (fun _ h => List.mem_cons_of_mem _ (List.mem_append_left _ (List.mem_append_right _ h))) (by decide +kernel))
set_option maxRecDepth 20000 in
theorem gL_holds_X0_count : GoodIn wsL_holds (wsV RL 31 RX0 yX0_count wsX0_count) := goodIn_app (goodIn_of _ (by decide +kernel)) ggL_holds_X0_count
set_option maxRecDepth 20000 in
theorem ggL_holds_X0_atLateral : GoodIn wsL_holds wsX0_atLateral := goodIn_ca (goodIn_r _ [12, 13, 14, 15, 16, 17, 18, 89, 90, 91, 92, 93, 94, 95, 96, 97, 98, 99, 100, 101, 102, 103, 104, 105] (by decide +kernel) (by decide +kernel)) (goodIn_sub (fun _ h => List.mem_cons_of_mem _ (List.mem_append_right _ h)) (by decide +kernel))
set_option maxRecDepth 20000 in
theorem gL_holds_X0_atLateral : GoodIn wsL_holds (wsV RL 34 RX0 yX0_atLateral wsX0_atLateral) := goodIn_app (goodIn_of _ (by decide +kernel)) ggL_holds_X0_atLateral
set_option maxRecDepth 20000 in
theorem ggL_holds_X0_lateralOf : GoodIn wsL_holds wsX0_lateralOf := goodIn_ca (goodIn_r _ [22, 17, 23, 24, 25, 4, 26, 13, 14, 27, 89, 90, 91, 92, 93, 94, 95, 96, 97, 98, 99, 100, 101, 102, 103, 104, 105] (by decide +kernel) (by decide +kernel)) (goodIn_sub (fun _ h => List.mem_cons_of_mem _ (List.mem_append_right _ h)) (by decide +kernel))
set_option maxRecDepth 20000 in
theorem gL_holds_X0_lateralOf : GoodIn wsL_holds (wsV RL 37 RX0 yX0_lateralOf wsX0_lateralOf) := goodIn_app (goodIn_of _ (by decide +kernel)) ggL_holds_X0_lateralOf
set_option maxRecDepth 20000 in
theorem ggL_holds_X0_unmatched : GoodIn wsL_holds wsX0_unmatched := goodIn_ca (goodIn_r _ [31, 15, 23, 24, 25, 4, 26, 13, 14, 27, 32, 33, 34, 35, 16, 18, 36, 37, 38, 39, 40, 41, 42, 89, 90, 91, 92, 93, 94, 95, 96, 97, 98, 99, 100, 101, 102, 103, 104, 105] (by decide +kernel) (by decide +kernel)) (goodIn_sub (fun _ h => List.mem_cons_of_mem _ (List.mem_append_right _ h)) (by decide +kernel))
set_option maxRecDepth 20000 in
theorem gL_holds_X0_unmatched : GoodIn wsL_holds (wsV RL 40 RX0 yX0_unmatched wsX0_unmatched) := goodIn_app (goodIn_of _ (by decide +kernel)) ggL_holds_X0_unmatched
set_option maxRecDepth 20000 in
theorem ggL_holds_X0_untilClose : GoodIn wsL_holds wsX0_untilClose := goodIn_ca (goodIn_r _ [46, 47, 48, 49, 50, 51, 23, 24, 25, 4, 26, 13, 14, 27, 52, 53, 54, 55, 56, 89, 90, 91, 92, 93, 94, 95, 96, 97, 98, 99, 100, 101, 102, 103, 104, 105] (by decide +kernel) (by decide +kernel)) (goodIn_sub (fun _ h => List.mem_cons_of_mem _ (List.mem_append_right _ h)) (by decide +kernel))
set_option maxRecDepth 20000 in
theorem gL_holds_X0_untilClose : GoodIn wsL_holds (wsV RL 43 RX0 yX0_untilClose wsX0_untilClose) := goodIn_app (goodIn_of _ (by decide +kernel)) ggL_holds_X0_untilClose
set_option maxRecDepth 20000 in
theorem ggL_holds_X0_bags : GoodIn wsL_holds wsX0_bags := goodIn_r _ [60, 15, 89, 90, 91, 92, 93, 94, 95, 96, 97, 98, 99, 100, 101, 102, 103, 104, 105] (by decide +kernel) (by decide +kernel)
set_option maxRecDepth 20000 in
theorem gL_holds_X0_bags : GoodIn wsL_holds (wsV RL 46 RX0 yX0_bags wsX0_bags) := goodIn_app (goodIn_of _ (by decide +kernel)) ggL_holds_X0_bags
set_option maxRecDepth 20000 in
theorem ggL_holds_X0_placeOf : GoodIn wsL_holds wsX0_placeOf := goodIn_ca (goodIn_r _ [64, 16, 65, 66, 67, 4, 68, 13, 14, 15, 89, 90, 91, 92, 93, 94, 95, 96, 97, 98, 99, 100, 101, 102, 103, 104, 105] (by decide +kernel) (by decide +kernel)) (goodIn_sub (fun _ h => List.mem_cons_of_mem _ (List.mem_append_right _ h)) (by decide +kernel))
set_option maxRecDepth 20000 in
theorem gL_holds_X0_placeOf : GoodIn wsL_holds (wsV RL 50 RX0 yX0_placeOf wsX0_placeOf) := goodIn_app (goodIn_of _ (by decide +kernel)) ggL_holds_X0_placeOf
set_option maxRecDepth 20000 in
theorem ggL_holds_X0_time : GoodIn wsL_holds wsX0_time := goodIn_r _ [72, 47, 89, 90, 91, 92, 93, 94, 95, 96, 97, 98, 99, 100, 101, 102, 103, 104, 105] (by decide +kernel) (by decide +kernel)
set_option maxRecDepth 20000 in
theorem gL_holds_X0_time : GoodIn wsL_holds (wsV RL 53 RX0 yX0_time wsX0_time) := goodIn_app (goodIn_of _ (by decide +kernel)) ggL_holds_X0_time
set_option maxRecDepth 20000 in
theorem ggL_holds_X0_placeByScans : GoodIn wsL_holds wsX0_placeByScans := goodIn_ca (goodIn_ca (goodIn_r _ [76, 6, 7, 47, 77, 78, 79, 80, 65, 66, 67, 4, 68, 13, 14, 15, 89, 90, 91, 92, 93, 94, 95, 96, 97, 98, 99, 100, 101, 102, 103, 104, 105] (by decide +kernel) (by decide +kernel)) (goodIn_sub (fun _ h => List.mem_cons_of_mem _ (List.mem_append_left _ (List.mem_append_right _ h))) (by decide +kernel))) (goodIn_sub (fun _ h => List.mem_cons_of_mem _ (List.mem_append_right _ h)) (by decide +kernel))
set_option maxRecDepth 20000 in
theorem gL_holds_X0_placeByScans : GoodIn wsL_holds (wsV RL 56 RX0 yX0_placeByScans wsX0_placeByScans) := goodIn_app (goodIn_of _ (by decide +kernel)) ggL_holds_X0_placeByScans
set_option maxRecDepth 20000 in
theorem ggL_holds_X0_flightOf : GoodIn wsL_holds wsX0_flightOf := goodIn_ca (goodIn_r _ [84, 18, 65, 66, 67, 4, 68, 13, 14, 15, 89, 90, 91, 92, 93, 94, 95, 96, 97, 98, 99, 100, 101, 102, 103, 104, 105] (by decide +kernel) (by decide +kernel)) (goodIn_sub (fun _ h => List.mem_cons_of_mem _ (List.mem_append_right _ h)) (by decide +kernel))
set_option maxRecDepth 20000 in
theorem gL_holds_X0_flightOf : GoodIn wsL_holds (wsV RL 59 RX0 yX0_flightOf wsX0_flightOf) := goodIn_app (goodIn_of _ (by decide +kernel)) ggL_holds_X0_flightOf
set_option maxRecDepth 20000 in
theorem ggL_holds_X0_scans : GoodIn wsL_holds wsX0_scans := goodIn_r _ [88, 77, 89, 90, 91, 92, 93, 94, 95, 96, 97, 98, 99, 100, 101, 102, 103, 104, 105] (by decide +kernel) (by decide +kernel)
set_option maxRecDepth 20000 in
theorem gL_holds_X0_scans : GoodIn wsL_holds (wsV RL 62 RX0 yX0_scans wsX0_scans) := goodIn_app (goodIn_of _ (by decide +kernel)) ggL_holds_X0_scans
theorem dL_holds_0 : decode cL_holds 0 = .ok (.iconst 0, 1) := by decide +kernel
theorem dL_holds_1 : decode cL_holds 1 = .ok (.istore_n 2, 1) := by decide +kernel
theorem dL_holds_2 : decode cL_holds 2 = .ok (.iconst 1, 1) := by decide +kernel
theorem dL_holds_3 : decode cL_holds 3 = .ok (.istore_n 3, 1) := by decide +kernel
theorem dL_holds_4 : decode cL_holds 4 = .ok (.iconst 1, 1) := by decide +kernel
theorem dL_holds_5 : decode cL_holds 5 = .ok (.istore 4, 2) := by decide +kernel
theorem dL_holds_7 : decode cL_holds 7 = .ok (.iload 4, 2) := by decide +kernel
theorem dL_holds_9 : decode cL_holds 9 = .ok (.bipush 11, 2) := by decide +kernel
theorem dL_holds_11 : decode cL_holds 11 = .ok (.if_icmp .gt 18, 3) := by decide +kernel
theorem dL_holds_14 : decode cL_holds 14 = .ok (.iload_n 2, 1) := by decide +kernel
theorem dL_holds_15 : decode cL_holds 15 = .ok (.aload_n 0, 1) := by decide +kernel
theorem dL_holds_16 : decode cL_holds 16 = .ok (.iload 4, 2) := by decide +kernel
theorem dL_holds_18 : decode cL_holds 18 = .ok (.invokevirtual 31, 3) := by decide +kernel
theorem dL_holds_21 : decode cL_holds 21 = .ok (.iadd, 1) := by decide +kernel
theorem dL_holds_22 : decode cL_holds 22 = .ok (.istore_n 2, 1) := by decide +kernel
theorem dL_holds_23 : decode cL_holds 23 = .ok (.iinc 4 1, 3) := by decide +kernel
theorem dL_holds_26 : decode cL_holds 26 = .ok (.goto (-19), 3) := by decide +kernel
theorem dL_holds_29 : decode cL_holds 29 = .ok (.iconst 0, 1) := by decide +kernel
theorem dL_holds_30 : decode cL_holds 30 = .ok (.istore 4, 2) := by decide +kernel
theorem dL_holds_32 : decode cL_holds 32 = .ok (.iconst 0, 1) := by decide +kernel
theorem dL_holds_33 : decode cL_holds 33 = .ok (.istore 5, 2) := by decide +kernel
theorem dL_holds_35 : decode cL_holds 35 = .ok (.iload 5, 2) := by decide +kernel
theorem dL_holds_37 : decode cL_holds 37 = .ok (.iconst 4, 1) := by decide +kernel
theorem dL_holds_38 : decode cL_holds 38 = .ok (.if_icmp .ge 20, 3) := by decide +kernel
theorem dL_holds_41 : decode cL_holds 41 = .ok (.iload 4, 2) := by decide +kernel
theorem dL_holds_43 : decode cL_holds 43 = .ok (.aload_n 0, 1) := by decide +kernel
theorem dL_holds_44 : decode cL_holds 44 = .ok (.iload 5, 2) := by decide +kernel
theorem dL_holds_46 : decode cL_holds 46 = .ok (.invokevirtual 34, 3) := by decide +kernel
theorem dL_holds_49 : decode cL_holds 49 = .ok (.iadd, 1) := by decide +kernel
theorem dL_holds_50 : decode cL_holds 50 = .ok (.istore 4, 2) := by decide +kernel
theorem dL_holds_52 : decode cL_holds 52 = .ok (.iinc 5 1, 3) := by decide +kernel
theorem dL_holds_55 : decode cL_holds 55 = .ok (.goto (-20), 3) := by decide +kernel
theorem dL_holds_58 : decode cL_holds 58 = .ok (.iconst 0, 1) := by decide +kernel
theorem dL_holds_59 : decode cL_holds 59 = .ok (.istore 5, 2) := by decide +kernel
theorem dL_holds_61 : decode cL_holds 61 = .ok (.iconst 0, 1) := by decide +kernel
theorem dL_holds_62 : decode cL_holds 62 = .ok (.istore 6, 2) := by decide +kernel
theorem dL_holds_64 : decode cL_holds 64 = .ok (.iload 6, 2) := by decide +kernel
theorem dL_holds_66 : decode cL_holds 66 = .ok (.iload_n 1, 1) := by decide +kernel
theorem dL_holds_67 : decode cL_holds 67 = .ok (.if_icmp .ge 68, 3) := by decide +kernel
theorem dL_holds_70 : decode cL_holds 70 = .ok (.iload_n 3, 1) := by decide +kernel
theorem dL_holds_71 : decode cL_holds 71 = .ok (.ifCond .eq 64, 3) := by decide +kernel
theorem dL_holds_74 : decode cL_holds 74 = .ok (.aload_n 0, 1) := by decide +kernel
theorem dL_holds_75 : decode cL_holds 75 = .ok (.iload 6, 2) := by decide +kernel
theorem dL_holds_77 : decode cL_holds 77 = .ok (.invokevirtual 37, 3) := by decide +kernel
theorem dL_holds_80 : decode cL_holds 80 = .ok (.iconst (-1), 1) := by decide +kernel
theorem dL_holds_81 : decode cL_holds 81 = .ok (.if_icmp .lt 35, 3) := by decide +kernel
theorem dL_holds_84 : decode cL_holds 84 = .ok (.aload_n 0, 1) := by decide +kernel
theorem dL_holds_85 : decode cL_holds 85 = .ok (.iload 6, 2) := by decide +kernel
theorem dL_holds_87 : decode cL_holds 87 = .ok (.invokevirtual 37, 3) := by decide +kernel
theorem dL_holds_90 : decode cL_holds 90 = .ok (.iconst 3, 1) := by decide +kernel
theorem dL_holds_91 : decode cL_holds 91 = .ok (.if_icmp .gt 25, 3) := by decide +kernel
theorem dL_holds_94 : decode cL_holds 94 = .ok (.aload_n 0, 1) := by decide +kernel
theorem dL_holds_95 : decode cL_holds 95 = .ok (.iload 6, 2) := by decide +kernel
theorem dL_holds_97 : decode cL_holds 97 = .ok (.invokevirtual 40, 3) := by decide +kernel
theorem dL_holds_100 : decode cL_holds 100 = .ok (.ifCond .lt 16, 3) := by decide +kernel
theorem dL_holds_103 : decode cL_holds 103 = .ok (.aload_n 0, 1) := by decide +kernel
theorem dL_holds_104 : decode cL_holds 104 = .ok (.iload 6, 2) := by decide +kernel
theorem dL_holds_106 : decode cL_holds 106 = .ok (.invokevirtual 43, 3) := by decide +kernel
theorem dL_holds_109 : decode cL_holds 109 = .ok (.ifCond .lt 7, 3) := by decide +kernel
theorem dL_holds_112 : decode cL_holds 112 = .ok (.iconst 1, 1) := by decide +kernel
theorem dL_holds_113 : decode cL_holds 113 = .ok (.goto 4, 3) := by decide +kernel
theorem dL_holds_116 : decode cL_holds 116 = .ok (.iconst 0, 1) := by decide +kernel
theorem dL_holds_117 : decode cL_holds 117 = .ok (.istore_n 3, 1) := by decide +kernel
theorem dL_holds_118 : decode cL_holds 118 = .ok (.iload 5, 2) := by decide +kernel
theorem dL_holds_120 : decode cL_holds 120 = .ok (.aload_n 0, 1) := by decide +kernel
theorem dL_holds_121 : decode cL_holds 121 = .ok (.iload 6, 2) := by decide +kernel
theorem dL_holds_123 : decode cL_holds 123 = .ok (.invokevirtual 40, 3) := by decide +kernel
theorem dL_holds_126 : decode cL_holds 126 = .ok (.iadd, 1) := by decide +kernel
theorem dL_holds_127 : decode cL_holds 127 = .ok (.istore 5, 2) := by decide +kernel
theorem dL_holds_129 : decode cL_holds 129 = .ok (.iinc 6 1, 3) := by decide +kernel
theorem dL_holds_132 : decode cL_holds 132 = .ok (.goto (-68), 3) := by decide +kernel
theorem dL_holds_135 : decode cL_holds 135 = .ok (.iconst 0, 1) := by decide +kernel
theorem dL_holds_136 : decode cL_holds 136 = .ok (.istore 6, 2) := by decide +kernel
theorem dL_holds_138 : decode cL_holds 138 = .ok (.iload 6, 2) := by decide +kernel
theorem dL_holds_140 : decode cL_holds 140 = .ok (.aload_n 0, 1) := by decide +kernel
theorem dL_holds_141 : decode cL_holds 141 = .ok (.invokevirtual 46, 3) := by decide +kernel
theorem dL_holds_144 : decode cL_holds 144 = .ok (.if_icmp .ge 78, 3) := by decide +kernel
theorem dL_holds_147 : decode cL_holds 147 = .ok (.iload_n 3, 1) := by decide +kernel
theorem dL_holds_148 : decode cL_holds 148 = .ok (.ifCond .eq 74, 3) := by decide +kernel
theorem dL_holds_151 : decode cL_holds 151 = .ok (.aload_n 0, 1) := by decide +kernel
theorem dL_holds_152 : decode cL_holds 152 = .ok (.iload 6, 2) := by decide +kernel
theorem dL_holds_154 : decode cL_holds 154 = .ok (.invokevirtual 50, 3) := by decide +kernel
theorem dL_holds_157 : decode cL_holds 157 = .ok (.iconst 1, 1) := by decide +kernel
theorem dL_holds_158 : decode cL_holds 158 = .ok (.if_icmp .lt 56, 3) := by decide +kernel
theorem dL_holds_161 : decode cL_holds 161 = .ok (.aload_n 0, 1) := by decide +kernel
theorem dL_holds_162 : decode cL_holds 162 = .ok (.iload 6, 2) := by decide +kernel
theorem dL_holds_164 : decode cL_holds 164 = .ok (.invokevirtual 50, 3) := by decide +kernel
theorem dL_holds_167 : decode cL_holds 167 = .ok (.bipush 11, 2) := by decide +kernel
theorem dL_holds_169 : decode cL_holds 169 = .ok (.if_icmp .gt 45, 3) := by decide +kernel
theorem dL_holds_172 : decode cL_holds 172 = .ok (.aload_n 0, 1) := by decide +kernel
theorem dL_holds_173 : decode cL_holds 173 = .ok (.iload 6, 2) := by decide +kernel
theorem dL_holds_175 : decode cL_holds 175 = .ok (.aload_n 0, 1) := by decide +kernel
theorem dL_holds_176 : decode cL_holds 176 = .ok (.invokevirtual 53, 3) := by decide +kernel
theorem dL_holds_179 : decode cL_holds 179 = .ok (.invokevirtual 56, 3) := by decide +kernel
theorem dL_holds_182 : decode cL_holds 182 = .ok (.aload_n 0, 1) := by decide +kernel
theorem dL_holds_183 : decode cL_holds 183 = .ok (.iload 6, 2) := by decide +kernel
theorem dL_holds_185 : decode cL_holds 185 = .ok (.invokevirtual 50, 3) := by decide +kernel
theorem dL_holds_188 : decode cL_holds 188 = .ok (.if_icmp .ne 26, 3) := by decide +kernel
theorem dL_holds_191 : decode cL_holds 191 = .ok (.aload_n 0, 1) := by decide +kernel
theorem dL_holds_192 : decode cL_holds 192 = .ok (.iload 6, 2) := by decide +kernel
theorem dL_holds_194 : decode cL_holds 194 = .ok (.invokevirtual 59, 3) := by decide +kernel
theorem dL_holds_197 : decode cL_holds 197 = .ok (.ifCond .lt 17, 3) := by decide +kernel
theorem dL_holds_200 : decode cL_holds 200 = .ok (.aload_n 0, 1) := by decide +kernel
theorem dL_holds_201 : decode cL_holds 201 = .ok (.iload 6, 2) := by decide +kernel
theorem dL_holds_203 : decode cL_holds 203 = .ok (.invokevirtual 59, 3) := by decide +kernel
theorem dL_holds_206 : decode cL_holds 206 = .ok (.iload_n 1, 1) := by decide +kernel
theorem dL_holds_207 : decode cL_holds 207 = .ok (.if_icmp .ge 7, 3) := by decide +kernel
theorem dL_holds_210 : decode cL_holds 210 = .ok (.iconst 1, 1) := by decide +kernel
theorem dL_holds_211 : decode cL_holds 211 = .ok (.goto 4, 3) := by decide +kernel
theorem dL_holds_214 : decode cL_holds 214 = .ok (.iconst 0, 1) := by decide +kernel
theorem dL_holds_215 : decode cL_holds 215 = .ok (.istore_n 3, 1) := by decide +kernel
theorem dL_holds_216 : decode cL_holds 216 = .ok (.iinc 6 1, 3) := by decide +kernel
theorem dL_holds_219 : decode cL_holds 219 = .ok (.goto (-81), 3) := by decide +kernel
theorem dL_holds_222 : decode cL_holds 222 = .ok (.iload_n 3, 1) := by decide +kernel
theorem dL_holds_223 : decode cL_holds 223 = .ok (.ifCond .eq 58, 3) := by decide +kernel
theorem dL_holds_226 : decode cL_holds 226 = .ok (.iload_n 2, 1) := by decide +kernel
theorem dL_holds_227 : decode cL_holds 227 = .ok (.aload_n 0, 1) := by decide +kernel
theorem dL_holds_228 : decode cL_holds 228 = .ok (.invokevirtual 46, 3) := by decide +kernel
theorem dL_holds_231 : decode cL_holds 231 = .ok (.if_icmp .ne 50, 3) := by decide +kernel
theorem dL_holds_234 : decode cL_holds 234 = .ok (.aload_n 0, 1) := by decide +kernel
theorem dL_holds_235 : decode cL_holds 235 = .ok (.iconst 5, 1) := by decide +kernel
theorem dL_holds_236 : decode cL_holds 236 = .ok (.invokevirtual 31, 3) := by decide +kernel
theorem dL_holds_239 : decode cL_holds 239 = .ok (.bipush 8, 2) := by decide +kernel
theorem dL_holds_241 : decode cL_holds 241 = .ok (.if_icmp .gt 40, 3) := by decide +kernel
theorem dL_holds_244 : decode cL_holds 244 = .ok (.iload 4, 2) := by decide +kernel
theorem dL_holds_246 : decode cL_holds 246 = .ok (.aload_n 0, 1) := by decide +kernel
theorem dL_holds_247 : decode cL_holds 247 = .ok (.bipush 7, 2) := by decide +kernel
theorem dL_holds_249 : decode cL_holds 249 = .ok (.invokevirtual 31, 3) := by decide +kernel
theorem dL_holds_252 : decode cL_holds 252 = .ok (.if_icmp .ne 29, 3) := by decide +kernel
theorem dL_holds_255 : decode cL_holds 255 = .ok (.iload 5, 2) := by decide +kernel
theorem dL_holds_257 : decode cL_holds 257 = .ok (.aload_n 0, 1) := by decide +kernel
theorem dL_holds_258 : decode cL_holds 258 = .ok (.bipush 8, 2) := by decide +kernel
theorem dL_holds_260 : decode cL_holds 260 = .ok (.invokevirtual 31, 3) := by decide +kernel
theorem dL_holds_263 : decode cL_holds 263 = .ok (.if_icmp .gt 18, 3) := by decide +kernel
theorem dL_holds_266 : decode cL_holds 266 = .ok (.aload_n 0, 1) := by decide +kernel
theorem dL_holds_267 : decode cL_holds 267 = .ok (.invokevirtual 62, 3) := by decide +kernel
theorem dL_holds_270 : decode cL_holds 270 = .ok (.aload_n 0, 1) := by decide +kernel
theorem dL_holds_271 : decode cL_holds 271 = .ok (.invokevirtual 46, 3) := by decide +kernel
theorem dL_holds_274 : decode cL_holds 274 = .ok (.if_icmp .lt 7, 3) := by decide +kernel
theorem dL_holds_277 : decode cL_holds 277 = .ok (.iconst 1, 1) := by decide +kernel
theorem dL_holds_278 : decode cL_holds 278 = .ok (.goto 4, 3) := by decide +kernel
theorem dL_holds_281 : decode cL_holds 281 = .ok (.iconst 0, 1) := by decide +kernel
theorem dL_holds_282 : decode cL_holds 282 = .ok (.ireturn, 1) := by decide +kernel
set_option maxRecDepth 20000 in
theorem ggL_scanned_X0_scans : GoodIn wsL_scanned wsX0_scans := goodIn_r _ [5, 6, 33, 34, 35, 36, 37, 38, 39, 40, 41, 42, 43, 44, 45, 46, 47, 48, 49] (by decide +kernel) (by decide +kernel)
set_option maxRecDepth 20000 in
theorem gL_scanned_X0_scans : GoodIn wsL_scanned (wsV RL 62 RX0 yX0_scans wsX0_scans) := goodIn_app (goodIn_of _ (by decide +kernel)) ggL_scanned_X0_scans
set_option maxRecDepth 20000 in
theorem ggL_scanned_X0_bagOfScan : GoodIn wsL_scanned wsX0_bagOfScan := goodIn_ca (goodIn_r _ [10, 11, 12, 13, 14, 4, 15, 16, 17, 6, 33, 34, 35, 36, 37, 38, 39, 40, 41, 42, 43, 44, 45, 46, 47, 48, 49] (by decide +kernel) (by decide +kernel)) (goodIn_sub (fun _ h => List.mem_cons_of_mem _ (List.mem_append_right _ h)) (by decide +kernel))
set_option maxRecDepth 20000 in
theorem gL_scanned_X0_bagOfScan : GoodIn wsL_scanned (wsV RL 65 RX0 yX0_bagOfScan wsX0_bagOfScan) := goodIn_app (goodIn_of _ (by decide +kernel)) ggL_scanned_X0_bagOfScan
set_option maxRecDepth 20000 in
theorem ggL_scanned_X0_placeOfScan : GoodIn wsL_scanned wsX0_placeOfScan := goodIn_ca (goodIn_r _ [21, 22, 12, 13, 14, 4, 15, 16, 17, 6, 33, 34, 35, 36, 37, 38, 39, 40, 41, 42, 43, 44, 45, 46, 47, 48, 49] (by decide +kernel) (by decide +kernel)) (goodIn_sub (fun _ h => List.mem_cons_of_mem _ (List.mem_append_right _ h)) (by decide +kernel))
set_option maxRecDepth 20000 in
theorem gL_scanned_X0_placeOfScan : GoodIn wsL_scanned (wsV RL 68 RX0 yX0_placeOfScan wsX0_placeOfScan) := goodIn_app (goodIn_of _ (by decide +kernel)) ggL_scanned_X0_placeOfScan
set_option maxRecDepth 20000 in
theorem ggL_scanned_X0_placeOf : GoodIn wsL_scanned wsX0_placeOf := goodIn_ca (goodIn_r _ [26, 27, 28, 29, 30, 4, 31, 16, 17, 32, 33, 34, 35, 36, 37, 38, 39, 40, 41, 42, 43, 44, 45, 46, 47, 48, 49] (by decide +kernel) (by decide +kernel)) (goodIn_sub (fun _ h => List.mem_cons_of_mem _ (List.mem_append_right _ h)) (by decide +kernel))
set_option maxRecDepth 20000 in
theorem gL_scanned_X0_placeOf : GoodIn wsL_scanned (wsV RL 50 RX0 yX0_placeOf wsX0_placeOf) := goodIn_app (goodIn_of _ (by decide +kernel)) ggL_scanned_X0_placeOf
theorem dL_scanned_0 : decode cL_scanned 0 = .ok (.aload_n 0, 1) := by decide +kernel
theorem dL_scanned_1 : decode cL_scanned 1 = .ok (.invokevirtual 62, 3) := by decide +kernel
theorem dL_scanned_4 : decode cL_scanned 4 = .ok (.iload_n 1, 1) := by decide +kernel
theorem dL_scanned_5 : decode cL_scanned 5 = .ok (.iconst 1, 1) := by decide +kernel
theorem dL_scanned_6 : decode cL_scanned 6 = .ok (.iadd, 1) := by decide +kernel
theorem dL_scanned_7 : decode cL_scanned 7 = .ok (.if_icmp .ne 34, 3) := by decide +kernel
theorem dL_scanned_10 : decode cL_scanned 10 = .ok (.aload_n 0, 1) := by decide +kernel
theorem dL_scanned_11 : decode cL_scanned 11 = .ok (.iload_n 1, 1) := by decide +kernel
theorem dL_scanned_12 : decode cL_scanned 12 = .ok (.invokevirtual 65, 3) := by decide +kernel
theorem dL_scanned_15 : decode cL_scanned 15 = .ok (.iload_n 2, 1) := by decide +kernel
theorem dL_scanned_16 : decode cL_scanned 16 = .ok (.if_icmp .ne 25, 3) := by decide +kernel
theorem dL_scanned_19 : decode cL_scanned 19 = .ok (.aload_n 0, 1) := by decide +kernel
theorem dL_scanned_20 : decode cL_scanned 20 = .ok (.iload_n 1, 1) := by decide +kernel
theorem dL_scanned_21 : decode cL_scanned 21 = .ok (.invokevirtual 68, 3) := by decide +kernel
theorem dL_scanned_24 : decode cL_scanned 24 = .ok (.iload_n 3, 1) := by decide +kernel
theorem dL_scanned_25 : decode cL_scanned 25 = .ok (.if_icmp .ne 16, 3) := by decide +kernel
theorem dL_scanned_28 : decode cL_scanned 28 = .ok (.aload_n 0, 1) := by decide +kernel
theorem dL_scanned_29 : decode cL_scanned 29 = .ok (.iload_n 2, 1) := by decide +kernel
theorem dL_scanned_30 : decode cL_scanned 30 = .ok (.invokevirtual 50, 3) := by decide +kernel
theorem dL_scanned_33 : decode cL_scanned 33 = .ok (.iload_n 3, 1) := by decide +kernel
theorem dL_scanned_34 : decode cL_scanned 34 = .ok (.if_icmp .ne 7, 3) := by decide +kernel
theorem dL_scanned_37 : decode cL_scanned 37 = .ok (.iconst 1, 1) := by decide +kernel
theorem dL_scanned_38 : decode cL_scanned 38 = .ok (.goto 4, 3) := by decide +kernel
theorem dL_scanned_41 : decode cL_scanned 41 = .ok (.iconst 0, 1) := by decide +kernel
theorem dL_scanned_42 : decode cL_scanned 42 = .ok (.ireturn, 1) := by decide +kernel
set_option maxRecDepth 20000 in
theorem ggL_works_X0_bags : GoodIn wsL_works wsX0_bags := goodIn_r _ [5, 6, 148, 149, 150, 151, 152, 153, 154, 155, 156, 157, 158, 159, 160, 161, 162, 163, 164] (by decide +kernel) (by decide +kernel)
set_option maxRecDepth 20000 in
theorem gL_works_X0_bags : GoodIn wsL_works (wsV RL 46 RX0 yX0_bags wsX0_bags) := goodIn_app (goodIn_of _ (by decide +kernel)) ggL_works_X0_bags
set_option maxRecDepth 20000 in
theorem ggL_works_L_low : GoodIn wsL_works wsL_low := goodIn_r _ [10, 11] (by decide +kernel) (by decide +kernel)
set_option maxRecDepth 20000 in
theorem gL_works_L_low : GoodIn wsL_works (va_wsS RL 71 yL_low wsL_low) := goodIn_app (goodIn_of _ (by decide +kernel)) ggL_works_L_low
set_option maxRecDepth 20000 in
theorem ggL_works_X0_placeOf : GoodIn wsL_works wsX0_placeOf := goodIn_ca (goodIn_r _ [15, 16, 17, 18, 19, 4, 20, 21, 22, 6, 148, 149, 150, 151, 152, 153, 154, 155, 156, 157, 158, 159, 160, 161, 162, 163, 164] (by decide +kernel) (by decide +kernel)) (goodIn_sub (fun _ h => List.mem_cons_of_mem _ (List.mem_append_left _ (List.mem_append_left _ (List.mem_append_right _ h)))) (by decide +kernel))
set_option maxRecDepth 20000 in
theorem gL_works_X0_placeOf : GoodIn wsL_works (wsV RL 50 RX0 yX0_placeOf wsX0_placeOf) := goodIn_app (goodIn_of _ (by decide +kernel)) ggL_works_X0_placeOf
set_option maxRecDepth 20000 in
theorem ggL_works_X0_scans : GoodIn wsL_works wsX0_scans := goodIn_r _ [26, 27, 148, 149, 150, 151, 152, 153, 154, 155, 156, 157, 158, 159, 160, 161, 162, 163, 164] (by decide +kernel) (by decide +kernel)
set_option maxRecDepth 20000 in
theorem gL_works_X0_scans : GoodIn wsL_works (wsV RL 62 RX0 yX0_scans wsX0_scans) := goodIn_app (goodIn_of _ (by decide +kernel)) ggL_works_X0_scans
set_option maxRecDepth 20000 in
theorem ggL_works_L_decide : GoodIn wsL_works wsL_decide := goodIn_ca (goodIn_ca (goodIn_r _ [30, 31, 32, 33, 34, 4, 35, 36, 37, 16, 38, 39, 17, 18, 19, 20, 21, 22, 6, 40, 41, 42, 43, 44, 45, 46, 47, 48, 49, 50, 51, 52, 53, 54, 55, 56, 57, 58, 59, 60, 61, 62, 63, 64, 65, 66, 67, 68, 69, 70, 71, 27, 72, 73, 74, 75, 76, 77, 78, 79, 80, 81, 148, 149, 150, 151, 152, 153, 154, 155, 156, 157, 158, 159, 160, 161, 162, 163, 164] (by decide +kernel) (by decide +kernel)) (goodIn_sub (fun _ h => List.mem_cons_of_mem _ (List.mem_append_left _ (List.mem_append_right _ h))) (by decide +kernel))) (goodIn_sub (fun _ h => List.mem_cons_of_mem _ (List.mem_append_left _ (List.mem_append_left _ (List.mem_append_right _ h)))) (by decide +kernel))
set_option maxRecDepth 20000 in
theorem gL_works_L_decide : GoodIn wsL_works (va_wsS RL 76 yL_decide wsL_decide) := goodIn_app (goodIn_of _ (by decide +kernel)) ggL_works_L_decide
set_option maxRecDepth 20000 in
theorem ggL_works_L_scanned : GoodIn wsL_works wsL_scanned := goodIn_ca (goodIn_r _ [84, 23, 24, 25, 4, 26, 27, 85, 86, 87, 88, 76, 89, 90, 91, 92, 21, 22, 93, 94, 95, 96, 77, 12, 13, 14, 15, 16, 17, 18, 19, 20, 6, 148, 149, 150, 151, 152, 153, 154, 155, 156, 157, 158, 159, 160, 161, 162, 163, 164] (by decide +kernel) (by decide +kernel)) (goodIn_sub (fun _ h => List.mem_cons_of_mem _ (List.mem_append_left _ (List.mem_append_left _ (List.mem_append_right _ h)))) (by decide +kernel))
set_option maxRecDepth 20000 in
theorem gL_works_L_scanned : GoodIn wsL_works (va_wsS RL 79 yL_scanned wsL_scanned) := goodIn_app (goodIn_of _ (by decide +kernel)) ggL_works_L_scanned
set_option maxRecDepth 20000 in
theorem ggL_works_X0_letGo : GoodIn wsL_works wsX0_letGo := goodIn_ca (goodIn_ca (goodIn_r _ [100, 16, 17, 18, 19, 4, 20, 21, 22, 6, 101, 102, 103, 104, 36, 37, 43, 44, 45, 46, 47, 48, 49, 50, 51, 52, 53, 54, 55, 56, 57, 38, 58, 59, 60, 61, 62, 63, 64, 65, 66, 67, 68, 69, 70, 39, 71, 27, 72, 73, 74, 75, 76, 77, 78, 148, 149, 150, 151, 152, 153, 154, 155, 156, 157, 158, 159, 160, 161, 162, 163, 164] (by decide +kernel) (by decide +kernel)) (goodIn_sub (fun _ h => List.mem_cons_of_mem _ (List.mem_append_left _ (List.mem_append_left _ (List.mem_append_right _ h)))) (by decide +kernel))) (goodIn_sub (fun _ h => List.mem_cons_of_mem _ (List.mem_append_left _ (List.mem_append_right _ h))) (by decide +kernel))
set_option maxRecDepth 20000 in
theorem gL_works_X0_letGo : GoodIn wsL_works (wsV RL 83 RX0 yX0_letGo wsX0_letGo) := goodIn_app (goodIn_of _ (by decide +kernel)) ggL_works_X0_letGo
set_option maxRecDepth 20000 in
theorem ggL_works_X0_load : GoodIn wsL_works wsX0_load := goodIn_ca (goodIn_ca (goodIn_r _ [108, 47, 17, 18, 19, 4, 20, 21, 22, 6, 101, 102, 103, 104, 36, 37, 16, 67, 68, 69, 70, 53, 39, 38, 71, 27, 72, 73, 74, 75, 76, 77, 78, 109, 110, 111, 112, 113, 114, 115, 116, 148, 149, 150, 151, 152, 153, 154, 155, 156, 157, 158, 159, 160, 161, 162, 163, 164] (by decide +kernel) (by decide +kernel)) (goodIn_sub (fun _ h => List.mem_cons_of_mem _ (List.mem_append_left _ (List.mem_append_left _ (List.mem_append_right _ h)))) (by decide +kernel))) (goodIn_sub (fun _ h => List.mem_cons_of_mem _ (List.mem_append_left _ (List.mem_append_right _ h))) (by decide +kernel))
set_option maxRecDepth 20000 in
theorem gL_works_X0_load : GoodIn wsL_works (wsV RL 86 RX0 yX0_load wsX0_load) := goodIn_app (goodIn_of _ (by decide +kernel)) ggL_works_X0_load
set_option maxRecDepth 20000 in
theorem ggL_works_X0_count : GoodIn wsL_works wsX0_count := goodIn_ca (goodIn_r _ [120, 121, 122, 53, 148, 149, 150, 151, 152, 153, 154, 155, 156, 157, 158, 159, 160, 161, 162, 163, 164] (by decide +kernel) (by decide +kernel)) (goodIn_sub (fun _ h => List.mem_cons_of_mem _ (List.mem_append_right _ h)) (by decide +kernel))
set_option maxRecDepth 20000 in
theorem gL_works_X0_count : GoodIn wsL_works (wsV RL 31 RX0 yX0_count wsX0_count) := goodIn_app (goodIn_of _ (by decide +kernel)) ggL_works_X0_count
set_option maxRecDepth 20000 in
theorem ggL_works_X0_offload : GoodIn wsL_works wsX0_offload := goodIn_ca (goodIn_ca (goodIn_r _ [126, 47, 17, 18, 19, 4, 20, 21, 22, 6, 101, 102, 103, 104, 36, 37, 16, 67, 68, 69, 70, 53, 39, 38, 71, 27, 72, 73, 74, 75, 76, 77, 78, 109, 110, 111, 112, 113, 114, 115, 116, 148, 149, 150, 151, 152, 153, 154, 155, 156, 157, 158, 159, 160, 161, 162, 163, 164] (by decide +kernel) (by decide +kernel)) (goodIn_sub (fun _ h => List.mem_cons_of_mem _ (List.mem_append_left _ (List.mem_append_left _ (List.mem_append_right _ h)))) (by decide +kernel))) (goodIn_sub (fun _ h => List.mem_cons_of_mem _ (List.mem_append_left _ (List.mem_append_right _ h))) (by decide +kernel))
set_option maxRecDepth 20000 in
theorem gL_works_X0_offload : GoodIn wsL_works (wsV RL 89 RX0 yX0_offload wsX0_offload) := goodIn_app (goodIn_of _ (by decide +kernel)) ggL_works_X0_offload
set_option maxRecDepth 20000 in
theorem ggL_works_L_sendOn : GoodIn wsL_works wsL_sendOn := goodIn_ca (goodIn_ca (goodIn_r _ [129, 31, 130, 131, 132, 4, 133, 36, 37, 16, 47, 134, 17, 18, 19, 20, 21, 22, 6, 135, 136, 137, 138, 139, 140, 141, 142, 143, 38, 62, 43, 44, 45, 46, 48, 49, 50, 51, 52, 53, 54, 55, 56, 57, 58, 59, 60, 61, 63, 64, 65, 66, 67, 68, 69, 70, 39, 71, 27, 72, 73, 74, 75, 76, 77, 78, 148, 149, 150, 151, 152, 153, 154, 155, 156, 157, 158, 159, 160, 161, 162, 163, 164] (by decide +kernel) (by decide +kernel)) (goodIn_sub (fun _ h => List.mem_cons_of_mem _ (List.mem_append_left _ (List.mem_append_right _ h))) (by decide +kernel))) (goodIn_sub (fun _ h => List.mem_cons_of_mem _ (List.mem_append_left _ (List.mem_append_left _ (List.mem_append_right _ h)))) (by decide +kernel))
set_option maxRecDepth 20000 in
theorem gL_works_L_sendOn : GoodIn wsL_works (va_wsS RL 92 yL_sendOn wsL_sendOn) := goodIn_app (goodIn_of _ (by decide +kernel)) ggL_works_L_sendOn
set_option maxRecDepth 20000 in
theorem ggL_works_X0_flightOf : GoodIn wsL_works wsX0_flightOf := goodIn_ca (goodIn_r _ [147, 47, 17, 18, 19, 4, 20, 21, 22, 6, 148, 149, 150, 151, 152, 153, 154, 155, 156, 157, 158, 159, 160, 161, 162, 163, 164] (by decide +kernel) (by decide +kernel)) (goodIn_sub (fun _ h => List.mem_cons_of_mem _ (List.mem_append_left _ (List.mem_append_left _ (List.mem_append_right _ h)))) (by decide +kernel))
set_option maxRecDepth 20000 in
theorem gL_works_X0_flightOf : GoodIn wsL_works (wsV RL 59 RX0 yX0_flightOf wsX0_flightOf) := goodIn_app (goodIn_of _ (by decide +kernel)) ggL_works_X0_flightOf
theorem dL_works_0 : decode cL_works 0 = .ok (.iload_n 1, 1) := by decide +kernel
theorem dL_works_1 : decode cL_works 1 = .ok (.iconst 5, 1) := by decide +kernel
theorem dL_works_2 : decode cL_works 2 = .ok (.ishr, 1) := by decide +kernel
theorem dL_works_3 : decode cL_works 3 = .ok (.aload_n 0, 1) := by decide +kernel
theorem dL_works_4 : decode cL_works 4 = .ok (.invokevirtual 46, 3) := by decide +kernel
theorem dL_works_7 : decode cL_works 7 = .ok (.invokestatic 71, 3) := by decide +kernel
theorem dL_works_10 : decode cL_works 10 = .ok (.istore_n 3, 1) := by decide +kernel
theorem dL_works_11 : decode cL_works 11 = .ok (.aload_n 0, 1) := by decide +kernel
theorem dL_works_12 : decode cL_works 12 = .ok (.iload_n 3, 1) := by decide +kernel
theorem dL_works_13 : decode cL_works 13 = .ok (.invokevirtual 50, 3) := by decide +kernel
theorem dL_works_16 : decode cL_works 16 = .ok (.istore 4, 2) := by decide +kernel
theorem dL_works_18 : decode cL_works 18 = .ok (.aload_n 0, 1) := by decide +kernel
theorem dL_works_19 : decode cL_works 19 = .ok (.invokevirtual 62, 3) := by decide +kernel
theorem dL_works_22 : decode cL_works 22 = .ok (.istore 5, 2) := by decide +kernel
theorem dL_works_24 : decode cL_works 24 = .ok (.iload 4, 2) := by decide +kernel
theorem dL_works_26 : decode cL_works 26 = .ok (.iconst 3, 1) := by decide +kernel
theorem dL_works_27 : decode cL_works 27 = .ok (.if_icmp .gt 113, 3) := by decide +kernel
theorem dL_works_30 : decode cL_works 30 = .ok (.iload_n 1, 1) := by decide +kernel
theorem dL_works_31 : decode cL_works 31 = .ok (.iconst 3, 1) := by decide +kernel
theorem dL_works_32 : decode cL_works 32 = .ok (.invokestatic 71, 3) := by decide +kernel
theorem dL_works_35 : decode cL_works 35 = .ok (.ifCond .le 7, 3) := by decide +kernel
theorem dL_works_38 : decode cL_works 38 = .ok (.iconst 1, 1) := by decide +kernel
theorem dL_works_39 : decode cL_works 39 = .ok (.goto 4, 3) := by decide +kernel
theorem dL_works_42 : decode cL_works 42 = .ok (.iconst 0, 1) := by decide +kernel
theorem dL_works_43 : decode cL_works 43 = .ok (.istore 6, 2) := by decide +kernel
theorem dL_works_45 : decode cL_works 45 = .ok (.aload_n 0, 1) := by decide +kernel
theorem dL_works_46 : decode cL_works 46 = .ok (.iload_n 3, 1) := by decide +kernel
theorem dL_works_47 : decode cL_works 47 = .ok (.iload 6, 2) := by decide +kernel
theorem dL_works_49 : decode cL_works 49 = .ok (.invokestatic 76, 3) := by decide +kernel
theorem dL_works_52 : decode cL_works 52 = .ok (.istore 7, 2) := by decide +kernel
theorem dL_works_54 : decode cL_works 54 = .ok (.iload 7, 2) := by decide +kernel
theorem dL_works_56 : decode cL_works 56 = .ok (.bipush (-3), 2) := by decide +kernel
theorem dL_works_58 : decode cL_works 58 = .ok (.if_icmp .ne 20, 3) := by decide +kernel
theorem dL_works_61 : decode cL_works 61 = .ok (.aload_n 0, 1) := by decide +kernel
theorem dL_works_62 : decode cL_works 62 = .ok (.invokevirtual 62, 3) := by decide +kernel
theorem dL_works_65 : decode cL_works 65 = .ok (.iload 5, 2) := by decide +kernel
theorem dL_works_67 : decode cL_works 67 = .ok (.if_icmp .ne 7, 3) := by decide +kernel
theorem dL_works_70 : decode cL_works 70 = .ok (.iconst 1, 1) := by decide +kernel
theorem dL_works_71 : decode cL_works 71 = .ok (.goto 68, 3) := by decide +kernel
theorem dL_works_74 : decode cL_works 74 = .ok (.iconst 0, 1) := by decide +kernel
theorem dL_works_75 : decode cL_works 75 = .ok (.goto 64, 3) := by decide +kernel
theorem dL_works_78 : decode cL_works 78 = .ok (.aload_n 0, 1) := by decide +kernel
theorem dL_works_79 : decode cL_works 79 = .ok (.iload 5, 2) := by decide +kernel
theorem dL_works_81 : decode cL_works 81 = .ok (.iload_n 3, 1) := by decide +kernel
theorem dL_works_82 : decode cL_works 82 = .ok (.iload 7, 2) := by decide +kernel
theorem dL_works_84 : decode cL_works 84 = .ok (.invokestatic 79, 3) := by decide +kernel
theorem dL_works_87 : decode cL_works 87 = .ok (.ifCond .eq 51, 3) := by decide +kernel
theorem dL_works_90 : decode cL_works 90 = .ok (.iload 6, 2) := by decide +kernel
theorem dL_works_92 : decode cL_works 92 = .ok (.ifCond .eq 33, 3) := by decide +kernel
theorem dL_works_95 : decode cL_works 95 = .ok (.iload 7, 2) := by decide +kernel
theorem dL_works_97 : decode cL_works 97 = .ok (.iconst 5, 1) := by decide +kernel
theorem dL_works_98 : decode cL_works 98 = .ok (.if_icmp .eq 36, 3) := by decide +kernel
theorem dL_works_101 : decode cL_works 101 = .ok (.iload 7, 2) := by decide +kernel
theorem dL_works_103 : decode cL_works 103 = .ok (.bipush 6, 2) := by decide +kernel
theorem dL_works_105 : decode cL_works 105 = .ok (.if_icmp .eq 29, 3) := by decide +kernel
theorem dL_works_108 : decode cL_works 108 = .ok (.iload 7, 2) := by decide +kernel
theorem dL_works_110 : decode cL_works 110 = .ok (.bipush 7, 2) := by decide +kernel
theorem dL_works_112 : decode cL_works 112 = .ok (.if_icmp .eq 22, 3) := by decide +kernel
theorem dL_works_115 : decode cL_works 115 = .ok (.iload 7, 2) := by decide +kernel
theorem dL_works_117 : decode cL_works 117 = .ok (.bipush 11, 2) := by decide +kernel
theorem dL_works_119 : decode cL_works 119 = .ok (.if_icmp .ne 19, 3) := by decide +kernel
theorem dL_works_122 : decode cL_works 122 = .ok (.goto 12, 3) := by decide +kernel
theorem dL_works_125 : decode cL_works 125 = .ok (.iload 7, 2) := by decide +kernel
theorem dL_works_127 : decode cL_works 127 = .ok (.iload 4, 2) := by decide +kernel
theorem dL_works_129 : decode cL_works 129 = .ok (.iconst 1, 1) := by decide +kernel
theorem dL_works_130 : decode cL_works 130 = .ok (.iadd, 1) := by decide +kernel
theorem dL_works_131 : decode cL_works 131 = .ok (.if_icmp .ne 7, 3) := by decide +kernel
theorem dL_works_134 : decode cL_works 134 = .ok (.iconst 1, 1) := by decide +kernel
theorem dL_works_135 : decode cL_works 135 = .ok (.goto 4, 3) := by decide +kernel
theorem dL_works_138 : decode cL_works 138 = .ok (.iconst 0, 1) := by decide +kernel
theorem dL_works_139 : decode cL_works 139 = .ok (.ireturn, 1) := by decide +kernel
theorem dL_works_140 : decode cL_works 140 = .ok (.iload 4, 2) := by decide +kernel
theorem dL_works_142 : decode cL_works 142 = .ok (.iconst 4, 1) := by decide +kernel
theorem dL_works_143 : decode cL_works 143 = .ok (.if_icmp .ne 16, 3) := by decide +kernel
theorem dL_works_146 : decode cL_works 146 = .ok (.aload_n 0, 1) := by decide +kernel
theorem dL_works_147 : decode cL_works 147 = .ok (.iload 5, 2) := by decide +kernel
theorem dL_works_149 : decode cL_works 149 = .ok (.iload_n 3, 1) := by decide +kernel
theorem dL_works_150 : decode cL_works 150 = .ok (.aload_n 0, 1) := by decide +kernel
theorem dL_works_151 : decode cL_works 151 = .ok (.iload_n 3, 1) := by decide +kernel
theorem dL_works_152 : decode cL_works 152 = .ok (.invokevirtual 83, 3) := by decide +kernel
theorem dL_works_155 : decode cL_works 155 = .ok (.invokestatic 79, 3) := by decide +kernel
theorem dL_works_158 : decode cL_works 158 = .ok (.ireturn, 1) := by decide +kernel
theorem dL_works_159 : decode cL_works 159 = .ok (.iload 4, 2) := by decide +kernel
theorem dL_works_161 : decode cL_works 161 = .ok (.bipush 7, 2) := by decide +kernel
theorem dL_works_163 : decode cL_works 163 = .ok (.if_icmp .ne 45, 3) := by decide +kernel
theorem dL_works_166 : decode cL_works 166 = .ok (.aload_n 0, 1) := by decide +kernel
theorem dL_works_167 : decode cL_works 167 = .ok (.iload_n 3, 1) := by decide +kernel
theorem dL_works_168 : decode cL_works 168 = .ok (.invokevirtual 86, 3) := by decide +kernel
theorem dL_works_171 : decode cL_works 171 = .ok (.istore 6, 2) := by decide +kernel
theorem dL_works_173 : decode cL_works 173 = .ok (.iload 6, 2) := by decide +kernel
theorem dL_works_175 : decode cL_works 175 = .ok (.iconst 1, 1) := by decide +kernel
theorem dL_works_176 : decode cL_works 176 = .ok (.if_icmp .lt 30, 3) := by decide +kernel
theorem dL_works_179 : decode cL_works 179 = .ok (.iload 6, 2) := by decide +kernel
theorem dL_works_181 : decode cL_works 181 = .ok (.aload_n 0, 1) := by decide +kernel
theorem dL_works_182 : decode cL_works 182 = .ok (.bipush 8, 2) := by decide +kernel
theorem dL_works_184 : decode cL_works 184 = .ok (.invokevirtual 31, 3) := by decide +kernel
theorem dL_works_187 : decode cL_works 187 = .ok (.if_icmp .gt 19, 3) := by decide +kernel
theorem dL_works_190 : decode cL_works 190 = .ok (.aload_n 0, 1) := by decide +kernel
theorem dL_works_191 : decode cL_works 191 = .ok (.iload 5, 2) := by decide +kernel
theorem dL_works_193 : decode cL_works 193 = .ok (.iload_n 3, 1) := by decide +kernel
theorem dL_works_194 : decode cL_works 194 = .ok (.bipush 8, 2) := by decide +kernel
theorem dL_works_196 : decode cL_works 196 = .ok (.invokestatic 79, 3) := by decide +kernel
theorem dL_works_199 : decode cL_works 199 = .ok (.ifCond .eq 7, 3) := by decide +kernel
theorem dL_works_202 : decode cL_works 202 = .ok (.iconst 1, 1) := by decide +kernel
theorem dL_works_203 : decode cL_works 203 = .ok (.goto 4, 3) := by decide +kernel
theorem dL_works_206 : decode cL_works 206 = .ok (.iconst 0, 1) := by decide +kernel
theorem dL_works_207 : decode cL_works 207 = .ok (.ireturn, 1) := by decide +kernel
theorem dL_works_208 : decode cL_works 208 = .ok (.iload 4, 2) := by decide +kernel
theorem dL_works_210 : decode cL_works 210 = .ok (.bipush 8, 2) := by decide +kernel
theorem dL_works_212 : decode cL_works 212 = .ok (.if_icmp .ne 37, 3) := by decide +kernel
theorem dL_works_215 : decode cL_works 215 = .ok (.iload_n 1, 1) := by decide +kernel
theorem dL_works_216 : decode cL_works 216 = .ok (.iconst 4, 1) := by decide +kernel
theorem dL_works_217 : decode cL_works 217 = .ok (.invokestatic 71, 3) := by decide +kernel
theorem dL_works_220 : decode cL_works 220 = .ok (.ifCond .ne 29, 3) := by decide +kernel
theorem dL_works_223 : decode cL_works 223 = .ok (.aload_n 0, 1) := by decide +kernel
theorem dL_works_224 : decode cL_works 224 = .ok (.iload_n 3, 1) := by decide +kernel
theorem dL_works_225 : decode cL_works 225 = .ok (.invokevirtual 89, 3) := by decide +kernel
theorem dL_works_228 : decode cL_works 228 = .ok (.ifCond .lt 19, 3) := by decide +kernel
theorem dL_works_231 : decode cL_works 231 = .ok (.aload_n 0, 1) := by decide +kernel
theorem dL_works_232 : decode cL_works 232 = .ok (.iload 5, 2) := by decide +kernel
theorem dL_works_234 : decode cL_works 234 = .ok (.iload_n 3, 1) := by decide +kernel
theorem dL_works_235 : decode cL_works 235 = .ok (.bipush 10, 2) := by decide +kernel
theorem dL_works_237 : decode cL_works 237 = .ok (.invokestatic 79, 3) := by decide +kernel
theorem dL_works_240 : decode cL_works 240 = .ok (.ifCond .eq 7, 3) := by decide +kernel
theorem dL_works_243 : decode cL_works 243 = .ok (.iconst 1, 1) := by decide +kernel
theorem dL_works_244 : decode cL_works 244 = .ok (.goto 4, 3) := by decide +kernel
theorem dL_works_247 : decode cL_works 247 = .ok (.iconst 0, 1) := by decide +kernel
theorem dL_works_248 : decode cL_works 248 = .ok (.ireturn, 1) := by decide +kernel
theorem dL_works_249 : decode cL_works 249 = .ok (.iload 4, 2) := by decide +kernel
theorem dL_works_251 : decode cL_works 251 = .ok (.bipush 9, 2) := by decide +kernel
theorem dL_works_253 : decode cL_works 253 = .ok (.if_icmp .le 84, 3) := by decide +kernel
theorem dL_works_256 : decode cL_works 256 = .ok (.iload_n 1, 1) := by decide +kernel
theorem dL_works_257 : decode cL_works 257 = .ok (.bipush 9, 2) := by decide +kernel
theorem dL_works_259 : decode cL_works 259 = .ok (.ishr, 1) := by decide +kernel
theorem dL_works_260 : decode cL_works 260 = .ok (.iload_n 2, 1) := by decide +kernel
theorem dL_works_261 : decode cL_works 261 = .ok (.invokestatic 71, 3) := by decide +kernel
theorem dL_works_264 : decode cL_works 264 = .ok (.istore 6, 2) := by decide +kernel
theorem dL_works_266 : decode cL_works 266 = .ok (.aload_n 0, 1) := by decide +kernel
theorem dL_works_267 : decode cL_works 267 = .ok (.iload_n 3, 1) := by decide +kernel
theorem dL_works_268 : decode cL_works 268 = .ok (.iload 6, 2) := by decide +kernel
theorem dL_works_270 : decode cL_works 270 = .ok (.invokestatic 92, 3) := by decide +kernel
theorem dL_works_273 : decode cL_works 273 = .ok (.istore 7, 2) := by decide +kernel
theorem dL_works_275 : decode cL_works 275 = .ok (.iload 7, 2) := by decide +kernel
theorem dL_works_277 : decode cL_works 277 = .ok (.bipush (-3), 2) := by decide +kernel
theorem dL_works_279 : decode cL_works 279 = .ok (.if_icmp .ne 30, 3) := by decide +kernel
theorem dL_works_282 : decode cL_works 282 = .ok (.aload_n 0, 1) := by decide +kernel
theorem dL_works_283 : decode cL_works 283 = .ok (.invokevirtual 62, 3) := by decide +kernel
theorem dL_works_286 : decode cL_works 286 = .ok (.iload 5, 2) := by decide +kernel
theorem dL_works_288 : decode cL_works 288 = .ok (.if_icmp .ne 17, 3) := by decide +kernel
theorem dL_works_291 : decode cL_works 291 = .ok (.aload_n 0, 1) := by decide +kernel
theorem dL_works_292 : decode cL_works 292 = .ok (.iload_n 3, 1) := by decide +kernel
theorem dL_works_293 : decode cL_works 293 = .ok (.invokevirtual 50, 3) := by decide +kernel
theorem dL_works_296 : decode cL_works 296 = .ok (.iload 4, 2) := by decide +kernel
theorem dL_works_298 : decode cL_works 298 = .ok (.if_icmp .ne 7, 3) := by decide +kernel
theorem dL_works_301 : decode cL_works 301 = .ok (.iconst 1, 1) := by decide +kernel
theorem dL_works_302 : decode cL_works 302 = .ok (.goto 34, 3) := by decide +kernel
theorem dL_works_305 : decode cL_works 305 = .ok (.iconst 0, 1) := by decide +kernel
theorem dL_works_306 : decode cL_works 306 = .ok (.goto 30, 3) := by decide +kernel
theorem dL_works_309 : decode cL_works 309 = .ok (.aload_n 0, 1) := by decide +kernel
theorem dL_works_310 : decode cL_works 310 = .ok (.iload 5, 2) := by decide +kernel
theorem dL_works_312 : decode cL_works 312 = .ok (.iload_n 3, 1) := by decide +kernel
theorem dL_works_313 : decode cL_works 313 = .ok (.iload 7, 2) := by decide +kernel
theorem dL_works_315 : decode cL_works 315 = .ok (.invokestatic 79, 3) := by decide +kernel
theorem dL_works_318 : decode cL_works 318 = .ok (.ifCond .eq 17, 3) := by decide +kernel
theorem dL_works_321 : decode cL_works 321 = .ok (.aload_n 0, 1) := by decide +kernel
theorem dL_works_322 : decode cL_works 322 = .ok (.iload_n 3, 1) := by decide +kernel
theorem dL_works_323 : decode cL_works 323 = .ok (.invokevirtual 59, 3) := by decide +kernel
theorem dL_works_326 : decode cL_works 326 = .ok (.iload 6, 2) := by decide +kernel
theorem dL_works_328 : decode cL_works 328 = .ok (.if_icmp .ne 7, 3) := by decide +kernel
theorem dL_works_331 : decode cL_works 331 = .ok (.iconst 1, 1) := by decide +kernel
theorem dL_works_332 : decode cL_works 332 = .ok (.goto 4, 3) := by decide +kernel
theorem dL_works_335 : decode cL_works 335 = .ok (.iconst 0, 1) := by decide +kernel
theorem dL_works_336 : decode cL_works 336 = .ok (.ireturn, 1) := by decide +kernel
theorem dL_works_337 : decode cL_works 337 = .ok (.iconst 1, 1) := by decide +kernel
theorem dL_works_338 : decode cL_works 338 = .ok (.ireturn, 1) := by decide +kernel
set_option maxRecDepth 20000 in
theorem ggL_law_X0_init : GoodIn wsL_law wsX0_init := goodIn_r _ [5, 6, 7, 8, 9, 10, 11, 12, 13, 14, 15, 16, 17, 18, 19, 20, 21, 22, 23, 274, 275, 276, 277, 278, 279, 280, 281, 282, 283, 284, 285, 286, 287, 288, 289, 290] (by decide +kernel) (by decide +kernel)
set_option maxRecDepth 20000 in
theorem gL_law_X0_init : GoodIn wsL_law (wsX0_init) := ggL_law_X0_init
set_option maxRecDepth 20000 in
theorem ggL_law_X0_time : GoodIn wsL_law wsX0_time := goodIn_r _ [27, 28, 274, 275, 276, 277, 278, 279, 280, 281, 282, 283, 284, 285, 286, 287, 288, 289, 290] (by decide +kernel) (by decide +kernel)
set_option maxRecDepth 20000 in
theorem gL_law_X0_time : GoodIn wsL_law (wsV RL 53 RX0 yX0_time wsX0_time) := goodIn_app (goodIn_of _ (by decide +kernel)) ggL_law_X0_time
set_option maxRecDepth 20000 in
theorem ggL_law_X0_bags : GoodIn wsL_law wsX0_bags := goodIn_r _ [32, 33, 274, 275, 276, 277, 278, 279, 280, 281, 282, 283, 284, 285, 286, 287, 288, 289, 290] (by decide +kernel) (by decide +kernel)
set_option maxRecDepth 20000 in
theorem gL_law_X0_bags : GoodIn wsL_law (wsV RL 46 RX0 yX0_bags wsX0_bags) := goodIn_app (goodIn_of _ (by decide +kernel)) ggL_law_X0_bags
set_option maxRecDepth 20000 in
theorem ggL_law_L_holds : GoodIn wsL_law wsL_holds := goodIn_ca (goodIn_ca (goodIn_r _ [37, 38, 39, 40, 2, 41, 42, 43, 20, 44, 45, 46, 47, 48, 49, 33, 17, 11, 14, 50, 51, 52, 53, 54, 55, 56, 57, 58, 59, 60, 61, 62, 63, 64, 65, 66, 67, 68, 69, 70, 16, 13, 15, 71, 72, 73, 74, 28, 75, 76, 77, 78, 79, 80, 81, 82, 10, 29, 30, 31, 32, 83, 84, 85, 86, 87, 88, 89, 90, 24, 25, 26, 27, 91, 92, 93, 94, 95, 21, 23, 22, 96, 97, 98, 99, 100, 101, 102, 103, 274, 275, 276, 277, 278, 279, 280, 281, 282, 283, 284, 285, 286, 287, 288, 289, 290] (by decide +kernel) (by decide +kernel)) (goodIn_sub (fun _ h => List.mem_append_left _ (List.mem_append_left _ (List.mem_append_right _ h))) (by decide +kernel))) (goodIn_sub (fun _ h => List.mem_append_left _ (List.mem_append_right _ h)) (by decide +kernel))
set_option maxRecDepth 20000 in
theorem gL_law_L_holds : GoodIn wsL_law (va_wsS RL 96 yL_holds wsL_holds) := goodIn_app (goodIn_of _ (by decide +kernel)) ggL_law_L_holds
set_option maxRecDepth 20000 in
theorem ggL_law_L_cell : GoodIn wsL_law wsL_cell := goodIn_r _ [106, 107] (by decide +kernel) (by decide +kernel)
set_option maxRecDepth 20000 in
theorem gL_law_L_cell : GoodIn wsL_law (va_wsS RL 100 yL_cell wsL_cell) := goodIn_app (goodIn_of _ (by decide +kernel)) ggL_law_L_cell
set_option maxRecDepth 20000 in
theorem ggL_law_L_low : GoodIn wsL_law wsL_low := goodIn_r _ [110, 111] (by decide +kernel) (by decide +kernel)
set_option maxRecDepth 20000 in
theorem gL_law_L_low : GoodIn wsL_law (va_wsS RL 71 yL_low wsL_low) := goodIn_app (goodIn_of _ (by decide +kernel)) ggL_law_L_low
set_option maxRecDepth 20000 in
theorem ggL_law_L_addFlight : GoodIn wsL_law wsL_addFlight := goodIn_ca (goodIn_ca (goodIn_r _ [114, 115, 116, 117, 118, 2, 119, 42, 43, 120, 121, 58, 28, 11, 10, 122, 123, 124, 125, 126, 127, 128, 129, 130, 131, 77, 132, 274, 275, 276, 277, 278, 279, 280, 281, 282, 283, 284, 285, 286, 287, 288, 289, 290] (by decide +kernel) (by decide +kernel)) (goodIn_sub (fun _ h => List.mem_append_left _ (List.mem_append_left _ (List.mem_append_right _ h))) (by decide +kernel))) (goodIn_sub (fun _ h => List.mem_append_right _ h) (by decide +kernel))
set_option maxRecDepth 20000 in
theorem gL_law_L_addFlight : GoodIn wsL_law (va_wsS RL 104 yL_addFlight wsL_addFlight) := goodIn_app (goodIn_of _ (by decide +kernel)) ggL_law_L_addFlight
set_option maxRecDepth 20000 in
theorem ggL_law_X0_scans : GoodIn wsL_law wsX0_scans := goodIn_r _ [103, 95, 274, 275, 276, 277, 278, 279, 280, 281, 282, 283, 284, 285, 286, 287, 288, 289, 290] (by decide +kernel) (by decide +kernel)
set_option maxRecDepth 20000 in
theorem gL_law_X0_scans : GoodIn wsL_law (wsV RL 62 RX0 yX0_scans wsX0_scans) := goodIn_app (goodIn_of _ (by decide +kernel)) ggL_law_X0_scans
set_option maxRecDepth 20000 in
theorem ggL_law_L_comes : GoodIn wsL_law wsL_comes := goodIn_ca (goodIn_ca (goodIn_r _ [135, 115, 136, 137, 138, 2, 139, 140, 141, 142, 143, 120, 121, 33, 14, 15, 17, 54, 55, 56, 57, 48, 49, 58, 144, 145, 146, 147, 148, 149, 150, 151, 28, 10, 152, 153, 154, 155, 156, 157, 158, 159, 11, 20, 160, 161, 162, 163, 79, 80, 81, 82, 164, 165, 166, 167, 168, 169, 170, 171, 19, 18, 95, 172, 173, 174, 175, 21, 22, 23, 176, 177, 178, 179, 274, 275, 276, 277, 278, 279, 280, 281, 282, 283, 284, 285, 286, 287, 288, 289, 290] (by decide +kernel) (by decide +kernel)) (goodIn_sub (fun _ h => List.mem_append_right _ h) (by decide +kernel))) (goodIn_sub (fun _ h => List.mem_append_left _ (List.mem_append_right _ h)) (by decide +kernel))
set_option maxRecDepth 20000 in
theorem gL_law_L_comes : GoodIn wsL_law (va_wsS RL 107 yL_comes wsL_comes) := goodIn_app (goodIn_of _ (by decide +kernel)) ggL_law_L_comes
set_option maxRecDepth 20000 in
theorem ggL_law_X0_placeOf : GoodIn wsL_law wsX0_placeOf := goodIn_ca (goodIn_r _ [86, 17, 87, 88, 89, 2, 90, 48, 49, 33, 274, 275, 276, 277, 278, 279, 280, 281, 282, 283, 284, 285, 286, 287, 288, 289, 290] (by decide +kernel) (by decide +kernel)) (goodIn_sub (fun _ h => List.mem_append_left _ (List.mem_append_right _ h)) (by decide +kernel))
set_option maxRecDepth 20000 in
theorem gL_law_X0_placeOf : GoodIn wsL_law (wsV RL 50 RX0 yX0_placeOf wsX0_placeOf) := goodIn_app (goodIn_of _ (by decide +kernel)) ggL_law_X0_placeOf
set_option maxRecDepth 20000 in
theorem ggL_law_L_scanned : GoodIn wsL_law wsL_scanned := goodIn_ca (goodIn_r _ [182, 100, 101, 102, 2, 103, 95, 183, 184, 185, 186, 21, 187, 188, 189, 190, 48, 49, 191, 192, 193, 194, 22, 83, 84, 85, 86, 17, 87, 88, 89, 90, 33, 274, 275, 276, 277, 278, 279, 280, 281, 282, 283, 284, 285, 286, 287, 288, 289, 290] (by decide +kernel) (by decide +kernel)) (goodIn_sub (fun _ h => List.mem_append_left _ (List.mem_append_right _ h)) (by decide +kernel))
set_option maxRecDepth 20000 in
theorem gL_law_L_scanned : GoodIn wsL_law (va_wsS RL 79 yL_scanned wsL_scanned) := goodIn_app (goodIn_of _ (by decide +kernel)) ggL_law_L_scanned
set_option maxRecDepth 20000 in
theorem ggL_law_L_works : GoodIn wsL_law wsL_works := goodIn_ca (goodIn_ca (goodIn_ca (goodIn_r _ [197, 29, 30, 31, 2, 32, 33, 108, 109, 36, 110, 111, 83, 84, 85, 86, 17, 87, 88, 89, 90, 48, 49, 100, 101, 102, 103, 95, 198, 199, 200, 115, 201, 202, 203, 204, 120, 121, 28, 19, 205, 206, 207, 152, 153, 154, 155, 14, 156, 157, 158, 159, 11, 20, 160, 161, 162, 163, 79, 80, 81, 82, 10, 164, 165, 166, 167, 168, 169, 170, 171, 18, 172, 173, 174, 175, 21, 22, 23, 208, 209, 210, 180, 181, 182, 183, 184, 185, 186, 187, 188, 189, 190, 191, 192, 193, 194, 211, 212, 213, 214, 215, 216, 217, 218, 219, 220, 221, 222, 223, 224, 225, 226, 63, 64, 65, 66, 38, 39, 40, 41, 42, 43, 227, 228, 229, 230, 231, 232, 233, 234, 235, 236, 237, 16, 54, 55, 56, 57, 58, 148, 149, 150, 151, 96, 97, 98, 99, 274, 275, 276, 277, 278, 279, 280, 281, 282, 283, 284, 285, 286, 287, 288, 289, 290] (by decide +kernel) (by decide +kernel)) (goodIn_sub (fun _ h => List.mem_append_left _ (List.mem_append_right _ h)) (by decide +kernel))) (goodIn_sub (fun _ h => List.mem_append_right _ h) (by decide +kernel))) (goodIn_sub (fun _ h => List.mem_append_left _ (List.mem_append_left _ (List.mem_append_right _ h))) (by decide +kernel))
set_option maxRecDepth 20000 in
theorem gL_law_L_works : GoodIn wsL_law (va_wsS RL 111 yL_works wsL_works) := goodIn_app (goodIn_of _ (by decide +kernel)) ggL_law_L_works
set_option maxRecDepth 20000 in
theorem ggL_law_X0_board : GoodIn wsL_law wsX0_board := goodIn_ca (goodIn_r _ [241, 13, 144, 145, 146, 2, 147, 48, 49, 274, 275, 276, 277, 278, 279, 280, 281, 282, 283, 284, 285, 286, 287, 288, 289, 290] (by decide +kernel) (by decide +kernel)) (goodIn_sub (fun _ h => List.mem_append_left _ (List.mem_append_right _ h)) (by decide +kernel))
set_option maxRecDepth 20000 in
theorem gL_law_X0_board : GoodIn wsL_law (wsV RL 115 RX0 yX0_board wsX0_board) := goodIn_app (goodIn_of _ (by decide +kernel)) ggL_law_X0_board
set_option maxRecDepth 20000 in
theorem ggL_law_X0_pass : GoodIn wsL_law wsX0_pass := goodIn_ca (goodIn_r _ [245, 42, 43, 95, 246, 247, 248, 2, 249, 28, 250, 251, 252, 253, 254, 255, 256, 257, 20, 33, 17, 14, 18, 164, 165, 166, 167, 10, 168, 169, 170, 171, 19, 172, 173, 174, 175, 21, 22, 23, 258, 259, 260, 261, 152, 153, 154, 155, 156, 157, 158, 159, 11, 160, 161, 162, 163, 79, 80, 81, 82, 262, 263, 264, 265, 58, 266, 267, 268, 269, 270, 271, 272, 273, 67, 68, 69, 70, 16, 13, 15, 274, 275, 276, 277, 278, 279, 280, 281, 282, 283, 284, 285, 286, 287, 288, 289, 290] (by decide +kernel) (by decide +kernel)) (goodIn_sub (fun _ h => List.mem_append_left _ (List.mem_append_left _ (List.mem_append_right _ h))) (by decide +kernel))
set_option maxRecDepth 20000 in
theorem gL_law_X0_pass : GoodIn wsL_law (wsV RL 119 RX0 yX0_pass wsX0_pass) := goodIn_app (goodIn_of _ (by decide +kernel)) ggL_law_X0_pass
theorem dL_law_0 : decode cL_law 0 = .ok (.new 10, 3) := by decide +kernel
theorem dL_law_3 : decode cL_law 3 = .ok (.dup, 1) := by decide +kernel
theorem dL_law_4 : decode cL_law 4 = .ok (.invokespecial 95, 3) := by decide +kernel
theorem dL_law_7 : decode cL_law 7 = .ok (.astore_n 1, 1) := by decide +kernel
theorem dL_law_8 : decode cL_law 8 = .ok (.iconst 0, 1) := by decide +kernel
theorem dL_law_9 : decode cL_law 9 = .ok (.istore_n 2, 1) := by decide +kernel
theorem dL_law_10 : decode cL_law 10 = .ok (.aload_n 1, 1) := by decide +kernel
theorem dL_law_11 : decode cL_law 11 = .ok (.invokevirtual 53, 3) := by decide +kernel
theorem dL_law_14 : decode cL_law 14 = .ok (.ifCond .ne 22, 3) := by decide +kernel
theorem dL_law_17 : decode cL_law 17 = .ok (.aload_n 1, 1) := by decide +kernel
theorem dL_law_18 : decode cL_law 18 = .ok (.invokevirtual 46, 3) := by decide +kernel
theorem dL_law_21 : decode cL_law 21 = .ok (.ifCond .ne 15, 3) := by decide +kernel
theorem dL_law_24 : decode cL_law 24 = .ok (.aload_n 1, 1) := by decide +kernel
theorem dL_law_25 : decode cL_law 25 = .ok (.iconst 0, 1) := by decide +kernel
theorem dL_law_26 : decode cL_law 26 = .ok (.invokestatic 96, 3) := by decide +kernel
theorem dL_law_29 : decode cL_law 29 = .ok (.ifCond .eq 7, 3) := by decide +kernel
theorem dL_law_32 : decode cL_law 32 = .ok (.iconst 1, 1) := by decide +kernel
theorem dL_law_33 : decode cL_law 33 = .ok (.goto 4, 3) := by decide +kernel
theorem dL_law_36 : decode cL_law 36 = .ok (.iconst 0, 1) := by decide +kernel
theorem dL_law_37 : decode cL_law 37 = .ok (.istore_n 3, 1) := by decide +kernel
theorem dL_law_38 : decode cL_law 38 = .ok (.iconst 5, 1) := by decide +kernel
theorem dL_law_39 : decode cL_law 39 = .ok (.aload_n 0, 1) := by decide +kernel
theorem dL_law_40 : decode cL_law 40 = .ok (.iconst 0, 1) := by decide +kernel
theorem dL_law_41 : decode cL_law 41 = .ok (.invokestatic 100, 3) := by decide +kernel
theorem dL_law_44 : decode cL_law 44 = .ok (.bipush 55, 2) := by decide +kernel
theorem dL_law_46 : decode cL_law 46 = .ok (.invokestatic 71, 3) := by decide +kernel
theorem dL_law_49 : decode cL_law 49 = .ok (.iadd, 1) := by decide +kernel
theorem dL_law_50 : decode cL_law 50 = .ok (.istore 4, 2) := by decide +kernel
theorem dL_law_52 : decode cL_law 52 = .ok (.iconst 0, 1) := by decide +kernel
theorem dL_law_53 : decode cL_law 53 = .ok (.istore 5, 2) := by decide +kernel
theorem dL_law_55 : decode cL_law 55 = .ok (.iload 5, 2) := by decide +kernel
theorem dL_law_57 : decode cL_law 57 = .ok (.iload 4, 2) := by decide +kernel
theorem dL_law_59 : decode cL_law 59 = .ok (.if_icmp .ge 452, 3) := by decide +kernel
theorem dL_law_62 : decode cL_law 62 = .ok (.iload_n 3, 1) := by decide +kernel
theorem dL_law_63 : decode cL_law 63 = .ok (.ifCond .eq 448, 3) := by decide +kernel
theorem dL_law_66 : decode cL_law 66 = .ok (.aload_n 0, 1) := by decide +kernel
theorem dL_law_67 : decode cL_law 67 = .ok (.iconst 1, 1) := by decide +kernel
theorem dL_law_68 : decode cL_law 68 = .ok (.iload 5, 2) := by decide +kernel
theorem dL_law_70 : decode cL_law 70 = .ok (.iadd, 1) := by decide +kernel
theorem dL_law_71 : decode cL_law 71 = .ok (.invokestatic 100, 3) := by decide +kernel
theorem dL_law_74 : decode cL_law 74 = .ok (.istore 6, 2) := by decide +kernel
theorem dL_law_76 : decode cL_law 76 = .ok (.iload 6, 2) := by decide +kernel
theorem dL_law_78 : decode cL_law 78 = .ok (.bipush 20, 2) := by decide +kernel
theorem dL_law_80 : decode cL_law 80 = .ok (.ishr, 1) := by decide +kernel
theorem dL_law_81 : decode cL_law 81 = .ok (.bipush 14, 2) := by decide +kernel
theorem dL_law_83 : decode cL_law 83 = .ok (.invokestatic 71, 3) := by decide +kernel
theorem dL_law_86 : decode cL_law 86 = .ok (.istore 7, 2) := by decide +kernel
theorem dL_law_88 : decode cL_law 88 = .ok (.iload_n 2, 1) := by decide +kernel
theorem dL_law_89 : decode cL_law 89 = .ok (.ifCond .eq 9, 3) := by decide +kernel
theorem dL_law_92 : decode cL_law 92 = .ok (.iload 7, 2) := by decide +kernel
theorem dL_law_94 : decode cL_law 94 = .ok (.iconst 2, 1) := by decide +kernel
theorem dL_law_95 : decode cL_law 95 = .ok (.if_icmp .ge 87, 3) := by decide +kernel
theorem dL_law_98 : decode cL_law 98 = .ok (.aload_n 1, 1) := by decide +kernel
theorem dL_law_99 : decode cL_law 99 = .ok (.iconst 1, 1) := by decide +kernel
theorem dL_law_100 : decode cL_law 100 = .ok (.iload 6, 2) := by decide +kernel
theorem dL_law_102 : decode cL_law 102 = .ok (.iload 6, 2) := by decide +kernel
theorem dL_law_104 : decode cL_law 104 = .ok (.bipush 12, 2) := by decide +kernel
theorem dL_law_106 : decode cL_law 106 = .ok (.ishr, 1) := by decide +kernel
theorem dL_law_107 : decode cL_law 107 = .ok (.iconst 2, 1) := by decide +kernel
theorem dL_law_108 : decode cL_law 108 = .ok (.invokestatic 71, 3) := by decide +kernel
theorem dL_law_111 : decode cL_law 111 = .ok (.ifCond .ne 9, 3) := by decide +kernel
theorem dL_law_114 : decode cL_law 114 = .ok (.sipush 150, 3) := by decide +kernel
theorem dL_law_117 : decode cL_law 117 = .ok (.goto 5, 3) := by decide +kernel
theorem dL_law_120 : decode cL_law 120 = .ok (.bipush 90, 2) := by decide +kernel
theorem dL_law_122 : decode cL_law 122 = .ok (.invokestatic 71, 3) := by decide +kernel
theorem dL_law_125 : decode cL_law 125 = .ok (.iadd, 1) := by decide +kernel
theorem dL_law_126 : decode cL_law 126 = .ok (.invokestatic 104, 3) := by decide +kernel
theorem dL_law_129 : decode cL_law 129 = .ok (.istore 8, 2) := by decide +kernel
theorem dL_law_131 : decode cL_law 131 = .ok (.iload 8, 2) := by decide +kernel
theorem dL_law_133 : decode cL_law 133 = .ok (.bipush (-3), 2) := by decide +kernel
theorem dL_law_135 : decode cL_law 135 = .ok (.if_icmp .ne 17, 3) := by decide +kernel
theorem dL_law_138 : decode cL_law 138 = .ok (.iload_n 2, 1) := by decide +kernel
theorem dL_law_139 : decode cL_law 139 = .ok (.bipush 10, 2) := by decide +kernel
theorem dL_law_141 : decode cL_law 141 = .ok (.if_icmp .ne 7, 3) := by decide +kernel
theorem dL_law_144 : decode cL_law 144 = .ok (.iconst 1, 1) := by decide +kernel
theorem dL_law_145 : decode cL_law 145 = .ok (.goto 18, 3) := by decide +kernel
theorem dL_law_148 : decode cL_law 148 = .ok (.iconst 0, 1) := by decide +kernel
theorem dL_law_149 : decode cL_law 149 = .ok (.goto 14, 3) := by decide +kernel
theorem dL_law_152 : decode cL_law 152 = .ok (.iload 8, 2) := by decide +kernel
theorem dL_law_154 : decode cL_law 154 = .ok (.iload_n 2, 1) := by decide +kernel
theorem dL_law_155 : decode cL_law 155 = .ok (.if_icmp .ne 7, 3) := by decide +kernel
theorem dL_law_158 : decode cL_law 158 = .ok (.iconst 1, 1) := by decide +kernel
theorem dL_law_159 : decode cL_law 159 = .ok (.goto 4, 3) := by decide +kernel
theorem dL_law_162 : decode cL_law 162 = .ok (.iconst 0, 1) := by decide +kernel
theorem dL_law_163 : decode cL_law 163 = .ok (.istore_n 3, 1) := by decide +kernel
theorem dL_law_164 : decode cL_law 164 = .ok (.iload_n 2, 1) := by decide +kernel
theorem dL_law_165 : decode cL_law 165 = .ok (.iload 8, 2) := by decide +kernel
theorem dL_law_167 : decode cL_law 167 = .ok (.bipush (-3), 2) := by decide +kernel
theorem dL_law_169 : decode cL_law 169 = .ok (.if_icmp .ne 7, 3) := by decide +kernel
theorem dL_law_172 : decode cL_law 172 = .ok (.iconst 0, 1) := by decide +kernel
theorem dL_law_173 : decode cL_law 173 = .ok (.goto 4, 3) := by decide +kernel
theorem dL_law_176 : decode cL_law 176 = .ok (.iconst 1, 1) := by decide +kernel
theorem dL_law_177 : decode cL_law 177 = .ok (.iadd, 1) := by decide +kernel
theorem dL_law_178 : decode cL_law 178 = .ok (.istore_n 2, 1) := by decide +kernel
theorem dL_law_179 : decode cL_law 179 = .ok (.goto 308, 3) := by decide +kernel
theorem dL_law_182 : decode cL_law 182 = .ok (.iload 7, 2) := by decide +kernel
theorem dL_law_184 : decode cL_law 184 = .ok (.bipush 6, 2) := by decide +kernel
theorem dL_law_186 : decode cL_law 186 = .ok (.if_icmp .ge 132, 3) := by decide +kernel
theorem dL_law_189 : decode cL_law 189 = .ok (.aload_n 1, 1) := by decide +kernel
theorem dL_law_190 : decode cL_law 190 = .ok (.invokevirtual 46, 3) := by decide +kernel
theorem dL_law_193 : decode cL_law 193 = .ok (.istore 8, 2) := by decide +kernel
theorem dL_law_195 : decode cL_law 195 = .ok (.aload_n 1, 1) := by decide +kernel
theorem dL_law_196 : decode cL_law 196 = .ok (.invokevirtual 62, 3) := by decide +kernel
theorem dL_law_199 : decode cL_law 199 = .ok (.istore 9, 2) := by decide +kernel
theorem dL_law_201 : decode cL_law 201 = .ok (.aload_n 1, 1) := by decide +kernel
theorem dL_law_202 : decode cL_law 202 = .ok (.iload 6, 2) := by decide +kernel
theorem dL_law_204 : decode cL_law 204 = .ok (.iconst 3, 1) := by decide +kernel
theorem dL_law_205 : decode cL_law 205 = .ok (.ishr, 1) := by decide +kernel
theorem dL_law_206 : decode cL_law 206 = .ok (.iload_n 2, 1) := by decide +kernel
theorem dL_law_207 : decode cL_law 207 = .ok (.invokestatic 71, 3) := by decide +kernel
theorem dL_law_210 : decode cL_law 210 = .ok (.iload 6, 2) := by decide +kernel
theorem dL_law_212 : decode cL_law 212 = .ok (.bipush 7, 2) := by decide +kernel
theorem dL_law_214 : decode cL_law 214 = .ok (.ishr, 1) := by decide +kernel
theorem dL_law_215 : decode cL_law 215 = .ok (.bipush 40, 2) := by decide +kernel
theorem dL_law_217 : decode cL_law 217 = .ok (.invokestatic 71, 3) := by decide +kernel
theorem dL_law_220 : decode cL_law 220 = .ok (.iload 7, 2) := by decide +kernel
theorem dL_law_222 : decode cL_law 222 = .ok (.iconst 4, 1) := by decide +kernel
theorem dL_law_223 : decode cL_law 223 = .ok (.if_icmp .ge 7, 3) := by decide +kernel
theorem dL_law_226 : decode cL_law 226 = .ok (.iconst 1, 1) := by decide +kernel
theorem dL_law_227 : decode cL_law 227 = .ok (.goto 4, 3) := by decide +kernel
theorem dL_law_230 : decode cL_law 230 = .ok (.iconst 0, 1) := by decide +kernel
theorem dL_law_231 : decode cL_law 231 = .ok (.invokestatic 107, 3) := by decide +kernel
theorem dL_law_234 : decode cL_law 234 = .ok (.istore 10, 2) := by decide +kernel
theorem dL_law_236 : decode cL_law 236 = .ok (.iload 10, 2) := by decide +kernel
theorem dL_law_238 : decode cL_law 238 = .ok (.bipush (-3), 2) := by decide +kernel
theorem dL_law_240 : decode cL_law 240 = .ok (.if_icmp .ne 29, 3) := by decide +kernel
theorem dL_law_243 : decode cL_law 243 = .ok (.aload_n 1, 1) := by decide +kernel
theorem dL_law_244 : decode cL_law 244 = .ok (.invokevirtual 46, 3) := by decide +kernel
theorem dL_law_247 : decode cL_law 247 = .ok (.iload 8, 2) := by decide +kernel
theorem dL_law_249 : decode cL_law 249 = .ok (.if_icmp .ne 16, 3) := by decide +kernel
theorem dL_law_252 : decode cL_law 252 = .ok (.aload_n 1, 1) := by decide +kernel
theorem dL_law_253 : decode cL_law 253 = .ok (.invokevirtual 62, 3) := by decide +kernel
theorem dL_law_256 : decode cL_law 256 = .ok (.iload 9, 2) := by decide +kernel
theorem dL_law_258 : decode cL_law 258 = .ok (.if_icmp .ne 7, 3) := by decide +kernel
theorem dL_law_261 : decode cL_law 261 = .ok (.iconst 1, 1) := by decide +kernel
theorem dL_law_262 : decode cL_law 262 = .ok (.goto 52, 3) := by decide +kernel
theorem dL_law_265 : decode cL_law 265 = .ok (.iconst 0, 1) := by decide +kernel
theorem dL_law_266 : decode cL_law 266 = .ok (.goto 48, 3) := by decide +kernel
theorem dL_law_269 : decode cL_law 269 = .ok (.iload 10, 2) := by decide +kernel
theorem dL_law_271 : decode cL_law 271 = .ok (.iload 8, 2) := by decide +kernel
theorem dL_law_273 : decode cL_law 273 = .ok (.if_icmp .ne 40, 3) := by decide +kernel
theorem dL_law_276 : decode cL_law 276 = .ok (.aload_n 1, 1) := by decide +kernel
theorem dL_law_277 : decode cL_law 277 = .ok (.iload 9, 2) := by decide +kernel
theorem dL_law_279 : decode cL_law 279 = .ok (.iload 8, 2) := by decide +kernel
theorem dL_law_281 : decode cL_law 281 = .ok (.aload_n 1, 1) := by decide +kernel
theorem dL_law_282 : decode cL_law 282 = .ok (.iload 8, 2) := by decide +kernel
theorem dL_law_284 : decode cL_law 284 = .ok (.invokevirtual 50, 3) := by decide +kernel
theorem dL_law_287 : decode cL_law 287 = .ok (.invokestatic 79, 3) := by decide +kernel
theorem dL_law_290 : decode cL_law 290 = .ok (.ifCond .eq 23, 3) := by decide +kernel
theorem dL_law_293 : decode cL_law 293 = .ok (.iload 7, 2) := by decide +kernel
theorem dL_law_295 : decode cL_law 295 = .ok (.iconst 4, 1) := by decide +kernel
theorem dL_law_296 : decode cL_law 296 = .ok (.if_icmp .lt 13, 3) := by decide +kernel
theorem dL_law_299 : decode cL_law 299 = .ok (.aload_n 1, 1) := by decide +kernel
theorem dL_law_300 : decode cL_law 300 = .ok (.iload 8, 2) := by decide +kernel
theorem dL_law_302 : decode cL_law 302 = .ok (.invokevirtual 50, 3) := by decide +kernel
theorem dL_law_305 : decode cL_law 305 = .ok (.iconst 1, 1) := by decide +kernel
theorem dL_law_306 : decode cL_law 306 = .ok (.if_icmp .ne 7, 3) := by decide +kernel
theorem dL_law_309 : decode cL_law 309 = .ok (.iconst 1, 1) := by decide +kernel
theorem dL_law_310 : decode cL_law 310 = .ok (.goto 4, 3) := by decide +kernel
theorem dL_law_313 : decode cL_law 313 = .ok (.iconst 0, 1) := by decide +kernel
theorem dL_law_314 : decode cL_law 314 = .ok (.istore_n 3, 1) := by decide +kernel
theorem dL_law_315 : decode cL_law 315 = .ok (.goto 172, 3) := by decide +kernel
theorem dL_law_318 : decode cL_law 318 = .ok (.iload 7, 2) := by decide +kernel
theorem dL_law_320 : decode cL_law 320 = .ok (.bipush 10, 2) := by decide +kernel
theorem dL_law_322 : decode cL_law 322 = .ok (.if_icmp .ge 21, 3) := by decide +kernel
theorem dL_law_325 : decode cL_law 325 = .ok (.aload_n 1, 1) := by decide +kernel
theorem dL_law_326 : decode cL_law 326 = .ok (.invokevirtual 46, 3) := by decide +kernel
theorem dL_law_329 : decode cL_law 329 = .ok (.ifCond .le 14, 3) := by decide +kernel
theorem dL_law_332 : decode cL_law 332 = .ok (.aload_n 1, 1) := by decide +kernel
theorem dL_law_333 : decode cL_law 333 = .ok (.iload 6, 2) := by decide +kernel
theorem dL_law_335 : decode cL_law 335 = .ok (.iload_n 2, 1) := by decide +kernel
theorem dL_law_336 : decode cL_law 336 = .ok (.invokestatic 111, 3) := by decide +kernel
theorem dL_law_339 : decode cL_law 339 = .ok (.istore_n 3, 1) := by decide +kernel
theorem dL_law_340 : decode cL_law 340 = .ok (.goto 147, 3) := by decide +kernel
theorem dL_law_343 : decode cL_law 343 = .ok (.iload 7, 2) := by decide +kernel
theorem dL_law_345 : decode cL_law 345 = .ok (.bipush 11, 2) := by decide +kernel
theorem dL_law_347 : decode cL_law 347 = .ok (.if_icmp .ge 66, 3) := by decide +kernel
theorem dL_law_350 : decode cL_law 350 = .ok (.iload 6, 2) := by decide +kernel
theorem dL_law_352 : decode cL_law 352 = .ok (.iconst 2, 1) := by decide +kernel
theorem dL_law_353 : decode cL_law 353 = .ok (.invokestatic 71, 3) := by decide +kernel
theorem dL_law_356 : decode cL_law 356 = .ok (.ifCond .ne 7, 3) := by decide +kernel
theorem dL_law_359 : decode cL_law 359 = .ok (.iconst 1, 1) := by decide +kernel
theorem dL_law_360 : decode cL_law 360 = .ok (.goto 4, 3) := by decide +kernel
theorem dL_law_363 : decode cL_law 363 = .ok (.iconst 0, 1) := by decide +kernel
theorem dL_law_364 : decode cL_law 364 = .ok (.istore 8, 2) := by decide +kernel
theorem dL_law_366 : decode cL_law 366 = .ok (.aload_n 1, 1) := by decide +kernel
theorem dL_law_367 : decode cL_law 367 = .ok (.iload 6, 2) := by decide +kernel
theorem dL_law_369 : decode cL_law 369 = .ok (.bipush 7, 2) := by decide +kernel
theorem dL_law_371 : decode cL_law 371 = .ok (.ishr, 1) := by decide +kernel
theorem dL_law_372 : decode cL_law 372 = .ok (.bipush 40, 2) := by decide +kernel
theorem dL_law_374 : decode cL_law 374 = .ok (.invokestatic 71, 3) := by decide +kernel
theorem dL_law_377 : decode cL_law 377 = .ok (.iload 8, 2) := by decide +kernel
theorem dL_law_379 : decode cL_law 379 = .ok (.invokevirtual 115, 3) := by decide +kernel
theorem dL_law_382 : decode cL_law 382 = .ok (.pop, 1) := by decide +kernel
theorem dL_law_383 : decode cL_law 383 = .ok (.aload_n 1, 1) := by decide +kernel
theorem dL_law_384 : decode cL_law 384 = .ok (.iload 6, 2) := by decide +kernel
theorem dL_law_386 : decode cL_law 386 = .ok (.bipush 7, 2) := by decide +kernel
theorem dL_law_388 : decode cL_law 388 = .ok (.ishr, 1) := by decide +kernel
theorem dL_law_389 : decode cL_law 389 = .ok (.bipush 40, 2) := by decide +kernel
theorem dL_law_391 : decode cL_law 391 = .ok (.invokestatic 71, 3) := by decide +kernel
theorem dL_law_394 : decode cL_law 394 = .ok (.iload 8, 2) := by decide +kernel
theorem dL_law_396 : decode cL_law 396 = .ok (.invokevirtual 115, 3) := by decide +kernel
theorem dL_law_399 : decode cL_law 399 = .ok (.iload 8, 2) := by decide +kernel
theorem dL_law_401 : decode cL_law 401 = .ok (.if_icmp .ne 7, 3) := by decide +kernel
theorem dL_law_404 : decode cL_law 404 = .ok (.iconst 1, 1) := by decide +kernel
theorem dL_law_405 : decode cL_law 405 = .ok (.goto 4, 3) := by decide +kernel
theorem dL_law_408 : decode cL_law 408 = .ok (.iconst 0, 1) := by decide +kernel
theorem dL_law_409 : decode cL_law 409 = .ok (.istore_n 3, 1) := by decide +kernel
theorem dL_law_410 : decode cL_law 410 = .ok (.goto 77, 3) := by decide +kernel
theorem dL_law_413 : decode cL_law 413 = .ok (.aload_n 1, 1) := by decide +kernel
theorem dL_law_414 : decode cL_law 414 = .ok (.invokevirtual 53, 3) := by decide +kernel
theorem dL_law_417 : decode cL_law 417 = .ok (.istore 8, 2) := by decide +kernel
theorem dL_law_419 : decode cL_law 419 = .ok (.aload_n 1, 1) := by decide +kernel
theorem dL_law_420 : decode cL_law 420 = .ok (.invokevirtual 62, 3) := by decide +kernel
theorem dL_law_423 : decode cL_law 423 = .ok (.istore 9, 2) := by decide +kernel
theorem dL_law_425 : decode cL_law 425 = .ok (.iconst 1, 1) := by decide +kernel
theorem dL_law_426 : decode cL_law 426 = .ok (.iload 6, 2) := by decide +kernel
theorem dL_law_428 : decode cL_law 428 = .ok (.iload 6, 2) := by decide +kernel
theorem dL_law_430 : decode cL_law 430 = .ok (.bipush 9, 2) := by decide +kernel
theorem dL_law_432 : decode cL_law 432 = .ok (.ishr, 1) := by decide +kernel
theorem dL_law_433 : decode cL_law 433 = .ok (.iconst 3, 1) := by decide +kernel
theorem dL_law_434 : decode cL_law 434 = .ok (.invokestatic 71, 3) := by decide +kernel
theorem dL_law_437 : decode cL_law 437 = .ok (.ifCond .ne 8, 3) := by decide +kernel
theorem dL_law_440 : decode cL_law 440 = .ok (.bipush 60, 2) := by decide +kernel
theorem dL_law_442 : decode cL_law 442 = .ok (.goto 5, 3) := by decide +kernel
theorem dL_law_445 : decode cL_law 445 = .ok (.bipush 6, 2) := by decide +kernel
theorem dL_law_447 : decode cL_law 447 = .ok (.invokestatic 71, 3) := by decide +kernel
theorem dL_law_450 : decode cL_law 450 = .ok (.iadd, 1) := by decide +kernel
theorem dL_law_451 : decode cL_law 451 = .ok (.istore 10, 2) := by decide +kernel
theorem dL_law_453 : decode cL_law 453 = .ok (.aload_n 1, 1) := by decide +kernel
theorem dL_law_454 : decode cL_law 454 = .ok (.iload 10, 2) := by decide +kernel
theorem dL_law_456 : decode cL_law 456 = .ok (.invokevirtual 119, 3) := by decide +kernel
theorem dL_law_459 : decode cL_law 459 = .ok (.aload_n 1, 1) := by decide +kernel
theorem dL_law_460 : decode cL_law 460 = .ok (.invokevirtual 62, 3) := by decide +kernel
theorem dL_law_463 : decode cL_law 463 = .ok (.iload 9, 2) := by decide +kernel
theorem dL_law_465 : decode cL_law 465 = .ok (.isub, 1) := by decide +kernel
theorem dL_law_466 : decode cL_law 466 = .ok (.if_icmp .ne 19, 3) := by decide +kernel
theorem dL_law_469 : decode cL_law 469 = .ok (.aload_n 1, 1) := by decide +kernel
theorem dL_law_470 : decode cL_law 470 = .ok (.invokevirtual 53, 3) := by decide +kernel
theorem dL_law_473 : decode cL_law 473 = .ok (.iload 8, 2) := by decide +kernel
theorem dL_law_475 : decode cL_law 475 = .ok (.iload 10, 2) := by decide +kernel
theorem dL_law_477 : decode cL_law 477 = .ok (.iadd, 1) := by decide +kernel
theorem dL_law_478 : decode cL_law 478 = .ok (.if_icmp .ne 7, 3) := by decide +kernel
theorem dL_law_481 : decode cL_law 481 = .ok (.iconst 1, 1) := by decide +kernel
theorem dL_law_482 : decode cL_law 482 = .ok (.goto 4, 3) := by decide +kernel
theorem dL_law_485 : decode cL_law 485 = .ok (.iconst 0, 1) := by decide +kernel
theorem dL_law_486 : decode cL_law 486 = .ok (.istore_n 3, 1) := by decide +kernel
theorem dL_law_487 : decode cL_law 487 = .ok (.iload_n 3, 1) := by decide +kernel
theorem dL_law_488 : decode cL_law 488 = .ok (.ifCond .eq 15, 3) := by decide +kernel
theorem dL_law_491 : decode cL_law 491 = .ok (.aload_n 1, 1) := by decide +kernel
theorem dL_law_492 : decode cL_law 492 = .ok (.iload_n 2, 1) := by decide +kernel
theorem dL_law_493 : decode cL_law 493 = .ok (.invokestatic 96, 3) := by decide +kernel
theorem dL_law_496 : decode cL_law 496 = .ok (.ifCond .eq 7, 3) := by decide +kernel
theorem dL_law_499 : decode cL_law 499 = .ok (.iconst 1, 1) := by decide +kernel
theorem dL_law_500 : decode cL_law 500 = .ok (.goto 4, 3) := by decide +kernel
theorem dL_law_503 : decode cL_law 503 = .ok (.iconst 0, 1) := by decide +kernel
theorem dL_law_504 : decode cL_law 504 = .ok (.istore_n 3, 1) := by decide +kernel
theorem dL_law_505 : decode cL_law 505 = .ok (.iinc 5 1, 3) := by decide +kernel
theorem dL_law_508 : decode cL_law 508 = .ok (.goto (-453), 3) := by decide +kernel
theorem dL_law_511 : decode cL_law 511 = .ok (.iload_n 3, 1) := by decide +kernel
theorem dL_law_512 : decode cL_law 512 = .ok (.ireturn, 1) := by decide +kernel
abbrev vwCl : List vw_C := [(RX0, TX0, 17)]
end
section
section BHK
variable {p : Program} {l : Launch} {e : Env} {R : Room} {s : State} {m : MethodId} {args : Array Value} {below : List Frame} {meth : Method} {c : Code} {cells slots : Nat} {Q : State → Prop}
variable {cc : ByteArray} {nL : Nat} {Ts : List Cond} {own : String} {D : va_G} {tys : List (ClassId × FieldType)} {A : Nat → Prop} {ret : Option FieldType}
variable {w w' : va_W} {lv lv' : List (Nat × Value)} {pc : Nat} {st rest : List Value}
/-- what stays through a method's body -/
def bh_C (p : Program) (s : State) (m : MethodId) (args : Array Value) (meth : Method) (c : Code) (cc : ByteArray) (nL : Nat) (Ts : List Cond) (own : String) (D : va_G) (tys : List (ClassId × FieldType)) (A : Nat → Prop) (ret : Option FieldType) : Prop :=
  CallFix p m c cc nL s args Ts own ∧ va_K D vwCl tys s ∧ (∀ q : Nat, s.heap.size ≤ q → A q) ∧ meth.sig.returnType = ret ∧ meth.locks = false
/-- the frame at pc, over a world, locals as a list, a stack: in every heap that holds the world -/
def bh_W (p : Program) (l : Launch) (e : Env) (R : Room) (s : State) (m : MethodId) (args : Array Value) (below : List Frame) (meth : Method) (c : Code) (nL : Nat) (D : va_G) (A : Nat → Prop) (cells slots : Nat) (Q : State → Prop) (w : va_W) (lv : List (Nat × Value)) (pc : Nat) (st : List Value) : Prop :=
  ∀ (H : Heap) (locs : List Loc) (ls : Array Slot), va_P D vwCl w H → va_D A w → va_S A s.heap H locs → lv_has ls nL lv → W p l e R s m args below meth c H locs cells slots Q (F0 m pc ls st)
theorem bh_iload_n (C : bh_C p s m args meth c cc nL Ts own D tys A ret) {k : Fin 4} {i : Nat} {x : Int32} (hdg : decode cc pc = .ok (.iload_n k, 1)) (hi : (k : Nat) = i) (j : Nat) (hl : lv[j]? = some (i, .int x)) (kk : bh_W p l e R s m args below meth c nL D A cells slots Q (w) lv (pc + 1) (.int x :: st)) : bh_W p l e R s m args below meth c nL D A cells slots Q (w) lv (pc) (st) := by
  intro H locs ls hP hD hS h
  obtain ⟨⟨hx, hb, hml, hown, hts⟩, hK, hA, hr, hlk⟩ := C
  exact lv_iload_n hx hb hdg hi (lv_at h j hl) (kk H locs ls hP hD hS h)
theorem bh_iload (C : bh_C p s m args meth c cc nL Ts own D tys A ret) {i : Nat} {x : Int32} (hdg : decode cc pc = .ok (.iload i, 2)) (j : Nat) (hl : lv[j]? = some (i, .int x)) (kk : bh_W p l e R s m args below meth c nL D A cells slots Q (w) lv (pc + 2) (.int x :: st)) : bh_W p l e R s m args below meth c nL D A cells slots Q (w) lv (pc) (st) := by
  intro H locs ls hP hD hS h
  obtain ⟨⟨hx, hb, hml, hown, hts⟩, hK, hA, hr, hlk⟩ := C
  exact lv_iload hx hb hdg (lv_at h j hl) (kk H locs ls hP hD hS h)
theorem bh_istore_n (C : bh_C p s m args meth c cc nL Ts own D tys A ret) {k : Fin 4} {i : Nat} {x : Int32} (hdg : decode cc pc = .ok (.istore_n k, 1)) (hi : (k : Nat) = i) (hn : i < nL) (hl : (i, Value.int x) :: lv.filter (fun q => !(q.1 == i) && !(q.1 + 1 == i && q.2.category == 2)) = lv') (kk : bh_W p l e R s m args below meth c nL D A cells slots Q (w) lv' (pc + 1) (st)) : bh_W p l e R s m args below meth c nL D A cells slots Q (w) lv (pc) (.int x :: st) := by
  intro H locs ls hP hD hS h
  obtain ⟨⟨hx, hb, hml, hown, hts⟩, hK, hA, hr, hlk⟩ := C
  exact lv_istore_n hx hb hdg hi h hn hl (fun ls2 h2 => kk H locs ls2 hP hD hS h2)
theorem bh_istore (C : bh_C p s m args meth c cc nL Ts own D tys A ret) {i : Nat} {x : Int32} (hdg : decode cc pc = .ok (.istore i, 2)) (hn : i < nL) (hl : (i, Value.int x) :: lv.filter (fun q => !(q.1 == i) && !(q.1 + 1 == i && q.2.category == 2)) = lv') (kk : bh_W p l e R s m args below meth c nL D A cells slots Q (w) lv' (pc + 2) (st)) : bh_W p l e R s m args below meth c nL D A cells slots Q (w) lv (pc) (.int x :: st) := by
  intro H locs ls hP hD hS h
  obtain ⟨⟨hx, hb, hml, hown, hts⟩, hK, hA, hr, hlk⟩ := C
  exact lv_istore hx hb hdg h hn hl (fun ls2 h2 => kk H locs ls2 hP hD hS h2)
theorem bh_aload_n (C : bh_C p s m args meth c cc nL Ts own D tys A ret) {k : Fin 4} {i : Nat} {x : Nat} (hdg : decode cc pc = .ok (.aload_n k, 1)) (hi : (k : Nat) = i) (j : Nat) (hl : lv[j]? = some (i, .ref x)) (kk : bh_W p l e R s m args below meth c nL D A cells slots Q (w) lv (pc + 1) (.ref x :: st)) : bh_W p l e R s m args below meth c nL D A cells slots Q (w) lv (pc) (st) := by
  intro H locs ls hP hD hS h
  obtain ⟨⟨hx, hb, hml, hown, hts⟩, hK, hA, hr, hlk⟩ := C
  exact lv_aload_n hx hb hdg hi (lv_at h j hl) (kk H locs ls hP hD hS h)
theorem bh_aload (C : bh_C p s m args meth c cc nL Ts own D tys A ret) {i : Nat} {x : Nat} (hdg : decode cc pc = .ok (.aload i, 2)) (j : Nat) (hl : lv[j]? = some (i, .ref x)) (kk : bh_W p l e R s m args below meth c nL D A cells slots Q (w) lv (pc + 2) (.ref x :: st)) : bh_W p l e R s m args below meth c nL D A cells slots Q (w) lv (pc) (st) := by
  intro H locs ls hP hD hS h
  obtain ⟨⟨hx, hb, hml, hown, hts⟩, hK, hA, hr, hlk⟩ := C
  exact lv_aload hx hb hdg (lv_at h j hl) (kk H locs ls hP hD hS h)
theorem bh_astore_n (C : bh_C p s m args meth c cc nL Ts own D tys A ret) {k : Fin 4} {i : Nat} {x : Nat} (hdg : decode cc pc = .ok (.astore_n k, 1)) (hi : (k : Nat) = i) (hn : i < nL) (hl : (i, Value.ref x) :: lv.filter (fun q => !(q.1 == i) && !(q.1 + 1 == i && q.2.category == 2)) = lv') (kk : bh_W p l e R s m args below meth c nL D A cells slots Q (w) lv' (pc + 1) (st)) : bh_W p l e R s m args below meth c nL D A cells slots Q (w) lv (pc) (.ref x :: st) := by
  intro H locs ls hP hD hS h
  obtain ⟨⟨hx, hb, hml, hown, hts⟩, hK, hA, hr, hlk⟩ := C
  exact lv_astore_n hx hb hdg hi h hn hl (fun ls2 h2 => kk H locs ls2 hP hD hS h2)
theorem bh_astore (C : bh_C p s m args meth c cc nL Ts own D tys A ret) {i : Nat} {x : Nat} (hdg : decode cc pc = .ok (.astore i, 2)) (hn : i < nL) (hl : (i, Value.ref x) :: lv.filter (fun q => !(q.1 == i) && !(q.1 + 1 == i && q.2.category == 2)) = lv') (kk : bh_W p l e R s m args below meth c nL D A cells slots Q (w) lv' (pc + 2) (st)) : bh_W p l e R s m args below meth c nL D A cells slots Q (w) lv (pc) (.ref x :: st) := by
  intro H locs ls hP hD hS h
  obtain ⟨⟨hx, hb, hml, hown, hts⟩, hK, hA, hr, hlk⟩ := C
  exact lv_astore hx hb hdg h hn hl (fun ls2 h2 => kk H locs ls2 hP hD hS h2)
theorem bh_iinc (C : bh_C p s m args meth c cc nL Ts own D tys A ret) {i k : Nat} {n : Int} {x v : Int32} (hdg : decode cc pc = .ok (.iinc i n, 3)) (hk : lv[k]? = some (i, .int x)) (hv : x + Int32.ofInt n = v) (hn : i < nL) (hl : (i, Value.int v) :: lv.filter (fun q => !(q.1 == i) && !(q.1 + 1 == i && q.2.category == 2)) = lv') (kk : bh_W p l e R s m args below meth c nL D A cells slots Q (w) lv' (pc + 3) (st)) : bh_W p l e R s m args below meth c nL D A cells slots Q (w) lv (pc) (st) := by
  intro H locs ls hP hD hS h
  obtain ⟨⟨hx, hb, hml, hown, hts⟩, hK, hA, hr, hlk⟩ := C
  exact lv_iinc hx hb hdg h hk hv hn hl (fun ls2 h2 => kk H locs ls2 hP hD hS h2)
theorem bh_iconst (C : bh_C p s m args meth c cc nL Ts own D tys A ret) {n : Int} {v : Int32} (hdg : decode cc pc = .ok (.iconst n, 1)) (hv : Int32.ofInt n = v) (kk : bh_W p l e R s m args below meth c nL D A cells slots Q (w) lv (pc + 1) (.int v :: st)) : bh_W p l e R s m args below meth c nL D A cells slots Q (w) lv (pc) (st) := by
  intro H locs ls hP hD hS h
  obtain ⟨⟨hx, hb, hml, hown, hts⟩, hK, hA, hr, hlk⟩ := C
  exact lv_iconst hx hb hdg hv (kk H locs ls hP hD hS h)
theorem bh_bipush (C : bh_C p s m args meth c cc nL Ts own D tys A ret) {n : Int} {v : Int32} (hdg : decode cc pc = .ok (.bipush n, 2)) (hv : (Int8.ofInt n).toInt32 = v) (kk : bh_W p l e R s m args below meth c nL D A cells slots Q (w) lv (pc + 2) (.int v :: st)) : bh_W p l e R s m args below meth c nL D A cells slots Q (w) lv (pc) (st) := by
  intro H locs ls hP hD hS h
  obtain ⟨⟨hx, hb, hml, hown, hts⟩, hK, hA, hr, hlk⟩ := C
  exact lv_bipush hx hb hdg hv (kk H locs ls hP hD hS h)
theorem bh_sipush (C : bh_C p s m args meth c cc nL Ts own D tys A ret) {n : Int} {v : Int32} (hdg : decode cc pc = .ok (.sipush n, 3)) (hv : (Int16.ofInt n).toInt32 = v) (kk : bh_W p l e R s m args below meth c nL D A cells slots Q (w) lv (pc + 3) (.int v :: st)) : bh_W p l e R s m args below meth c nL D A cells slots Q (w) lv (pc) (st) := by
  intro H locs ls hP hD hS h
  obtain ⟨⟨hx, hb, hml, hown, hts⟩, hK, hA, hr, hlk⟩ := C
  exact lv_sipush hx hb hdg hv (kk H locs ls hP hD hS h)
theorem bh_iadd (C : bh_C p s m args meth c cc nL Ts own D tys A ret) {x y : Int32} (hdg : decode cc pc = .ok (.iadd, 1)) (kk : bh_W p l e R s m args below meth c nL D A cells slots Q (w) lv (pc + 1) (.int (x + y) :: st)) : bh_W p l e R s m args below meth c nL D A cells slots Q (w) lv (pc) (.int y :: .int x :: st) := by
  intro H locs ls hP hD hS h
  obtain ⟨⟨hx, hb, hml, hown, hts⟩, hK, hA, hr, hlk⟩ := C
  exact lv_iadd hx hb hdg (kk H locs ls hP hD hS h)
theorem bh_isub (C : bh_C p s m args meth c cc nL Ts own D tys A ret) {x y : Int32} (hdg : decode cc pc = .ok (.isub, 1)) (kk : bh_W p l e R s m args below meth c nL D A cells slots Q (w) lv (pc + 1) (.int (x - y) :: st)) : bh_W p l e R s m args below meth c nL D A cells slots Q (w) lv (pc) (.int y :: .int x :: st) := by
  intro H locs ls hP hD hS h
  obtain ⟨⟨hx, hb, hml, hown, hts⟩, hK, hA, hr, hlk⟩ := C
  exact lv_isub hx hb hdg (kk H locs ls hP hD hS h)
theorem bh_imul (C : bh_C p s m args meth c cc nL Ts own D tys A ret) {x y : Int32} (hdg : decode cc pc = .ok (.imul, 1)) (kk : bh_W p l e R s m args below meth c nL D A cells slots Q (w) lv (pc + 1) (.int (x * y) :: st)) : bh_W p l e R s m args below meth c nL D A cells slots Q (w) lv (pc) (.int y :: .int x :: st) := by
  intro H locs ls hP hD hS h
  obtain ⟨⟨hx, hb, hml, hown, hts⟩, hK, hA, hr, hlk⟩ := C
  exact lv_imul hx hb hdg (kk H locs ls hP hD hS h)
theorem bh_iand (C : bh_C p s m args meth c cc nL Ts own D tys A ret) {x y : Int32} (hdg : decode cc pc = .ok (.iand, 1)) (kk : bh_W p l e R s m args below meth c nL D A cells slots Q (w) lv (pc + 1) (.int (x &&& y) :: st)) : bh_W p l e R s m args below meth c nL D A cells slots Q (w) lv (pc) (.int y :: .int x :: st) := by
  intro H locs ls hP hD hS h
  obtain ⟨⟨hx, hb, hml, hown, hts⟩, hK, hA, hr, hlk⟩ := C
  exact lv_iand hx hb hdg (kk H locs ls hP hD hS h)
theorem bh_idiv (C : bh_C p s m args meth c cc nL Ts own D tys A ret) {x y : Int32} (hdg : decode cc pc = .ok (.idiv, 1)) (hne : ¬ y = 0) (kk : bh_W p l e R s m args below meth c nL D A cells slots Q (w) lv (pc + 1) (.int (x / y) :: st)) : bh_W p l e R s m args below meth c nL D A cells slots Q (w) lv (pc) (.int y :: .int x :: st) := by
  intro H locs ls hP hD hS h
  obtain ⟨⟨hx, hb, hml, hown, hts⟩, hK, hA, hr, hlk⟩ := C
  exact lv_idiv hx hb hdg hne (kk H locs ls hP hD hS h)
theorem bh_irem (C : bh_C p s m args meth c cc nL Ts own D tys A ret) {x y : Int32} (hdg : decode cc pc = .ok (.irem, 1)) (hne : ¬ y = 0) (kk : bh_W p l e R s m args below meth c nL D A cells slots Q (w) lv (pc + 1) (.int (x - x / y * y) :: st)) : bh_W p l e R s m args below meth c nL D A cells slots Q (w) lv (pc) (.int y :: .int x :: st) := by
  intro H locs ls hP hD hS h
  obtain ⟨⟨hx, hb, hml, hown, hts⟩, hK, hA, hr, hlk⟩ := C
  exact lv_irem hx hb hdg hne (kk H locs ls hP hD hS h)
theorem bh_ineg (C : bh_C p s m args meth c cc nL Ts own D tys A ret) {x : Int32} (hdg : decode cc pc = .ok (.ineg, 1)) (kk : bh_W p l e R s m args below meth c nL D A cells slots Q (w) lv (pc + 1) (.int (-x) :: st)) : bh_W p l e R s m args below meth c nL D A cells slots Q (w) lv (pc) (.int x :: st) := by
  intro H locs ls hP hD hS h
  obtain ⟨⟨hx, hb, hml, hown, hts⟩, hK, hA, hr, hlk⟩ := C
  exact lv_ineg hx hb hdg (kk H locs ls hP hD hS h)
theorem bh_i2l (C : bh_C p s m args meth c cc nL Ts own D tys A ret) {x : Int32} {v : Int64} (hdg : decode cc pc = .ok (.i2l, 1)) (hv : x.toInt64 = v) (kk : bh_W p l e R s m args below meth c nL D A cells slots Q (w) lv (pc + 1) (.long v :: st)) : bh_W p l e R s m args below meth c nL D A cells slots Q (w) lv (pc) (.int x :: st) := by
  intro H locs ls hP hD hS h
  obtain ⟨⟨hx, hb, hml, hown, hts⟩, hK, hA, hr, hlk⟩ := C
  exact lv_i2l hx hb hdg hv (kk H locs ls hP hD hS h)
theorem bh_lcmp (C : bh_C p s m args meth c cc nL Ts own D tys A ret) {x y : Int64} (hdg : decode cc pc = .ok (.lcmp, 1)) (kk : bh_W p l e R s m args below meth c nL D A cells slots Q (w) lv (pc + 1) (.int (lg_cmp x y) :: st)) : bh_W p l e R s m args below meth c nL D A cells slots Q (w) lv (pc) (.long y :: .long x :: st) := by
  intro H locs ls hP hD hS h
  obtain ⟨⟨hx, hb, hml, hown, hts⟩, hK, hA, hr, hlk⟩ := C
  exact W.lcmp hx hb hdg (kk H locs ls hP hD hS h)
theorem bh_dup (C : bh_C p s m args meth c cc nL Ts own D tys A ret) {va : Value} (hdg : decode cc pc = .ok (.dup, 1)) (hva : va.category = 1) (kk : bh_W p l e R s m args below meth c nL D A cells slots Q (w) lv (pc + 1) (va :: va :: st)) : bh_W p l e R s m args below meth c nL D A cells slots Q (w) lv (pc) (va :: st) := by
  intro H locs ls hP hD hS h
  obtain ⟨⟨hx, hb, hml, hown, hts⟩, hK, hA, hr, hlk⟩ := C
  exact lv_dup hx hb hdg hva (kk H locs ls hP hD hS h)
theorem bh_dup2 (C : bh_C p s m args meth c cc nL Ts own D tys A ret) {va vb : Value} (hdg : decode cc pc = .ok (.dup2, 1)) (hva : va.category = 1) (hvb : vb.category = 1) (kk : bh_W p l e R s m args below meth c nL D A cells slots Q (w) lv (pc + 1) (va :: vb :: va :: vb :: st)) : bh_W p l e R s m args below meth c nL D A cells slots Q (w) lv (pc) (va :: vb :: st) := by
  intro H locs ls hP hD hS h
  obtain ⟨⟨hx, hb, hml, hown, hts⟩, hK, hA, hr, hlk⟩ := C
  exact lv_dup2_11 hx hb hdg hva hvb (kk H locs ls hP hD hS h)
theorem bh_dup_x1 (C : bh_C p s m args meth c cc nL Ts own D tys A ret) {va vb : Value} (hdg : decode cc pc = .ok (.dup_x1, 1)) (hva : va.category = 1) (hvb : vb.category = 1) (kk : bh_W p l e R s m args below meth c nL D A cells slots Q (w) lv (pc + 1) (va :: vb :: va :: st)) : bh_W p l e R s m args below meth c nL D A cells slots Q (w) lv (pc) (va :: vb :: st) := by
  intro H locs ls hP hD hS h
  obtain ⟨⟨hx, hb, hml, hown, hts⟩, hK, hA, hr, hlk⟩ := C
  exact lv_dup_x1 hx hb hdg hva hvb (kk H locs ls hP hD hS h)
theorem bh_pop (C : bh_C p s m args meth c cc nL Ts own D tys A ret) {va : Value} (hdg : decode cc pc = .ok (.pop, 1)) (hva : va.category = 1) (kk : bh_W p l e R s m args below meth c nL D A cells slots Q (w) lv (pc + 1) (st)) : bh_W p l e R s m args below meth c nL D A cells slots Q (w) lv (pc) (va :: st) := by
  intro H locs ls hP hD hS h
  obtain ⟨⟨hx, hb, hml, hown, hts⟩, hK, hA, hr, hlk⟩ := C
  exact lv_pop hx hb hdg hva (kk H locs ls hP hD hS h)
theorem bh_icmp_eq (C : bh_C p s m args meth c cc nL Ts own D tys A ret) {x y : Int32} {off : Int} {tgt : Nat} (hdg : decode cc pc = .ok (.if_icmp .eq off, 3)) (ht : (pc : Int) + off = (tgt : Int)) (kt : x = y → bh_W p l e R s m args below meth c nL D A cells slots Q (w) lv (tgt) (st)) (kf : ¬ x = y → bh_W p l e R s m args below meth c nL D A cells slots Q (w) lv (pc + 3) (st)) : bh_W p l e R s m args below meth c nL D A cells slots Q (w) lv (pc) (.int y :: .int x :: st) := by
  intro H locs ls hP hD hS h
  obtain ⟨⟨hx, hb, hml, hown, hts⟩, hK, hA, hr, hlk⟩ := C
  exact lv_icmp_eq hx hb hdg ht (fun q => kt q H locs ls hP hD hS h) (fun q => kf q H locs ls hP hD hS h)
theorem bh_if_eq (C : bh_C p s m args meth c cc nL Ts own D tys A ret) {x : Int32} {off : Int} {tgt : Nat} (hdg : decode cc pc = .ok (.ifCond .eq off, 3)) (ht : (pc : Int) + off = (tgt : Int)) (kt : x = 0 → bh_W p l e R s m args below meth c nL D A cells slots Q (w) lv (tgt) (st)) (kf : ¬ x = 0 → bh_W p l e R s m args below meth c nL D A cells slots Q (w) lv (pc + 3) (st)) : bh_W p l e R s m args below meth c nL D A cells slots Q (w) lv (pc) (.int x :: st) := by
  intro H locs ls hP hD hS h
  obtain ⟨⟨hx, hb, hml, hown, hts⟩, hK, hA, hr, hlk⟩ := C
  exact lv_if_eq hx hb hdg ht (fun q => kt q H locs ls hP hD hS h) (fun q => kf q H locs ls hP hD hS h)
theorem bh_icmp_ne (C : bh_C p s m args meth c cc nL Ts own D tys A ret) {x y : Int32} {off : Int} {tgt : Nat} (hdg : decode cc pc = .ok (.if_icmp .ne off, 3)) (ht : (pc : Int) + off = (tgt : Int)) (kt : ¬ x = y → bh_W p l e R s m args below meth c nL D A cells slots Q (w) lv (tgt) (st)) (kf : x = y → bh_W p l e R s m args below meth c nL D A cells slots Q (w) lv (pc + 3) (st)) : bh_W p l e R s m args below meth c nL D A cells slots Q (w) lv (pc) (.int y :: .int x :: st) := by
  intro H locs ls hP hD hS h
  obtain ⟨⟨hx, hb, hml, hown, hts⟩, hK, hA, hr, hlk⟩ := C
  exact lv_icmp_ne hx hb hdg ht (fun q => kt q H locs ls hP hD hS h) (fun q => kf q H locs ls hP hD hS h)
theorem bh_if_ne (C : bh_C p s m args meth c cc nL Ts own D tys A ret) {x : Int32} {off : Int} {tgt : Nat} (hdg : decode cc pc = .ok (.ifCond .ne off, 3)) (ht : (pc : Int) + off = (tgt : Int)) (kt : ¬ x = 0 → bh_W p l e R s m args below meth c nL D A cells slots Q (w) lv (tgt) (st)) (kf : x = 0 → bh_W p l e R s m args below meth c nL D A cells slots Q (w) lv (pc + 3) (st)) : bh_W p l e R s m args below meth c nL D A cells slots Q (w) lv (pc) (.int x :: st) := by
  intro H locs ls hP hD hS h
  obtain ⟨⟨hx, hb, hml, hown, hts⟩, hK, hA, hr, hlk⟩ := C
  exact lv_if_ne hx hb hdg ht (fun q => kt q H locs ls hP hD hS h) (fun q => kf q H locs ls hP hD hS h)
theorem bh_icmp_lt (C : bh_C p s m args meth c cc nL Ts own D tys A ret) {x y : Int32} {off : Int} {tgt : Nat} (hdg : decode cc pc = .ok (.if_icmp .lt off, 3)) (ht : (pc : Int) + off = (tgt : Int)) (kt : x < y → bh_W p l e R s m args below meth c nL D A cells slots Q (w) lv (tgt) (st)) (kf : ¬ x < y → bh_W p l e R s m args below meth c nL D A cells slots Q (w) lv (pc + 3) (st)) : bh_W p l e R s m args below meth c nL D A cells slots Q (w) lv (pc) (.int y :: .int x :: st) := by
  intro H locs ls hP hD hS h
  obtain ⟨⟨hx, hb, hml, hown, hts⟩, hK, hA, hr, hlk⟩ := C
  exact lv_icmp_lt hx hb hdg ht (fun q => kt q H locs ls hP hD hS h) (fun q => kf q H locs ls hP hD hS h)
theorem bh_if_lt (C : bh_C p s m args meth c cc nL Ts own D tys A ret) {x : Int32} {off : Int} {tgt : Nat} (hdg : decode cc pc = .ok (.ifCond .lt off, 3)) (ht : (pc : Int) + off = (tgt : Int)) (kt : x < 0 → bh_W p l e R s m args below meth c nL D A cells slots Q (w) lv (tgt) (st)) (kf : ¬ x < 0 → bh_W p l e R s m args below meth c nL D A cells slots Q (w) lv (pc + 3) (st)) : bh_W p l e R s m args below meth c nL D A cells slots Q (w) lv (pc) (.int x :: st) := by
  intro H locs ls hP hD hS h
  obtain ⟨⟨hx, hb, hml, hown, hts⟩, hK, hA, hr, hlk⟩ := C
  exact lv_if_lt hx hb hdg ht (fun q => kt q H locs ls hP hD hS h) (fun q => kf q H locs ls hP hD hS h)
theorem bh_icmp_ge (C : bh_C p s m args meth c cc nL Ts own D tys A ret) {x y : Int32} {off : Int} {tgt : Nat} (hdg : decode cc pc = .ok (.if_icmp .ge off, 3)) (ht : (pc : Int) + off = (tgt : Int)) (kt : y ≤ x → bh_W p l e R s m args below meth c nL D A cells slots Q (w) lv (tgt) (st)) (kf : ¬ y ≤ x → bh_W p l e R s m args below meth c nL D A cells slots Q (w) lv (pc + 3) (st)) : bh_W p l e R s m args below meth c nL D A cells slots Q (w) lv (pc) (.int y :: .int x :: st) := by
  intro H locs ls hP hD hS h
  obtain ⟨⟨hx, hb, hml, hown, hts⟩, hK, hA, hr, hlk⟩ := C
  exact lv_icmp_ge hx hb hdg ht (fun q => kt q H locs ls hP hD hS h) (fun q => kf q H locs ls hP hD hS h)
theorem bh_if_ge (C : bh_C p s m args meth c cc nL Ts own D tys A ret) {x : Int32} {off : Int} {tgt : Nat} (hdg : decode cc pc = .ok (.ifCond .ge off, 3)) (ht : (pc : Int) + off = (tgt : Int)) (kt : 0 ≤ x → bh_W p l e R s m args below meth c nL D A cells slots Q (w) lv (tgt) (st)) (kf : ¬ 0 ≤ x → bh_W p l e R s m args below meth c nL D A cells slots Q (w) lv (pc + 3) (st)) : bh_W p l e R s m args below meth c nL D A cells slots Q (w) lv (pc) (.int x :: st) := by
  intro H locs ls hP hD hS h
  obtain ⟨⟨hx, hb, hml, hown, hts⟩, hK, hA, hr, hlk⟩ := C
  exact lv_if_ge hx hb hdg ht (fun q => kt q H locs ls hP hD hS h) (fun q => kf q H locs ls hP hD hS h)
theorem bh_icmp_gt (C : bh_C p s m args meth c cc nL Ts own D tys A ret) {x y : Int32} {off : Int} {tgt : Nat} (hdg : decode cc pc = .ok (.if_icmp .gt off, 3)) (ht : (pc : Int) + off = (tgt : Int)) (kt : y < x → bh_W p l e R s m args below meth c nL D A cells slots Q (w) lv (tgt) (st)) (kf : ¬ y < x → bh_W p l e R s m args below meth c nL D A cells slots Q (w) lv (pc + 3) (st)) : bh_W p l e R s m args below meth c nL D A cells slots Q (w) lv (pc) (.int y :: .int x :: st) := by
  intro H locs ls hP hD hS h
  obtain ⟨⟨hx, hb, hml, hown, hts⟩, hK, hA, hr, hlk⟩ := C
  exact lv_icmp_gt hx hb hdg ht (fun q => kt q H locs ls hP hD hS h) (fun q => kf q H locs ls hP hD hS h)
theorem bh_if_gt (C : bh_C p s m args meth c cc nL Ts own D tys A ret) {x : Int32} {off : Int} {tgt : Nat} (hdg : decode cc pc = .ok (.ifCond .gt off, 3)) (ht : (pc : Int) + off = (tgt : Int)) (kt : 0 < x → bh_W p l e R s m args below meth c nL D A cells slots Q (w) lv (tgt) (st)) (kf : ¬ 0 < x → bh_W p l e R s m args below meth c nL D A cells slots Q (w) lv (pc + 3) (st)) : bh_W p l e R s m args below meth c nL D A cells slots Q (w) lv (pc) (.int x :: st) := by
  intro H locs ls hP hD hS h
  obtain ⟨⟨hx, hb, hml, hown, hts⟩, hK, hA, hr, hlk⟩ := C
  exact lv_if_gt hx hb hdg ht (fun q => kt q H locs ls hP hD hS h) (fun q => kf q H locs ls hP hD hS h)
theorem bh_icmp_le (C : bh_C p s m args meth c cc nL Ts own D tys A ret) {x y : Int32} {off : Int} {tgt : Nat} (hdg : decode cc pc = .ok (.if_icmp .le off, 3)) (ht : (pc : Int) + off = (tgt : Int)) (kt : x ≤ y → bh_W p l e R s m args below meth c nL D A cells slots Q (w) lv (tgt) (st)) (kf : ¬ x ≤ y → bh_W p l e R s m args below meth c nL D A cells slots Q (w) lv (pc + 3) (st)) : bh_W p l e R s m args below meth c nL D A cells slots Q (w) lv (pc) (.int y :: .int x :: st) := by
  intro H locs ls hP hD hS h
  obtain ⟨⟨hx, hb, hml, hown, hts⟩, hK, hA, hr, hlk⟩ := C
  exact lv_icmp_le hx hb hdg ht (fun q => kt q H locs ls hP hD hS h) (fun q => kf q H locs ls hP hD hS h)
theorem bh_if_le (C : bh_C p s m args meth c cc nL Ts own D tys A ret) {x : Int32} {off : Int} {tgt : Nat} (hdg : decode cc pc = .ok (.ifCond .le off, 3)) (ht : (pc : Int) + off = (tgt : Int)) (kt : x ≤ 0 → bh_W p l e R s m args below meth c nL D A cells slots Q (w) lv (tgt) (st)) (kf : ¬ x ≤ 0 → bh_W p l e R s m args below meth c nL D A cells slots Q (w) lv (pc + 3) (st)) : bh_W p l e R s m args below meth c nL D A cells slots Q (w) lv (pc) (.int x :: st) := by
  intro H locs ls hP hD hS h
  obtain ⟨⟨hx, hb, hml, hown, hts⟩, hK, hA, hr, hlk⟩ := C
  exact lv_if_le hx hb hdg ht (fun q => kt q H locs ls hP hD hS h) (fun q => kf q H locs ls hP hD hS h)
theorem bh_goto (C : bh_C p s m args meth c cc nL Ts own D tys A ret) {off : Int} {tgt : Nat} (hdg : decode cc pc = .ok (.goto off, 3)) (ht : (pc : Int) + off = (tgt : Int)) (kk : bh_W p l e R s m args below meth c nL D A cells slots Q (w) lv (tgt) (st)) : bh_W p l e R s m args below meth c nL D A cells slots Q (w) lv (pc) (st) := by
  intro H locs ls hP hD hS h
  obtain ⟨⟨hx, hb, hml, hown, hts⟩, hK, hA, hr, hlk⟩ := C
  exact lv_goto hx hb hdg ht (kk H locs ls hP hD hS h)
theorem bh_lv (is : List Nat) (h0 : lv_pick lv is = lv') (kk : bh_W p l e R s m args below meth c nL D A cells slots Q (w) lv' (pc) (st)) : bh_W p l e R s m args below meth c nL D A cells slots Q (w) lv (pc) (st) := fun H locs ls hP hD hS h => kk H locs ls hP hD hS (lv_sub h is h0)
theorem bh_eqlv (h0 : lv = lv') (kk : bh_W p l e R s m args below meth c nL D A cells slots Q (w) lv' (pc) (st)) : bh_W p l e R s m args below meth c nL D A cells slots Q (w) lv (pc) (st) := h0 ▸ kk
theorem bh_eqw (h0 : w = w') (kk : bh_W p l e R s m args below meth c nL D A cells slots Q (w') lv (pc) (st)) : bh_W p l e R s m args below meth c nL D A cells slots Q (w) lv (pc) (st) := h0 ▸ kk
theorem bh_topi {x y : Int32} (h0 : x = y) (kk : bh_W p l e R s m args below meth c nL D A cells slots Q (w) lv (pc) (.int y :: st)) : bh_W p l e R s m args below meth c nL D A cells slots Q (w) lv (pc) (.int x :: st) := h0 ▸ kk
theorem bh_widen {k n : Nat} (h1 : cells ≤ k) (h2 : slots ≤ n) (kk : bh_W p l e R s m args below meth c nL D A k n Q (w) lv (pc) (st)) : bh_W p l e R s m args below meth c nL D A cells slots Q (w) lv (pc) (st) := fun H locs ls hP hD hS h => W.widen h1 h2 (kk H locs ls hP hD hS h)
/-- the same world in another order -/
theorem bh_Pmem {D : va_G} {w : va_W} {H : Heap} : va_P D vwCl w H ↔ ∀ q ∈ w, va_at D vwCl q H := by
  constructor
  · intro h q hq
    obtain ⟨k, hk⟩ := List.mem_iff_getElem?.mp hq
    exact h k q hk
  · intro h k q hk
    exact h q (List.mem_of_getElem? hk)
theorem bh_Dmem {A : Nat → Prop} {w : va_W} : va_D A w ↔ (w.map (·.1)).Nodup ∧ ∀ q ∈ w, A q.1 := by
  constructor
  · intro h
    refine ⟨?_, fun q hq => ?_⟩
    · rw [List.Nodup, List.pairwise_map, List.pairwise_iff_getElem]
      intro i j hi hj hij hne
      have := h.1 i j _ _ (List.getElem?_eq_getElem hi) (List.getElem?_eq_getElem hj) hne
      omega
    · obtain ⟨k, hk⟩ := List.mem_iff_getElem?.mp hq
      exact h.2 k q hk
  · intro h
    refine ⟨fun i j x y hi hj hxy => ?_, fun k q hk => h.2 q (List.mem_of_getElem? hk)⟩
    have h1 := h.1
    rw [List.Nodup, List.pairwise_map, List.pairwise_iff_getElem] at h1
    obtain ⟨li, ei⟩ := List.getElem?_eq_some_iff.mp hi
    obtain ⟨lj, ej⟩ := List.getElem?_eq_some_iff.mp hj
    rcases Nat.lt_trichotomy i j with q | q | q
    · exact absurd (by rw [ei, ej]; exact hxy) (h1 i j li lj q)
    · exact q
    · exact absurd (by rw [ei, ej]; exact hxy.symm) (h1 j i lj li q)
theorem bh_Pperm {D : va_G} {w w' : va_W} {H : Heap} (hp : w.Perm w') (h : va_P D vwCl w H) : va_P D vwCl w' H := bh_Pmem.mpr (fun q hq => bh_Pmem.mp h q (hp.mem_iff.mpr hq))
theorem bh_Dperm {A : Nat → Prop} {w w' : va_W} (hp : w.Perm w') (h : va_D A w) : va_D A w' := by
  obtain ⟨h1, h2⟩ := bh_Dmem.mp h
  exact bh_Dmem.mpr ⟨((hp.map (·.1)).nodup_iff).mp h1, fun q hq => h2 q (hp.mem_iff.mpr hq)⟩
theorem bh_Papp {D : va_G} {a b : va_W} {H : Heap} : va_P D vwCl (a ++ b) H ↔ va_P D vwCl a H ∧ va_P D vwCl b H := by
  simp only [bh_Pmem, List.mem_append]
  exact ⟨fun h => ⟨fun q hq => h q (Or.inl hq), fun q hq => h q (Or.inr hq)⟩, fun h q hq => hq.elim (h.1 q) (h.2 q)⟩
theorem bh_Dapp {A : Nat → Prop} {a b : va_W} : va_D A (a ++ b) ↔ va_D A a ∧ va_D A b ∧ ∀ x ∈ a, ∀ y ∈ b, x.1 ≠ y.1 := by
  simp only [bh_Dmem, List.map_append, List.nodup_append, List.mem_append, List.mem_map]
  constructor
  · rintro ⟨⟨h1, h2, h3⟩, h4⟩
    exact ⟨⟨h1, fun q hq => h4 q (Or.inl hq)⟩, ⟨h2, fun q hq => h4 q (Or.inr hq)⟩, fun x hx y hy => h3 _ ⟨x, hx, rfl⟩ _ ⟨y, hy, rfl⟩⟩
  · rintro ⟨⟨h1, h2⟩, ⟨h3, h4⟩, h5⟩
    refine ⟨⟨h1, h3, ?_⟩, fun q hq => hq.elim (h2 q) (h4 q)⟩
    rintro _ ⟨x, hx, rfl⟩ _ ⟨y, hy, rfl⟩
    exact h5 x hx y hy
/-- behind a call: what wasn't the callee's stays, its own world comes back -/
theorem bh_join {A0 : Nat → Prop} {D : va_G} {wc wr w1 : va_W} {H H1 : Heap} (hP : va_P D vwCl (wr ++ wc) H) (hD : va_D A0 (wr ++ wc))
    (hk : ∀ q : Nat, q < H.size → ¬ va_A wc H.size q → H1[q]? = H[q]?) (hF : ∀ q, va_A wc H.size q → A0 q) (hP1 : va_P D vwCl w1 H1) (hD1 : va_D (va_A wc H.size) w1) : va_P D vwCl (wr ++ w1) H1 ∧ va_D A0 (wr ++ w1) := by
  obtain ⟨hPr, hPc⟩ := bh_Papp.mp hP
  obtain ⟨hDr, hDc, hx⟩ := bh_Dapp.mp hD
  have apart : ∀ q ∈ wr, q.1 < H.size ∧ ¬ va_A wc H.size q.1 := by
    intro q hq
    have hl := (bh_Pmem.mp hPr q hq).lt
    refine ⟨hl, fun h => ?_⟩
    rcases h with ⟨k2, e2, h⟩ | h
    · exact hx q hq (q.1, e2) (List.mem_of_getElem? h) rfl
    · omega
  refine ⟨bh_Papp.mpr ⟨bh_Pmem.mpr fun q hq => ?_, hP1⟩, bh_Dapp.mpr ⟨hDr, hD1.weaken (fun k q _ h => hF q.1 h), fun x hx2 y hy hxy => ?_⟩⟩
  · obtain ⟨g1, g2⟩ := apart q hq
    exact (bh_Pmem.mp hPr q hq).kept (hk q.1 g1 g2)
  · obtain ⟨k, hk2⟩ := List.mem_iff_getElem?.mp hy
    exact (apart x hx2).2 (by rw [hxy]; exact hD1.2 k y hk2)
theorem bh_free {A0 : Nat → Prop} {wc wr : va_W} {H0 H : Heap} {locs : List Loc} (hD : va_D A0 (wr ++ wc)) (hS : va_S A0 H0 H locs) (hA : ∀ q, H0.size ≤ q → A0 q) : ∀ q, va_A wc H.size q → A0 q := by
  intro q h
  rcases h with ⟨k, e2, h⟩ | h
  · exact (bh_Dapp.mp hD).2.1.2 k (q, e2) h
  · exact hA q (Nat.le_trans hS.1 h)
theorem bh_perm (hp : w.Perm w') (kk : bh_W p l e R s m args below meth c nL D A cells slots Q (w') lv (pc) (st)) : bh_W p l e R s m args below meth c nL D A cells slots Q (w) lv (pc) (st) := fun H locs ls hP hD hS h => kk H locs ls (bh_Pperm hp hP) (bh_Dperm hp hD) hS h
theorem bh_get (C : bh_C p s m args meth c cc nL Ts own D tys A ret) {Cn : String} {T : u_T} {N ci index : Nat} (hin : ∀ z ∈ u_ws Cn T N, z ∈ Ts) (q0 : Nat) {a : Nat} {fs : List Value} (he : w[q0]? = some (a, .inr (ci, fs))) (hc : vwCl[ci]? = some (Cn, T, N)) (k : Nat) (hk : k < N) (hlink : Cond.fieldLink own index Cn (T k).2.1 (T k).2.2.1 ∈ Ts) (hsame : (T k).1 = Cn) {v : Value} (hv : fs[k]? = some v) (hdg : decode cc pc = .ok (.getfield index, 3)) (kk : bh_W p l e R s m args below meth c nL D A cells slots Q (w) lv (pc + 3) (v :: st)) : bh_W p l e R s m args below meth c nL D A cells slots Q (w) lv (pc) (.ref a :: st) := by
  intro H locs ls hP hD hS h
  obtain ⟨⟨hx, hb, hml, hown, hts⟩, hK, hA, hr, hlk⟩ := C
  exact va_get hx hb hts hin hown hK hP q0 he hc k hk (hts _ hlink) (fun _ h9 => by rw [hsame] at h9; exact h9) hv hdg (kk H locs ls hP hD hS h)
theorem bh_put (C : bh_C p s m args meth c cc nL Ts own D tys A ret) {Cn : String} {T : u_T} {N ci index : Nat} (hin : ∀ z ∈ u_ws Cn T N, z ∈ Ts) (ty0 : Nat → FieldType) (hty : ∀ k, k < N → parseFieldDescriptor (T k).2.2.1 = some (ty0 k)) (hnm : ∀ a, a < N → ∀ b, b < N → a ≠ b → (T a).2.1 ≠ (T b).2.1) (q0 : Nat) {a : Nat} {fs : List Value} (he : w[q0]? = some (a, .inr (ci, fs))) (hc : vwCl[ci]? = some (Cn, T, N)) (k : Nat) (hk : k < N) (hlink : Cond.fieldLink own index Cn (T k).2.1 (T k).2.2.1 ∈ Ts) (hsame : (T k).1 = Cn) (hfin : (T k).2.2.2 = false) {ty : FieldType} {v : Value} (hd : parseFieldDescriptor (T k).2.2.1 = some ty) (hn : narrow ty v = v) (hfit : fits ty v = true) (hl : k < fs.length) (hdg : decode cc pc = .ok (.putfield index, 3)) (hw : w.set q0 (a, .inr (ci, fs.set k v)) = w') (kk : bh_W p l e R s m args below meth c nL D A cells slots Q (w') lv (pc + 3) (st)) : bh_W p l e R s m args below meth c nL D A cells slots Q (w) lv (pc) (v :: .ref a :: st) := by
  intro H locs ls hP hD hS h
  obtain ⟨⟨hx, hb, hml, hown, hts⟩, hK, hA, hr, hlk⟩ := C
  subst hw
  exact va_put hx hb hts hin ty0 hty hnm hown hK hP hD hS q0 he hc k hk (hts _ hlink) (fun _ h9 => by rw [hsame] at h9; exact h9) hfin hd hn hfit hl hdg (fun H1 locs1 hP1 hD1 hS1 => kk H1 locs1 ls hP1 hD1 hS1 h)
theorem bh_iald (C : bh_C p s m args meth c cc nL Ts own D tys A ret) (q0 t0 : Nat) {a : Nat} {cA : ClassId} {n : Nat} {f : Nat → Int32} (ha : w[q0]? = some (a, .inl (cA, n, .inl f))) (ht : tys[t0]? = some (cA, .int)) {i : Int32} (hin : vp_in i n) {x : Int32} (hv : f i.toNatClampNeg = x) (hdg : decode cc pc = .ok (.iaload, 1)) (kk : bh_W p l e R s m args below meth c nL D A cells slots Q (w) lv (pc + 1) (.int x :: st)) : bh_W p l e R s m args below meth c nL D A cells slots Q (w) lv (pc) (.int i :: .ref a :: st) := by
  intro H locs ls hP hD hS h
  obtain ⟨⟨hx, hb, hml, hown, hts⟩, hK, hA, hr, hlk⟩ := C
  subst hv
  exact va_iald hx hb hK hP q0 t0 ha ht hin hdg (kk H locs ls hP hD hS h)
theorem bh_zald (C : bh_C p s m args meth c cc nL Ts own D tys A ret) (q0 t0 : Nat) {a : Nat} {cA : ClassId} {n : Nat} {f : Nat → Int32} (ha : w[q0]? = some (a, .inl (cA, n, .inl f))) (ht : tys[t0]? = some (cA, .boolean)) {i : Int32} (hin : vp_in i n) {x : Int32} (hv : f i.toNatClampNeg = x) (hdg : decode cc pc = .ok (.baload, 1)) (kk : bh_W p l e R s m args below meth c nL D A cells slots Q (w) lv (pc + 1) (.int x :: st)) : bh_W p l e R s m args below meth c nL D A cells slots Q (w) lv (pc) (.int i :: .ref a :: st) := by
  intro H locs ls hP hD hS h
  obtain ⟨⟨hx, hb, hml, hown, hts⟩, hK, hA, hr, hlk⟩ := C
  subst hv
  exact va_zald hx hb hK hP q0 t0 ha ht hin hdg (kk H locs ls hP hD hS h)
theorem bh_iast (C : bh_C p s m args meth c cc nL Ts own D tys A ret) (q0 t0 : Nat) {a : Nat} {cA : ClassId} {n : Nat} {f : Nat → Int32} (ha : w[q0]? = some (a, .inl (cA, n, .inl f))) (ht : tys[t0]? = some (cA, .int)) {i x : Int32} (hin : vp_in i n) (hdg : decode cc pc = .ok (.iastore, 1)) (hw : w.set q0 (a, .inl (cA, n, .inl (upd f i.toNatClampNeg (x)))) = w') (kk : bh_W p l e R s m args below meth c nL D A cells slots Q (w') lv (pc + 1) (st)) : bh_W p l e R s m args below meth c nL D A cells slots Q (w) lv (pc) (.int x :: .int i :: .ref a :: st) := by
  intro H locs ls hP hD hS h
  obtain ⟨⟨hx, hb, hml, hown, hts⟩, hK, hA, hr, hlk⟩ := C
  subst hw
  exact va_iast hx hb hK hP hD hS q0 t0 ha ht hin hdg (fun H1 locs1 hP1 hD1 hS1 => kk H1 locs1 ls hP1 hD1 hS1 h)
theorem bh_zast (C : bh_C p s m args meth c cc nL Ts own D tys A ret) (q0 t0 : Nat) {a : Nat} {cA : ClassId} {n : Nat} {f : Nat → Int32} (ha : w[q0]? = some (a, .inl (cA, n, .inl f))) (ht : tys[t0]? = some (cA, .boolean)) {i x : Int32} (hin : vp_in i n) (hdg : decode cc pc = .ok (.bastore, 1)) (hw : w.set q0 (a, .inl (cA, n, .inl (upd f i.toNatClampNeg (vp_nar .boolean x)))) = w') (kk : bh_W p l e R s m args below meth c nL D A cells slots Q (w') lv (pc + 1) (st)) : bh_W p l e R s m args below meth c nL D A cells slots Q (w) lv (pc) (.int x :: .int i :: .ref a :: st) := by
  intro H locs ls hP hD hS h
  obtain ⟨⟨hx, hb, hml, hown, hts⟩, hK, hA, hr, hlk⟩ := C
  subst hw
  exact va_zast hx hb hK hP hD hS q0 t0 ha ht hin hdg (fun H1 locs1 hP1 hD1 hS1 => kk H1 locs1 ls hP1 hD1 hS1 h)
theorem bh_lald (C : bh_C p s m args meth c cc nL Ts own D tys A ret) (q0 t0 : Nat) {a : Nat} {cA : ClassId} {n : Nat} {f : Nat → Int64} (ha : w[q0]? = some (a, .inl (cA, n, .inr (.inl f)))) (ht : tys[t0]? = some (cA, .long)) {i : Int32} (hin : vp_in i n) {x : Int64} (hv : f i.toNatClampNeg = x) (hdg : decode cc pc = .ok (.laload, 1)) (kk : bh_W p l e R s m args below meth c nL D A cells slots Q (w) lv (pc + 1) (.long x :: st)) : bh_W p l e R s m args below meth c nL D A cells slots Q (w) lv (pc) (.int i :: .ref a :: st) := by
  intro H locs ls hP hD hS h
  obtain ⟨⟨hx, hb, hml, hown, hts⟩, hK, hA, hr, hlk⟩ := C
  subst hv
  exact va_lald hx hb hK hP q0 t0 ha ht hin hdg (kk H locs ls hP hD hS h)
theorem bh_last (C : bh_C p s m args meth c cc nL Ts own D tys A ret) (q0 t0 : Nat) {a : Nat} {cA : ClassId} {n : Nat} {f : Nat → Int64} (ha : w[q0]? = some (a, .inl (cA, n, .inr (.inl f)))) (ht : tys[t0]? = some (cA, .long)) {i : Int32} {x : Int64} (hin : vp_in i n) (hdg : decode cc pc = .ok (.lastore, 1)) (hw : w.set q0 (a, .inl (cA, n, .inr (.inl (vp_updL f i.toNatClampNeg x)))) = w') (kk : bh_W p l e R s m args below meth c nL D A cells slots Q (w') lv (pc + 1) (st)) : bh_W p l e R s m args below meth c nL D A cells slots Q (w) lv (pc) (.long x :: .int i :: .ref a :: st) := by
  intro H locs ls hP hD hS h
  obtain ⟨⟨hx, hb, hml, hown, hts⟩, hK, hA, hr, hlk⟩ := C
  subst hw
  exact va_last hx hb hK hP hD hS q0 t0 ha ht hin hdg (fun H1 locs1 hP1 hD1 hS1 => kk H1 locs1 ls hP1 hD1 hS1 h)
theorem bh_mmax (C : bh_C p s m args meth c cc nL Ts own D tys A ret) {index : Nat} (hlink : Cond.methodLink own index Lib.Math.max.name ∈ Ts) (hstat : Cond.static Lib.Math.max.name ∈ Ts) (hini : Cond.initialized "java/lang/Math" ∈ Ts) (hcode : Cond.code Lib.Math.max.name Lib.Math.max.code 2 (some .int) ∈ Ts) (hframes : 1 ≤ R.frames) (hlocals : (st.map fun v => v.category).sum + 13 ≤ R.locals) (hc : cells ≤ R.cells) (hs : slots ≤ R.slots) {x y : Int32} (hdg : decode cc pc = .ok (.invokestatic index, 3)) (kk : bh_W p l e R s m args below meth c nL D A cells slots Q (w) lv (pc + 3) (.int (if x < y then y else x) :: st)) : bh_W p l e R s m args below meth c nL D A cells slots Q (w) lv (pc) (.int y :: .int x :: st) := by
  intro H locs ls hP hD hS h
  obtain ⟨⟨hx, hb, hml, hown, hts⟩, hK, hA, hr, hlk⟩ := C
  exact va_mmax hx hb (hml.trans h.1.symm) hown (hts _ hlink) (hts _ hstat) (hts _ hini) (hts _ hcode) hframes hlocals hc hs hdg (kk H locs ls hP hD hS h)
theorem bh_mabs (C : bh_C p s m args meth c cc nL Ts own D tys A ret) {index : Nat} (hlink : Cond.methodLink own index Lib.Math.abs.name ∈ Ts) (hstat : Cond.static Lib.Math.abs.name ∈ Ts) (hini : Cond.initialized "java/lang/Math" ∈ Ts) (hcode : Cond.code Lib.Math.abs.name Lib.Math.abs.code 1 (some .int) ∈ Ts) (hframes : 1 ≤ R.frames) (hlocals : (st.map fun v => v.category).sum + 13 ≤ R.locals) (hc : cells ≤ R.cells) (hs : slots ≤ R.slots) {x : Int32} (hdg : decode cc pc = .ok (.invokestatic index, 3)) (kk : bh_W p l e R s m args below meth c nL D A cells slots Q (w) lv (pc + 3) (.int (if 0 ≤ x then x else 0 - x) :: st)) : bh_W p l e R s m args below meth c nL D A cells slots Q (w) lv (pc) (.int x :: st) := by
  intro H locs ls hP hD hS h
  obtain ⟨⟨hx, hb, hml, hown, hts⟩, hK, hA, hr, hlk⟩ := C
  exact va_mabs hx hb (hml.trans h.1.symm) hown (hts _ hlink) (hts _ hstat) (hts _ hini) (hts _ hcode) hframes hlocals hc hs hdg (kk H locs ls hP hD hS h)
/-- a world at a method's end -/
def bh_B (D : va_G) (tys : List (ClassId × FieldType)) (A1 : Nat → Prop) (w : va_W) (t : State) : Prop := va_P D vwCl w t.heap ∧ va_K D vwCl tys t ∧ va_D A1 w
def bh_P0 (D : va_G) (tys : List (ClassId × FieldType)) (w0 : va_W) (sz : Nat) (U : State) : Prop := U.heap.size = sz ∧ va_P D vwCl w0 U.heap ∧ va_K D vwCl tys U ∧ va_D (fun _ => True) w0
/-- contracts: int, void; over any state u whose world is wf u -/
def bh_Mi {S : Type} (l : Launch) (D : va_G) (tys : List (ClassId × FieldType)) (y : MethodName) (ws : List Cond) (rm : Room) (av : List Value) (w0 : va_W) (post : Int32 → S → Prop) (wf : S → va_W) (mc ms : Nat) : Prop :=
  ∀ sz : Nat, Met l y ws rm (va_Pc av (bh_P0 D tys w0 sz)) (va_Qi post (fun u t => bh_B D tys (va_A w0 sz) (wf u) t) (va_A w0 sz)) mc ms (va_A w0 sz)
def bh_Mv {S : Type} (l : Launch) (D : va_G) (tys : List (ClassId × FieldType)) (y : MethodName) (ws : List Cond) (rm : Room) (av : List Value) (w0 : va_W) (post : S → Prop) (wf : S → va_W) (mc ms : Nat) : Prop :=
  ∀ sz : Nat, Met l y ws rm (va_Pc av (bh_P0 D tys w0 sz)) (va_Qv post (fun u t => bh_B D tys (va_A w0 sz) (wf u) t) (va_A w0 sz)) mc ms (va_A w0 sz)
theorem bh_blind {D : va_G} {tys : List (ClassId × FieldType)} {w0 : va_W} {sz : Nat} {av : List Value} : FrameBlind (va_Pc av (bh_P0 D tys w0 sz)) := fun a U g mk q => by
  obtain ⟨q0, q1, qP, qK, qD⟩ := q
  exact ⟨q0, q1, qP, va_K.moved (u := U) (U := U.calling g mk a) (Vm.Alike.refl U.vm) qK, qD⟩
theorem bh_ofi {S : Type} {y : MethodName} {ws ws' : List Cond} {rm : Room} {av : List Value} {w0 : va_W} {post : Int32 → S → Prop} {wf : S → va_W} {mc ms : Nat} {cc : ByteArray} {maxL : Nat} {ty : FieldType} (hy : plainName y.cls = true) (hw : ws = Cond.code y cc maxL (some ty) :: ws') (hn : (lg_sl av).length ≤ maxL)
    (body : ∀ (p : Program) (e : Env) (s : State) (m : MethodId) (args : Array Value) (below : List Frame) (meth : Method) (c : Code) (A : Nat → Prop) (Q : State → Prop), (y.name = "<init>" → meth.name = "<init>") → bh_C p s m args meth c cc maxL ws y.cls D tys A (some ty) → Q = MQ below (va_Qi post (fun u t => bh_B D tys A (wf u) t) A) args s mc ms A → bh_W p l e rm s m args below meth c maxL D A 0 0 Q w0 (lv_args 0 av) 0 []) : bh_Mi l D tys y ws rm av w0 post wf mc ms := by
  intro sz
  refine Met.ofW (cc := cc) (maxL := maxL) (ret := (some ty)) hy hw ?_
  intro p e s m args below meth c s₁ B hml hv
  obtain ⟨rfl, hsz, hP, hK, hD0⟩ := hv
  subst hsz
  have hl := lv_entry av (n := maxL) hn
  rw [lg_entry_eq]
  exact body p e s m _ below meth c (va_A w0 s.heap.size) _ (fun h => (name_of_methodNamed B.named B.method).1.trans h) ⟨⟨B.exec, B.bytes, hml, findClass_of_methodNamed B.named, atoms_spec (ws := ws) B.pre⟩, hK, fun q h => Or.inr h, B.returns, B.notSynchronized⟩ rfl s.heap [] _ hP hD0.self va_S.rf hl
theorem bh_ofv {S : Type} {y : MethodName} {ws ws' : List Cond} {rm : Room} {av : List Value} {w0 : va_W} {post : S → Prop} {wf : S → va_W} {mc ms : Nat} {cc : ByteArray} {maxL : Nat} (hy : plainName y.cls = true) (hw : ws = Cond.code y cc maxL none :: ws') (hn : (lg_sl av).length ≤ maxL)
    (body : ∀ (p : Program) (e : Env) (s : State) (m : MethodId) (args : Array Value) (below : List Frame) (meth : Method) (c : Code) (A : Nat → Prop) (Q : State → Prop), (y.name = "<init>" → meth.name = "<init>") → bh_C p s m args meth c cc maxL ws y.cls D tys A none → Q = MQ below (va_Qv post (fun u t => bh_B D tys A (wf u) t) A) args s mc ms A → bh_W p l e rm s m args below meth c maxL D A 0 0 Q w0 (lv_args 0 av) 0 []) : bh_Mv l D tys y ws rm av w0 post wf mc ms := by
  intro sz
  refine Met.ofW (cc := cc) (maxL := maxL) (ret := none) hy hw ?_
  intro p e s m args below meth c s₁ B hml hv
  obtain ⟨rfl, hsz, hP, hK, hD0⟩ := hv
  subst hsz
  have hl := lv_entry av (n := maxL) hn
  rw [lg_entry_eq]
  exact body p e s m _ below meth c (va_A w0 s.heap.size) _ (fun h => (name_of_methodNamed B.named B.method).1.trans h) ⟨⟨B.exec, B.bytes, hml, findClass_of_methodNamed B.named, atoms_spec (ws := ws) B.pre⟩, hK, fun q h => Or.inr h, B.returns, B.notSynchronized⟩ rfl s.heap [] _ hP hD0.self va_S.rf hl
theorem bh_iret {S : Type} {post : Int32 → S → Prop} {wf : S → va_W} {mc ms : Nat} (C : bh_C p s m args meth c cc nL Ts own D tys A (some .int)) (hQ : Q = MQ below (va_Qi post (fun u t => bh_B D tys A (wf u) t) A) args s mc ms A) (hdg : decode cc pc = .ok (.ireturn, 1)) {v : Int32} (u : S) (hw : w = wf u) (hc : cells ≤ mc) (hs : slots ≤ ms) (hp : post v u) :
    bh_W p l e R s m args below meth c nL D A cells slots Q w lv pc [.int v] := by
  subst hQ
  intro H locs ls hP hD hS h
  obtain ⟨⟨hx, hb, hml, hown, hts⟩, hK, hA, hr, hlk⟩ := C
  subst hw
  refine W.widen hc hs ?_
  exact W.iret hx hb hr (fun t ht hW => ⟨⟨v, u, rfl, hp, by rw [ht]; exact hP, va_K.moved hW.alike hK, hD⟩, hS.F ht⟩) hS.2.2 hdg hlk
theorem bh_zret {S : Type} {post : Int32 → S → Prop} {wf : S → va_W} {mc ms : Nat} {ty : FieldType} (C : bh_C p s m args meth c cc nL Ts own D tys A (some ty)) (hQ : Q = MQ below (va_Qi post (fun u t => bh_B D tys A (wf u) t) A) args s mc ms A) (hdg : decode cc pc = .ok (.ireturn, 1)) {v : Int32} (u : S) (hw : w = wf u) (hn : narrow ty (.int v) = .int v) (hc : cells ≤ mc) (hs : slots ≤ ms) (hp : post v u) :
    bh_W p l e R s m args below meth c nL D A cells slots Q w lv pc [.int v] := by
  subst hQ
  intro H locs ls hP hD hS h
  obtain ⟨⟨hx, hb, hml, hown, hts⟩, hK, hA, hr, hlk⟩ := C
  subst hw
  refine W.widen hc hs ?_
  exact W.zret hx hb hr hn (fun t ht hW => ⟨⟨v, u, rfl, hp, by rw [ht]; exact hP, va_K.moved hW.alike hK, hD⟩, hS.F ht⟩) hS.2.2 hdg hlk
theorem bh_vret {S : Type} {post : S → Prop} {wf : S → va_W} {mc ms : Nat} (C : bh_C p s m args meth c cc nL Ts own D tys A none) (hQ : Q = MQ below (va_Qv post (fun u t => bh_B D tys A (wf u) t) A) args s mc ms A) (hdg : decode cc pc = .ok (.return_, 1)) (u : S) (hw : w = wf u) (hc : cells ≤ mc) (hs : slots ≤ ms) (hp : post u) :
    bh_W p l e R s m args below meth c nL D A cells slots Q w lv pc [] := by
  subst hQ
  intro H locs ls hP hD hS h
  obtain ⟨⟨hx, hb, hml, hown, hts⟩, hK, hA, hr, hlk⟩ := C
  subst hw
  refine W.widen hc hs ?_
  exact W.vret hx hb hr (fun t ht hW => ⟨⟨u, rfl, hp, by rw [ht]; exact hP, va_K.moved hW.alike hK, hD⟩, hS.F ht⟩) hS.2.2 hdg hlk
theorem bh_calli_V (C : bh_C p s m args meth c cc nL Ts own D tys A ret) {S : Type} {post : Int32 → S → Prop} {wf : S → va_W} {wc wr : va_W} {mc ms n index maxL : Nat} {y : MethodName} {bytes : ByteArray} {rt : Option FieldType} {ws : List Cond} {rm : Room} {b : Addr} {As : List Value} {Cn : String} {T : u_T} {N ci : Nat} {fs : List Value} (hM : bh_Mi l D tys y ws rm (.ref b :: As) wc post wf mc ms) (cw : CallW R s args own Cn index y bytes maxL rt ws rm mc ms n) (hsp : w.Perm (wr ++ wc)) (hcn : vwCl[ci]? = some (Cn, T, N)) (q0 : Nat) (hb0 : wc[q0]? = some (b, .inr (ci, fs))) (hn : As.length = n) (hst : st = As.reverse ++ .ref b :: rest) (hcat : (rest.map fun v => v.category).sum ≤ 8) (hdg : decode cc pc = .ok (.invokevirtual index, 3)) (hf : cells + mc ≤ R.cells ∧ slots + ms ≤ R.slots) (kk : ∀ (r : Int32) (u : S), post r u → bh_W p l e R s m args below meth c nL D A (cells + mc) (slots + ms) Q (wr ++ wf u) lv (pc + 3) (.int r :: rest)) : bh_W p l e R s m args below meth c nL D A cells slots Q (w) lv (pc) (st) := by
  intro H locs ls hP hD hS h
  obtain ⟨S0, hK, hA, hr, hlk⟩ := C
  have hP2 := bh_Pperm hsp hP
  have hD2 := bh_Dperm hsp hD
  have hF := bh_free hD2 hS hA
  have hPc := (bh_Papp.mp hP2).2
  have hDc : va_D (fun _ => True) wc := ((bh_Dapp.mp hD2).2.1).weaken (fun _ _ _ _ => trivial)
  refine va_calli (va_runV (As := As) (rest := rest) S0 (hM H.size) cw ⟨bh_blind, va_recv hK hPc hcn hb0, fun U hU hW => ⟨rfl, by rw [hU], by rw [hU]; exact hPc, va_K.moved hW.alike hK, hDc⟩⟩ rfl hn h.1 hst (lv_room hcat) hdg hf) hS (fun q _ h => hF q h) hF (fun r u t H1 locs1 ht hvm hp hB hz1 hk1 hS1 => ?_)
  obtain ⟨hP1, hK1, hD1⟩ := hB
  rw [ht] at hP1
  obtain ⟨hP3, hD3⟩ := bh_join hP2 hD2 hk1 hF hP1 hD1
  exact kk r u hp H1 locs1 ls hP3 hD3 hS1 h
theorem bh_calli_S (C : bh_C p s m args meth c cc nL Ts own D tys A ret) {S : Type} {post : Int32 → S → Prop} {wf : S → va_W} {wc wr : va_W} {mc ms n index maxL : Nat} {y : MethodName} {bytes : ByteArray} {rt : Option FieldType} {ws : List Cond} {rm : Room} {As : List Value} (hM : bh_Mi l D tys y ws rm As wc post wf mc ms) (cw : CallB R s args own index y bytes maxL rt ws rm mc ms n ∧ (Cond.static y).before args s = true) (hsp : w.Perm (wr ++ wc)) (hn : As.length = n) (hst : st = As.reverse ++ rest) (hcat : (rest.map fun v => v.category).sum ≤ 8) (hdg : decode cc pc = .ok (.invokestatic index, 3)) (hf : cells + mc ≤ R.cells ∧ slots + ms ≤ R.slots) (kk : ∀ (r : Int32) (u : S), post r u → bh_W p l e R s m args below meth c nL D A (cells + mc) (slots + ms) Q (wr ++ wf u) lv (pc + 3) (.int r :: rest)) : bh_W p l e R s m args below meth c nL D A cells slots Q (w) lv (pc) (st) := by
  intro H locs ls hP hD hS h
  obtain ⟨S0, hK, hA, hr, hlk⟩ := C
  have hP2 := bh_Pperm hsp hP
  have hD2 := bh_Dperm hsp hD
  have hF := bh_free hD2 hS hA
  have hPc := (bh_Papp.mp hP2).2
  have hDc : va_D (fun _ => True) wc := ((bh_Dapp.mp hD2).2.1).weaken (fun _ _ _ _ => trivial)
  refine va_calli (va_runS (As := As) (rest := rest) S0 (hM H.size) cw ⟨bh_blind, fun U hU hW => ⟨rfl, by rw [hU], by rw [hU]; exact hPc, va_K.moved hW.alike hK, hDc⟩⟩ rfl hn h.1 hst (lv_room hcat) hdg hf) hS (fun q _ h => hF q h) hF (fun r u t H1 locs1 ht hvm hp hB hz1 hk1 hS1 => ?_)
  obtain ⟨hP1, hK1, hD1⟩ := hB
  rw [ht] at hP1
  obtain ⟨hP3, hD3⟩ := bh_join hP2 hD2 hk1 hF hP1 hD1
  exact kk r u hp H1 locs1 ls hP3 hD3 hS1 h
theorem bh_callv_V (C : bh_C p s m args meth c cc nL Ts own D tys A ret) {S : Type} {post : S → Prop} {wf : S → va_W} {wc wr : va_W} {mc ms n index maxL : Nat} {y : MethodName} {bytes : ByteArray} {rt : Option FieldType} {ws : List Cond} {rm : Room} {b : Addr} {As : List Value} {Cn : String} {T : u_T} {N ci : Nat} {fs : List Value} (hM : bh_Mv l D tys y ws rm (.ref b :: As) wc post wf mc ms) (cw : CallW R s args own Cn index y bytes maxL rt ws rm mc ms n) (hsp : w.Perm (wr ++ wc)) (hcn : vwCl[ci]? = some (Cn, T, N)) (q0 : Nat) (hb0 : wc[q0]? = some (b, .inr (ci, fs))) (hn : As.length = n) (hst : st = As.reverse ++ .ref b :: rest) (hcat : (rest.map fun v => v.category).sum ≤ 8) (hdg : decode cc pc = .ok (.invokevirtual index, 3)) (hf : cells + mc ≤ R.cells ∧ slots + ms ≤ R.slots) (kk : ∀ u : S, post u → bh_W p l e R s m args below meth c nL D A (cells + mc) (slots + ms) Q (wr ++ wf u) lv (pc + 3) (rest)) : bh_W p l e R s m args below meth c nL D A cells slots Q (w) lv (pc) (st) := by
  intro H locs ls hP hD hS h
  obtain ⟨S0, hK, hA, hr, hlk⟩ := C
  have hP2 := bh_Pperm hsp hP
  have hD2 := bh_Dperm hsp hD
  have hF := bh_free hD2 hS hA
  have hPc := (bh_Papp.mp hP2).2
  have hDc : va_D (fun _ => True) wc := ((bh_Dapp.mp hD2).2.1).weaken (fun _ _ _ _ => trivial)
  refine va_callv (va_runV (As := As) (rest := rest) S0 (hM H.size) cw ⟨bh_blind, va_recv hK hPc hcn hb0, fun U hU hW => ⟨rfl, by rw [hU], by rw [hU]; exact hPc, va_K.moved hW.alike hK, hDc⟩⟩ rfl hn h.1 hst (lv_room hcat) hdg hf) hS (fun q _ h => hF q h) hF (fun u t H1 locs1 ht hvm hp hB hz1 hk1 hS1 => ?_)
  obtain ⟨hP1, hK1, hD1⟩ := hB
  rw [ht] at hP1
  obtain ⟨hP3, hD3⟩ := bh_join hP2 hD2 hk1 hF hP1 hD1
  exact kk u hp H1 locs1 ls hP3 hD3 hS1 h
theorem bh_callv_S (C : bh_C p s m args meth c cc nL Ts own D tys A ret) {S : Type} {post : S → Prop} {wf : S → va_W} {wc wr : va_W} {mc ms n index maxL : Nat} {y : MethodName} {bytes : ByteArray} {rt : Option FieldType} {ws : List Cond} {rm : Room} {As : List Value} (hM : bh_Mv l D tys y ws rm As wc post wf mc ms) (cw : CallB R s args own index y bytes maxL rt ws rm mc ms n ∧ (Cond.static y).before args s = true) (hsp : w.Perm (wr ++ wc)) (hn : As.length = n) (hst : st = As.reverse ++ rest) (hcat : (rest.map fun v => v.category).sum ≤ 8) (hdg : decode cc pc = .ok (.invokestatic index, 3)) (hf : cells + mc ≤ R.cells ∧ slots + ms ≤ R.slots) (kk : ∀ u : S, post u → bh_W p l e R s m args below meth c nL D A (cells + mc) (slots + ms) Q (wr ++ wf u) lv (pc + 3) (rest)) : bh_W p l e R s m args below meth c nL D A cells slots Q (w) lv (pc) (st) := by
  intro H locs ls hP hD hS h
  obtain ⟨S0, hK, hA, hr, hlk⟩ := C
  have hP2 := bh_Pperm hsp hP
  have hD2 := bh_Dperm hsp hD
  have hF := bh_free hD2 hS hA
  have hPc := (bh_Papp.mp hP2).2
  have hDc : va_D (fun _ => True) wc := ((bh_Dapp.mp hD2).2.1).weaken (fun _ _ _ _ => trivial)
  refine va_callv (va_runS (As := As) (rest := rest) S0 (hM H.size) cw ⟨bh_blind, fun U hU hW => ⟨rfl, by rw [hU], by rw [hU]; exact hPc, va_K.moved hW.alike hK, hDc⟩⟩ rfl hn h.1 hst (lv_room hcat) hdg hf) hS (fun q _ h => hF q h) hF (fun u t H1 locs1 ht hvm hp hB hz1 hk1 hS1 => ?_)
  obtain ⟨hP1, hK1, hD1⟩ := hB
  rw [ht] at hP1
  obtain ⟨hP3, hD3⟩ := bh_join hP2 hD2 hk1 hF hP1 hD1
  exact kk u hp H1 locs1 ls hP3 hD3 hS1 h
end BHK
end
section
abbrev MT : Type := Nat × Nat × Nat × Nat × (Nat → Int32) × (Nat → Int32) × (Nat → Int32) × (Nat → Int32) × (Nat → Int32) × (Nat → Int32) × (Nat → Int32) × (Nat → Int32) × (Nat → Int32) × (Nat → Int32) × (Nat → Int32) × (Nat → Int32) × (Nat → Int32)
def mq_now (M : MT) : Nat := M.1
def mq_fc (M : MT) : Nat := M.2.1
def mq_bc (M : MT) : Nat := M.2.2.1
def mq_sc (M : MT) : Nat := M.2.2.2.1
def mq_dep (M : MT) : Nat → Int32 := M.2.2.2.2.1
def mq_lat (M : MT) : Nat → Int32 := M.2.2.2.2.2.1
def mq_brd (M : MT) : Nat → Int32 := M.2.2.2.2.2.2.1
def mq_bf (M : MT) : Nat → Int32 := M.2.2.2.2.2.2.2.1
def mq_br (M : MT) : Nat → Int32 := M.2.2.2.2.2.2.2.2.1
def mq_pu (M : MT) : Nat → Int32 := M.2.2.2.2.2.2.2.2.2.1
def mq_pl (M : MT) : Nat → Int32 := M.2.2.2.2.2.2.2.2.2.2.1
def mq_ls (M : MT) : Nat → Int32 := M.2.2.2.2.2.2.2.2.2.2.2.1
def mq_ca (M : MT) : Nat → Int32 := M.2.2.2.2.2.2.2.2.2.2.2.2.1
def mq_at (M : MT) : Nat → Int32 := M.2.2.2.2.2.2.2.2.2.2.2.2.2.1
def mq_sb (M : MT) : Nat → Int32 := M.2.2.2.2.2.2.2.2.2.2.2.2.2.2.1
def mq_sp (M : MT) : Nat → Int32 := M.2.2.2.2.2.2.2.2.2.2.2.2.2.2.2.1
def mq_st (M : MT) : Nat → Int32 := M.2.2.2.2.2.2.2.2.2.2.2.2.2.2.2.2
def ms_now (M : MT) (v : Nat) : MT := (v, mq_fc M, mq_bc M, mq_sc M, mq_dep M, mq_lat M, mq_brd M, mq_bf M, mq_br M, mq_pu M, mq_pl M, mq_ls M, mq_ca M, mq_at M, mq_sb M, mq_sp M, mq_st M)
def ms_fc (M : MT) (v : Nat) : MT := (mq_now M, v, mq_bc M, mq_sc M, mq_dep M, mq_lat M, mq_brd M, mq_bf M, mq_br M, mq_pu M, mq_pl M, mq_ls M, mq_ca M, mq_at M, mq_sb M, mq_sp M, mq_st M)
def ms_bc (M : MT) (v : Nat) : MT := (mq_now M, mq_fc M, v, mq_sc M, mq_dep M, mq_lat M, mq_brd M, mq_bf M, mq_br M, mq_pu M, mq_pl M, mq_ls M, mq_ca M, mq_at M, mq_sb M, mq_sp M, mq_st M)
def ms_sc (M : MT) (v : Nat) : MT := (mq_now M, mq_fc M, mq_bc M, v, mq_dep M, mq_lat M, mq_brd M, mq_bf M, mq_br M, mq_pu M, mq_pl M, mq_ls M, mq_ca M, mq_at M, mq_sb M, mq_sp M, mq_st M)
def ms_dep (M : MT) (v : Nat → Int32) : MT := (mq_now M, mq_fc M, mq_bc M, mq_sc M, v, mq_lat M, mq_brd M, mq_bf M, mq_br M, mq_pu M, mq_pl M, mq_ls M, mq_ca M, mq_at M, mq_sb M, mq_sp M, mq_st M)
def ms_lat (M : MT) (v : Nat → Int32) : MT := (mq_now M, mq_fc M, mq_bc M, mq_sc M, mq_dep M, v, mq_brd M, mq_bf M, mq_br M, mq_pu M, mq_pl M, mq_ls M, mq_ca M, mq_at M, mq_sb M, mq_sp M, mq_st M)
def ms_brd (M : MT) (v : Nat → Int32) : MT := (mq_now M, mq_fc M, mq_bc M, mq_sc M, mq_dep M, mq_lat M, v, mq_bf M, mq_br M, mq_pu M, mq_pl M, mq_ls M, mq_ca M, mq_at M, mq_sb M, mq_sp M, mq_st M)
def ms_bf (M : MT) (v : Nat → Int32) : MT := (mq_now M, mq_fc M, mq_bc M, mq_sc M, mq_dep M, mq_lat M, mq_brd M, v, mq_br M, mq_pu M, mq_pl M, mq_ls M, mq_ca M, mq_at M, mq_sb M, mq_sp M, mq_st M)
def ms_br (M : MT) (v : Nat → Int32) : MT := (mq_now M, mq_fc M, mq_bc M, mq_sc M, mq_dep M, mq_lat M, mq_brd M, mq_bf M, v, mq_pu M, mq_pl M, mq_ls M, mq_ca M, mq_at M, mq_sb M, mq_sp M, mq_st M)
def ms_pu (M : MT) (v : Nat → Int32) : MT := (mq_now M, mq_fc M, mq_bc M, mq_sc M, mq_dep M, mq_lat M, mq_brd M, mq_bf M, mq_br M, v, mq_pl M, mq_ls M, mq_ca M, mq_at M, mq_sb M, mq_sp M, mq_st M)
def ms_pl (M : MT) (v : Nat → Int32) : MT := (mq_now M, mq_fc M, mq_bc M, mq_sc M, mq_dep M, mq_lat M, mq_brd M, mq_bf M, mq_br M, mq_pu M, v, mq_ls M, mq_ca M, mq_at M, mq_sb M, mq_sp M, mq_st M)
def ms_ls (M : MT) (v : Nat → Int32) : MT := (mq_now M, mq_fc M, mq_bc M, mq_sc M, mq_dep M, mq_lat M, mq_brd M, mq_bf M, mq_br M, mq_pu M, mq_pl M, v, mq_ca M, mq_at M, mq_sb M, mq_sp M, mq_st M)
def ms_ca (M : MT) (v : Nat → Int32) : MT := (mq_now M, mq_fc M, mq_bc M, mq_sc M, mq_dep M, mq_lat M, mq_brd M, mq_bf M, mq_br M, mq_pu M, mq_pl M, mq_ls M, v, mq_at M, mq_sb M, mq_sp M, mq_st M)
def ms_at (M : MT) (v : Nat → Int32) : MT := (mq_now M, mq_fc M, mq_bc M, mq_sc M, mq_dep M, mq_lat M, mq_brd M, mq_bf M, mq_br M, mq_pu M, mq_pl M, mq_ls M, mq_ca M, v, mq_sb M, mq_sp M, mq_st M)
def ms_sb (M : MT) (v : Nat → Int32) : MT := (mq_now M, mq_fc M, mq_bc M, mq_sc M, mq_dep M, mq_lat M, mq_brd M, mq_bf M, mq_br M, mq_pu M, mq_pl M, mq_ls M, mq_ca M, mq_at M, v, mq_sp M, mq_st M)
def ms_sp (M : MT) (v : Nat → Int32) : MT := (mq_now M, mq_fc M, mq_bc M, mq_sc M, mq_dep M, mq_lat M, mq_brd M, mq_bf M, mq_br M, mq_pu M, mq_pl M, mq_ls M, mq_ca M, mq_at M, mq_sb M, v, mq_st M)
def ms_st (M : MT) (v : Nat → Int32) : MT := (mq_now M, mq_fc M, mq_bc M, mq_sc M, mq_dep M, mq_lat M, mq_brd M, mq_bf M, mq_br M, mq_pu M, mq_pl M, mq_ls M, mq_ca M, mq_at M, mq_sb M, mq_sp M, v)
def wh_fieldsX (ad : Nat → Nat) (now fc bc sc : Nat) : List Value := [.int (nI now), .int (nI fc), .ref (ad 2), .ref (ad 3), .ref (ad 4), .int (nI bc), .ref (ad 6), .ref (ad 7), .ref (ad 8), .ref (ad 9), .ref (ad 10), .ref (ad 11), .ref (ad 12), .int (nI sc), .ref (ad 14), .ref (ad 15), .ref (ad 16)]
/-- the class's cells -/
def wh_hallX (cI cZ : ClassId) (ad : Nat → Nat) (now fc bc sc : Nat) (f_dep f_lat f_brd f_bf f_br f_pu f_pl f_ls f_ca f_at f_sb f_sp f_st : Nat → Int32) : va_W := (ad 0, .inr (0, wh_fieldsX ad now fc bc sc)) :: [(ad 2, .inl (cI, 10, .inl f_dep)), (ad 3, .inl (cI, 10, .inl f_lat)), (ad 4, .inl (cZ, 40, .inl f_brd)), (ad 6, .inl (cI, 48, .inl f_bf)), (ad 7, .inl (cI, 48, .inl f_br)), (ad 8, .inl (cZ, 48, .inl f_pu)), (ad 9, .inl (cI, 48, .inl f_pl)), (ad 10, .inl (cI, 48, .inl f_ls)), (ad 11, .inl (cI, 48, .inl f_ca)), (ad 12, .inl (cI, 12, .inl f_at)), (ad 14, .inl (cI, 2048, .inl f_sb)), (ad 15, .inl (cI, 2048, .inl f_sp)), (ad 16, .inl (cI, 2048, .inl f_st))]
def wh_hall (cI cZ : ClassId) (ad : Nat → Nat) (M : MT) : va_W := wh_hallX cI cZ ad (mq_now M) (mq_fc M) (mq_bc M) (mq_sc M) (mq_dep M) (mq_lat M) (mq_brd M) (mq_bf M) (mq_br M) (mq_pu M) (mq_pl M) (mq_ls M) (mq_ca M) (mq_at M) (mq_sb M) (mq_sp M) (mq_st M)
/-- the reference's cells -/
abbrev wh_tys (cI cZ _cL : ClassId) : List (ClassId × FieldType) := [(cI, .int), (cZ, .boolean)]
/-- how many of the first n -/
def mo_cn (f : Nat → Bool) : Nat → Nat
  | 0 => 0
  | n + 1 => mo_cn f n + (if f n then 1 else 0)
def mo_it (f : MT → Nat → MT) (M : MT) : Nat → MT
  | 0 => M
  | n + 1 => f (mo_it f M n) n
abbrev mo_closed (M : MT) (f : Int32) : Prop := mq_dep M f.toNatClampNeg - 10 ≤ nI (mq_now M)
abbrev mo_opened (M : MT) (f : Int32) : Prop := mq_dep M f.toNatClampNeg - 60 ≤ nI (mq_now M)
abbrev mo_fly (M : MT) (k : Nat) : Prop := mq_pu M k ≠ 0 ∨ mq_brd M (mq_br M k).toNatClampNeg ≠ 0
def mo_at (M : MT) (p : Int32) : Nat := mo_cn (fun j => decide (mq_pl M j = p)) 48
def mo_way (M : MT) (f : Int32) : Int32 := if mo_closed M f ∨ mq_lat M f.toNatClampNeg = -1 then 11 else if mo_opened M f then 7 else if mo_at M 5 < 8 then 5 else 6
/-- the class's row of counts, behind a move -/
def mo_at1 (M : MT) (k : Nat) : Nat → Int32 := upd (mq_at M) (mq_pl M k).toNatClampNeg (mq_at M (mq_pl M k).toNatClampNeg - 1)
def mo_bring (M : MT) (k : Nat) (p : Int32) : MT :=
  (mq_now M, mq_fc M, mq_bc M, mq_sc M + 1, mq_dep M, mq_lat M, mq_brd M, mq_bf M, mq_br M, mq_pu M, upd (mq_pl M) k p, upd (mq_ls M) k (nI (mq_sc M)), upd (mq_ca M) k (nI (mq_now M)),
    upd (mo_at1 M k) p.toNatClampNeg (mo_at1 M k p.toNatClampNeg + 1), upd (mq_sb M) (mq_sc M) (nI k), upd (mq_sp M) (mq_sc M) p, upd (mq_st M) (mq_sc M) (nI (mq_now M)))
def mo_route (M : MT) (k : Nat) : MT := if mo_way M (mq_bf M k) = 6 ∧ mq_pl M k = 6 then M else mo_bring M k (mo_way M (mq_bf M k))
def mo_first (M : MT) : Nat → Int32
  | 0 => -1
  | k + 1 => if (mq_pl M k = 5 ∧ mo_opened M (mq_bf M k)) ∧ (mo_first M k = -1 ∨ mq_ls M k < mq_ls M (mo_first M k).toNatClampNeg) then nI k else mo_first M k
def mo_emp (M : MT) : MT := if mo_first M (mq_bc M) = -1 then M else mo_bring M (mo_first M (mq_bc M)).toNatClampNeg 7
def mo_loop1 (M : MT) (k : Nat) : MT := if mq_pl M k = 6 then mo_route M k else M
def mo_settle (M : MT) (k : Nat) : MT := if mq_pl M k = 8 then (if mo_fly M k then mo_bring M k 9 else mo_bring M k 10) else if mq_pl M k = 5 ∨ mq_pl M k = 6 ∨ mq_pl M k = 7 then mo_bring M k 11 else M
def mo_sbag (f : Int32) (M : MT) (k : Nat) : MT := if mq_bf M k = f then mo_settle M k else M
def mo_dep1 (M : MT) (f : Nat) : MT := if mq_dep M f = nI (mq_now M) then mo_it (mo_sbag (nI f)) M (mq_bc M) else M
def mo_tick (M : MT) : MT := (mq_now M + 1, mq_fc M, mq_bc M, mq_sc M, mq_dep M, mq_lat M, mq_brd M, mq_bf M, mq_br M, mq_pu M, mq_pl M, mq_ls M, mq_ca M, mq_at M, mq_sb M, mq_sp M, mq_st M)
def mo_empt (M : MT) : MT := mo_emp (mo_emp (mo_emp M))
def mo_loop (M : MT) : MT := mo_it mo_loop1 M (mq_bc M)
def mo_depart (M : MT) : MT := mo_it mo_dep1 M (mq_fc M)
def mo_minute (M : MT) : MT := mo_depart (mo_loop (mo_empt (mo_tick M)))
def mo_pass (M : MT) (n : Nat) : MT := mo_it (fun M _ => mo_minute M) M n
abbrev mo_clash (M : MT) (d x : Int32) (j : Nat) : Prop := mq_lat M j = x ∧ mq_dep M j - d < 60 ∧ -60 < mq_dep M j - d
abbrev mo_free (M : MT) (d x : Int32) : Prop := ∀ j, j < mq_fc M → ¬ mo_clash M d x j
def mo_low (M : MT) (d : Int32) : Int32 := if mo_free M d 0 then 0 else if mo_free M d 1 then 1 else if mo_free M d 2 then 2 else if mo_free M d 3 then 3 else -1
def mo_add (M : MT) (x : Int32) : MT := (mq_now M, mq_fc M + 1, mq_bc M, mq_sc M, upd (mq_dep M) (mq_fc M) (nI (mq_now M) + x), upd (mq_lat M) (mq_fc M) (mo_low M (nI (mq_now M) + x)), mq_brd M, mq_bf M, mq_br M, mq_pu M, mq_pl M, mq_ls M, mq_ca M, mq_at M, mq_sb M, mq_sp M, mq_st M)
def mo_take (M : MT) (f r : Int32) : MT := (mq_now M, mq_fc M, mq_bc M + 1, mq_sc M, mq_dep M, mq_lat M, mq_brd M, upd (mq_bf M) (mq_bc M) f, upd (mq_br M) (mq_bc M) r, mq_pu M, upd (mq_pl M) (mq_bc M) 0, mq_ls M, mq_ca M, mq_at M, mq_sb M, mq_sp M, mq_st M)
def mo_ld (M : MT) (f : Int32) : Nat := mo_cn (fun j => decide (mq_pl M j = 8 ∧ mq_bf M j = f)) (mq_bc M)
def mo_atl (M : MT) (x : Int32) : Nat := mo_cn (fun j => decide (mq_pl M j = 7 ∧ mq_lat M (mq_bf M j).toNatClampNeg = x)) (mq_bc M)
def mo_unm (M : MT) (f : Int32) : Nat := mo_cn (fun j => decide ((mq_pl M j = 8 ∧ mq_bf M j = f) ∧ ¬ mo_fly M j)) (mq_bc M)
def mo_pbs (M : MT) (b t : Int32) : Nat → Int32
  | 0 => -1
  | n + 1 => if mq_sb M n = b ∧ mq_st M n ≤ t then mq_sp M n else mo_pbs M b t n
def mo_dt (p : Int32) : Int32 := if p = 1 then 2 else if p = 2 then 4 else 10
def mo_nx (p : Int32) : Int32 := if p = 1 then 2 else if p = 2 then 3 else 4
end
section
section BZ
/-! as vx_Q, vx_Met, vx_back, vx_runV, vx_calli, vx_callv, vx_ofW, vx_out of the kit (whose proofs these follow), but what a method makes is counted where it throws, and nothing where it returns -/
def bz_Q (Qc : Array Value → State → Outcome → State → Prop) (XC : String → State → State → Prop) (mc ms : Nat) (free : Addr → Prop) : Array Value → State → Outcome → State → Prop := fun a st o t =>
  (Qc a st o t ∧ ∃ L, FrameEnd st o t L 0 0 ∧ ∀ q ∈ L, free q.base) ∨ ∃ q, o = .threw q ∧ vx_T XC st q t mc ms free
def bz_Met (l : Launch) (y : MethodName) (ws : List Cond) (rm : Room) (Pc : Array Value → State → Prop) (Qc : Array Value → State → Outcome → State → Prop) (XC : String → State → State → Prop) (mc ms : Nat) (free : Addr → Prop) : Prop :=
  MetFree l y (headSpec ws rm) Pc (fun _ _ _ _ _ => True) (bz_Q Qc XC mc ms free)
section
variable {l : Launch} {R : Room} {p : Program} {e : Env} {below : List Frame} {s : State} {sargs : Array Value} {y : MethodName} {len W9 : Nat}
theorem bz_back {ws : List Cond} {rm : Room} {Pc : Array Value → State → Prop} {Qc : Array Value → State → Outcome → State → Prop} {XC : String → State → State → Prop} {mc ms : Nat} {free : Addr → Prop} {bytes : ByteArray} {maxL : Nat} {ret : Option FieldType}
    (hM : bz_Met l y ws rm Pc Qc XC mc ms free) (hblind : FrameBlind Pc) (hrc : rm.cells = mc) (hrs : rm.slots = ms)
    (hframes : rm.frames + 1 ≤ R.frames) (hlocals : W9 + (maxL + 11) + rm.locals ≤ R.locals)
    (hws : ∀ w ∈ ws, ∀ a' U, s.WarmedH U.vm → w.before a' U = true) (hcode : Cond.code y bytes maxL ret ∈ ws) (hinit : ∀ a' U, s.WarmedH U.vm → (Cond.initialized y.cls).before a' U = true) :
    vx_Back l R p e below s sargs y len W9 (PreOf R mc ms Pc) (PostOf Qc 0 0 free) (vx_Post XC mc ms free) := by
  intro m meth c A g ig mk a X hg hsize hdg hW hn hp
  have h1 : (headSpec ws rm).pre.before a A.U = true := atoms_intro fun w hw => hws w hw _ _ X.warmed
  have h2 : (Cond.code y bytes maxL ret).before a A.U = true := hws _ hcode _ _ X.warmed
  have h3 : (Cond.initialized y.cls).before a A.U = true := hinit _ _ X.warmed
  have h4 : A.cells + (headSpec ws rm).room.cells ≤ R.cells := by rw [show (headSpec ws rm).room.cells = mc from hrc]; exact hp.1
  have h5 : A.slots + (headSpec ws rm).room.slots ≤ R.slots := by rw [show (headSpec ws rm).room.slots = ms from hrs]; exact hp.2.1
  have hPc : Pc a (A.U.calling g mk a) := hblind _ _ _ _ hp.2.2
  obtain ⟨U, Ls, c0, s0⟩ := A
  dsimp only [Pt.U, Pt.locs, Pt.cells, Pt.slots] at h1 h2 h3 h4 h5 X hn hPc ⊢
  obtain ⟨methY, cY, hmY, hcY, -, hlY, -, -, -, -⟩ := Cond.code_spec hn h2
  obtain ⟨kY, hkY, -⟩ := className_of_methodNamed hn
  have hinitY : kY.init = .initialized := Cond.initialized_spec (findClass_of_methodNamed hn) hkY h3
  have h : At U g.method c below := by rw [hg]; exact X.here
  have hlocals9 : W9 + (maxL + 11) + (headSpec ws rm).room.locals ≤ R.locals := hlocals
  have happ : (headSpec ws rm).appliesLoose y e.platform (U.calling g mk a) = true :=
    Spec.appliesLoose_calling (g := g) h hdg hn hkY hinitY
      (X.room_calling (g := g) (R' := (headSpec ws rm).room) hsize hmY hcY hframes (by rw [hlY]; omega) h4 h5) h1
  obtain ⟨mid, hmid⟩ := h.above
  have hfr : (U.setTop g).frames = (.java g :: mid) ++ below := by rw [State.frames_setTop' g h.top, hmid]; rfl
  obtain ⟨o, s₂, hsteps, -, hend, hq⟩ := Steps.callFree hM p X.admits X.cas X.clock (acts := []) hfr happ hPc trivial
  have hq' : bz_Q Qc XC mc ms free a (U.calling g mk a) o s₂ := hq
  rw [State.frames_setTop' g h.top] at hend
  obtain ⟨g₀, hg0⟩ := Option.isSome_iff_exists.mp h.top
  obtain ⟨r, hr⟩ := State.topJava?_eq_some.mp hg0
  have hr' : (({ U with heap := s₂.heap, slotsUsed := s₂.slotsUsed } : State).setVm s₂.vm).frames = .java g₀ :: r := hr
  rcases hq' with ⟨hqc, L, hfe, hL⟩ | ⟨q, rfl, E, ce, L, hx, hce, hcv, hcl, hW₂, hsm, hL⟩
  · obtain ⟨⟨v, rfl⟩, hW₂, e2, q2, q3, q4, q5, q6⟩ := id hfe
    have e3 : s₂ = ({ (U.calling g mk a).setFrames s₂.frames with heap := s₂.heap, slotsUsed := s₂.slotsUsed } : State).setVm s₂.vm := by
      have : s₂ = ({ s₂ with vm := (U.calling g mk a).vm } : State).setVm s₂.vm := rfl
      rw [e2] at this
      exact this
    obtain ⟨c₂, i₂, len₂, hc₂, hd₂, hf₂⟩ := hend
    have hW' : U.WarmedH s₂.vm := hW₂
    have hcc : c₂ = c := by
      have h1 : s₂.code? g.method = U.code? g.method := by
        rw [State.code?_eq, State.code?_eq, hW'.alike.method?]
      exact Option.some.inj (hc₂.symm.trans (h1.trans h.code))
    subst hcc
    have hlen : len₂ = len := by rw [hdg] at hd₂; cases hd₂; rfl
    subst hlen
    have hs₂ : s₂ = (({ U with heap := s₂.heap, slotsUsed := s₂.slotsUsed } : State).setVm s₂.vm).setTop { g with pc := g.pc + len₂, stack := v.toList ++ g.stack } := by
      refine e3.trans ?_
      rw [hf₂, State.calling_eq h.top, State.setFrames_setFrames, State.setTop_of_frames _ hr', hr]
      rfl
    have hsame : U.sameButNew ({ U with heap := s₂.heap, slotsUsed := s₂.slotsUsed } : State) L 0 0 := by
      refine ⟨?_, q2, q3, q4, q5, q6⟩
      obtain ⟨t, ht, -⟩ := State.frames_cons hr
      show ({ U with heap := s₂.heap, slotsUsed := s₂.slotsUsed } : State) = { U.setFrames U.frames with heap := s₂.heap, slotsUsed := s₂.slotsUsed }
      rw [State.setFrames_self ht]
    subst hg
    refine Or.inl ⟨v, ⟨(({ U with heap := s₂.heap, slotsUsed := s₂.slotsUsed } : State).setVm s₂.vm), Ls ++ L, c0 + 0, s0 + 0⟩,
      ⟨X.admits, X.cas, X.clock, X.frames, X.room, X.hears, X.method, X.code, (X.here.setHeapUsed s₂.heap s₂.slotsUsed).setVm hW'.alike, X.tail, State.WarmedH.trans X.warmed hW', X.limits, X.bytes, X.same.trans (hsame.setVm s.vm)⟩,
      ⟨g, mk, s₂, L, rfl, rfl, hqc, rfl, hL, rfl, rfl⟩, ?_⟩
    show Steps p.tables e below _ ((({ U with heap := s₂.heap, slotsUsed := s₂.slotsUsed } : State).setVm s₂.vm).setTop { g with pc := g.pc + len₂, stack := v.toList ++ g.stack })
    rw [← hs₂]
    exact hsteps
  · obtain ⟨e2, q2, q3, q4, q5, q6⟩ := id hsm
    have e3 : s₂ = ({ (U.calling g mk a).setFrames s₂.frames with heap := s₂.heap, slotsUsed := s₂.slotsUsed } : State).setVm s₂.vm := by
      have : s₂ = ({ s₂ with vm := (U.calling g mk a).vm } : State).setVm s₂.vm := rfl
      rw [e2] at this
      exact this
    have hf₂ : s₂.frames = .throwing q :: .java g :: U.frames.tail := hend
    have hW' : U.WarmedH s₂.vm := hW₂
    have hs₂ : s₂ = ((({ U with heap := s₂.heap, slotsUsed := s₂.slotsUsed } : State).setVm s₂.vm).setTop g).pushFrame (.throwing q) := by
      refine e3.trans ?_
      rw [hf₂, State.calling_eq h.top, State.setFrames_setFrames, State.pushFrame, State.frames_setTop _ hr', State.setTop_of_frames _ hr', State.setFrames_setFrames, hr]
      rfl
    have hsame : U.sameButNew ({ U with heap := s₂.heap, slotsUsed := s₂.slotsUsed } : State) L mc ms := by
      refine ⟨?_, q2, q3, q4, q5, q6⟩
      obtain ⟨t, ht, -⟩ := State.frames_cons hr
      show ({ U with heap := s₂.heap, slotsUsed := s₂.slotsUsed } : State) = { U.setFrames U.frames with heap := s₂.heap, slotsUsed := s₂.slotsUsed }
      rw [State.setFrames_self ht]
    subst hg
    refine Or.inr ⟨q, ⟨(({ U with heap := s₂.heap, slotsUsed := s₂.slotsUsed } : State).setVm s₂.vm), Ls ++ L, c0 + mc, s0 + ms⟩,
      ⟨X.admits, X.cas, X.clock, X.frames, X.room, X.hears, X.method, X.code, (X.here.setHeapUsed s₂.heap s₂.slotsUsed).setVm hW'.alike, X.tail, State.WarmedH.trans X.warmed hW', X.limits, X.bytes, X.same.trans (hsame.setVm s.vm)⟩,
      ⟨g, mk, s₂, L, E, ce, rfl, rfl, hx, hce, hcv, hcl, rfl, hL, rfl, rfl⟩, ?_⟩
    show Steps p.tables e below _ (((({ U with heap := s₂.heap, slotsUsed := s₂.slotsUsed } : State).setVm s₂.vm).setTop g).pushFrame (.throwing q))
    rw [← hs₂]
    exact hsteps
end
section
variable {p : Program} {l : Launch} {e : Env} {R : Room} {s : State} {m : MethodId} {args : Array Value} {below : List Frame} {meth : Method} {c : Code} {H : Heap} {locs : List Loc} {cells slots : Nat}
variable {y : MethodName} {bytes cc : ByteArray} {maxL nL mc ms n index : Nat} {ret : Option FieldType} {ws : List Cond} {rm : Room} {Pc : Array Value → State → Prop} {Qc : Array Value → State → Outcome → State → Prop} {XC : String → State → State → Prop} {free : Addr → Prop} {Ts : List Cond} {own C : String} {b : Addr} {As rest : List Value} {g : JFrame}
theorem bz_callBack (cb : CallB R s args own index y bytes maxL ret ws rm mc ms n) (hM : bz_Met l y ws rm Pc Qc XC mc ms free) (hbl : FrameBlind Pc) : vx_Back l R p e below s args y 3 8 (PreOf R mc ms Pc) (PostOf Qc 0 0 free) (vx_Post XC mc ms free) := by
  obtain ⟨hrc, hrs, hfr, hlo, hws, hcw, -, hini, -⟩ := cb
  exact bz_back (bytes := bytes) (maxL := maxL) (ret := ret) hM hbl hrc hrs hfr hlo hws hcw (fun a' U hW => word_at hW (Or.inl (by first | rfl | simp [Cond.onTables, Cond.keeps, Cond.steady])) hini)
def bz_Run (p : Program) (l : Launch) (e : Env) (R : Room) (s : State) (m : MethodId) (args : Array Value) (below : List Frame) (meth : Method) (c : Code) (H : Heap) (locs : List Loc) (cells slots mc ms : Nat) (g : JFrame) (rest : List Value) (Qa : State → Outcome → State → Prop) (XC : String → State → State → Prop) (free : Addr → Prop) : Prop :=
  ∀ T : State, T.heap = H → Stand p l e R s m args below meth c T locs cells slots →
    (∃ (v : Option Value) (st₀ t T' : State) (L : List Loc), st₀.heap = H ∧ Stand p l e R s m args below meth c T' (locs ++ L) (cells + 0) (slots + 0) ∧ (∀ q ∈ L, free q.base) ∧ T'.heap = t.heap ∧ T'.vm = t.vm ∧ Qa st₀ (.returned v) t ∧
      Goes p e below T g T' { g with pc := g.pc + 3, stack := v.toList ++ rest }) ∨
    (∃ (q : Addr) (st₀ t T' : State) (L : List Loc) (E : String) (ce : Cell), st₀.heap = H ∧ Stand p l e R s m args below meth c T' (locs ++ L) (cells + mc) (slots + ms) ∧ (∀ z ∈ L, free z.base) ∧ T'.heap = t.heap ∧ T'.vm = t.vm ∧ XC E st₀ t ∧ t.heap[q]? = some ce ∧ ce.vm = .none ∧ s.vm.findClass E = some ce.cls ∧
      Steps p.tables e below (T.setTop g) ((T'.setTop { g with stack := rest }).pushFrame (.throwing q)))
theorem bz_runV (S : CallFix p m c cc nL s args Ts own) (hM : bz_Met l y ws rm Pc Qc XC mc ms free) (cw : CallW R s args own C index y bytes maxL ret ws rm mc ms n) (hp : PreV s H C b Pc As)
    (hg : g.method = m) (hn : As.length = n) (hsize : g.locals.size = nL) (hstack : g.stack = As.reverse ++ .ref b :: rest) (hW : 2 * g.monitorRoom + (rest.map fun v => v.category).sum ≤ 8) (hdg : decode cc g.pc = .ok (.invokevirtual index, 3)) (hf : cells + mc ≤ R.cells ∧ slots + ms ≤ R.slots) :
    bz_Run p l e R s m args below meth c H locs cells slots mc ms g rest (Qc (Value.ref b :: As).toArray) XC free := by
  have hK : vx_Back l R p e below s args y 3 8 (PreOf R mc ms Pc) (PostOf Qc 0 0 free) (vx_Post XC mc ms free) := bz_callBack cw.1 hM hp.1
  obtain ⟨⟨-, -, -, -, -, -, hcode, -, hy, hlen, hl⟩, hin, hse⟩ := cw
  obtain ⟨hx, hb, hml, ho, -⟩ := S
  obtain ⟨-, ⟨cellB, hcB, hoB, hclB⟩, hPc⟩ := hp
  intro T hT X
  rcases vx_callV X hx (C := C) (bytes := bytes) (maxL := maxL) (ret := ret) ho hl hin hse hcode hy hK (by rw [hT]; exact hcB) hoB hclB hg (hsize.trans hml.symm) (argsL := As) (rest := rest) (fun sig h => hn.trans (hlen sig h)) hstack hW (by rw [hb]; exact hdg)
    (fun vm₁ hW₁ => ⟨hf.1, hf.2, hPc (T.setVm vm₁) hT hW₁⟩) with ⟨v, vm₁, ⟨U', l2, c2, s2⟩, hW₁, X', ⟨g', mk, t, L, e1, e2, hq, h1, hL, h2, h3⟩, st⟩ | ⟨q, vm₁, ⟨U', l2, c2, s2⟩, hW₁, X', ⟨g', mk, t, L, E, ce, e1, e2, hq, hce, hcv, hcl, h1, hL, h2, h3⟩, st⟩
  · dsimp only [Pt.U, Pt.locs, Pt.cells, Pt.slots] at X' e1 e2 h1 h2 h3 st
    subst h1; subst h2; subst h3
    exact Or.inl ⟨v, (T.setVm vm₁).calling g' mk (Value.ref b :: As).toArray, t, U', L, hT, X', hL, e1, e2, hq, st⟩
  · dsimp only [Pt.U, Pt.locs, Pt.cells, Pt.slots] at X' e1 e2 h1 h2 h3 st hcl
    subst h1; subst h2; subst h3
    exact Or.inr ⟨q, (T.setVm vm₁).calling g' mk (Value.ref b :: As).toArray, t, U', L, E, ce, hT, X', hL, e1, e2, hq, hce, hcv, vx_cls hW₁ hcl, st⟩
end
section
variable {p : Program} {l : Launch} {e : Env} {R : Room} {s : State} {m : MethodId} {args : Array Value} {below : List Frame} {meth : Method} {c : Code} {H : Heap} {locs : List Loc} {cells slots : Nat} {Q : State → Prop}
variable {mc ms : Nat} {free : Addr → Prop} {A0 A1 : Nat → Prop} {H0 : Heap} {a : Array Value} {pc : Nat} {ls : Array Slot} {st0 rest : List Value}
theorem bz_calli {S SX : Type} {post : Int32 → S → Prop} {px : SX → Prop} {B : S → State → Prop} {BX : String → SX → State → Prop} {AX : Nat → Prop} (hr : bz_Run p l e R s m args below meth c H locs cells slots mc ms (F0 m pc ls st0) rest (va_Qi post B A1 a) (vx_X px BX AX) free) (hS : va_S A0 H0 H locs) (hA : ∀ q, q < H.size → A1 q → A0 q) (hf : ∀ q, free q → A0 q) (hAX : ∀ q, q < H.size → AX q → A0 q)
    (kx : ∀ (E : String) (ce : Cell) (q9 : Addr) (u : SX) (t : State) (H1 : Heap) (locs1 : List Loc), t.heap = H1 → s.vm.Alike t.vm → px u → BX E u t → H.size ≤ H1.size → (∀ q : Nat, q < H.size → ¬ AX q → H1[q]? = H[q]?) → va_S A0 H0 H1 locs1 → H1[q9]? = some ce → ce.vm = .none → s.vm.findClass E = some ce.cls → vx_W p l e R s m args below meth c H1 locs1 (cells + mc) (slots + ms) Q (F0 m pc ls rest) q9)
    (kk : ∀ (r : Int32) (u : S) (t : State) (H1 : Heap) (locs1 : List Loc), t.heap = H1 → s.vm.Alike t.vm → post r u → B u t → H.size ≤ H1.size → (∀ q : Nat, q < H.size → ¬ A1 q → H1[q]? = H[q]?) → va_S A0 H0 H1 locs1 → W p l e R s m args below meth c H1 locs1 (cells + 0) (slots + 0) Q (F0 m (pc + 3) ls (.int r :: rest))) : W p l e R s m args below meth c H locs cells slots Q (F0 m pc ls st0) := by
  intro T hT X
  rcases hr T hT X with ⟨v, st₀, t, T', L, h0, X', hL, e1, e2, ⟨⟨r, u, hv, hp, hb⟩, hF⟩, st⟩ | ⟨q, st₀, t, T', L, E, ce, h0, X', hL, e1, e2, ⟨u, hp, hb, hF⟩, hce, hcv, hcl, st⟩
  · cases hv
    obtain ⟨k1, k2, k3⟩ := vx_keep h0 e1 hS hA hf hL hF
    obtain ⟨t2, a1, b1⟩ := kk r u t T'.heap (locs ++ L) e1.symm (by rw [← e2]; exact X'.warmed.alike) hp hb k1 k2 k3 T' rfl X'
    exact ⟨t2, st t2 a1, b1⟩
  · obtain ⟨k1, k2, k3⟩ := vx_keep h0 e1 hS hAX hf hL hF
    obtain ⟨t2, a1, b1⟩ := kx E ce q u t T'.heap (locs ++ L) e1.symm (by rw [← e2]; exact X'.warmed.alike) hp hb k1 k2 k3 (by rw [e1]; exact hce) hcv hcl T' rfl X'
    exact ⟨t2, st.trans a1, b1⟩
theorem bz_callv {S SX : Type} {post : S → Prop} {px : SX → Prop} {B : S → State → Prop} {BX : String → SX → State → Prop} {AX : Nat → Prop} (hr : bz_Run p l e R s m args below meth c H locs cells slots mc ms (F0 m pc ls st0) rest (va_Qv post B A1 a) (vx_X px BX AX) free) (hS : va_S A0 H0 H locs) (hA : ∀ q, q < H.size → A1 q → A0 q) (hf : ∀ q, free q → A0 q) (hAX : ∀ q, q < H.size → AX q → A0 q)
    (kx : ∀ (E : String) (ce : Cell) (q9 : Addr) (u : SX) (t : State) (H1 : Heap) (locs1 : List Loc), t.heap = H1 → s.vm.Alike t.vm → px u → BX E u t → H.size ≤ H1.size → (∀ q : Nat, q < H.size → ¬ AX q → H1[q]? = H[q]?) → va_S A0 H0 H1 locs1 → H1[q9]? = some ce → ce.vm = .none → s.vm.findClass E = some ce.cls → vx_W p l e R s m args below meth c H1 locs1 (cells + mc) (slots + ms) Q (F0 m pc ls rest) q9)
    (kk : ∀ (u : S) (t : State) (H1 : Heap) (locs1 : List Loc), t.heap = H1 → s.vm.Alike t.vm → post u → B u t → H.size ≤ H1.size → (∀ q : Nat, q < H.size → ¬ A1 q → H1[q]? = H[q]?) → va_S A0 H0 H1 locs1 → W p l e R s m args below meth c H1 locs1 (cells + 0) (slots + 0) Q (F0 m (pc + 3) ls (rest))) : W p l e R s m args below meth c H locs cells slots Q (F0 m pc ls st0) := by
  intro T hT X
  rcases hr T hT X with ⟨v, st₀, t, T', L, h0, X', hL, e1, e2, ⟨⟨u, hv, hp, hb⟩, hF⟩, st⟩ | ⟨q, st₀, t, T', L, E, ce, h0, X', hL, e1, e2, ⟨u, hp, hb, hF⟩, hce, hcv, hcl, st⟩
  · cases hv
    obtain ⟨k1, k2, k3⟩ := vx_keep h0 e1 hS hA hf hL hF
    obtain ⟨t2, a1, b1⟩ := kk u t T'.heap (locs ++ L) e1.symm (by rw [← e2]; exact X'.warmed.alike) hp hb k1 k2 k3 T' rfl X'
    exact ⟨t2, st t2 a1, b1⟩
  · obtain ⟨k1, k2, k3⟩ := vx_keep h0 e1 hS hAX hf hL hF
    obtain ⟨t2, a1, b1⟩ := kx E ce q u t T'.heap (locs ++ L) e1.symm (by rw [← e2]; exact X'.warmed.alike) hp hb k1 k2 k3 (by rw [e1]; exact hce) hcv hcl T' rfl X'
    exact ⟨t2, st.trans a1, b1⟩
end
section
variable {p : Program} {l : Launch} {e : Env} {R : Room} {s : State} {m : MethodId} {args : Array Value} {below : List Frame} {meth : Method} {c : Code} {H : Heap} {locs : List Loc} {cells slots : Nat} {Q Q2 : State → Prop}
variable {mc ms : Nat} {free : Addr → Prop} {ls : Array Slot} {rest : List Value} {Qc : Array Value → State → Outcome → State → Prop} {XC : String → State → State → Prop}
def bz_MQ (below : List Frame) (Qc : Array Value → State → Outcome → State → Prop) (XC : String → State → State → Prop) (a : Array Value) (s : State) (mc ms : Nat) (free : Addr → Prop) : State → Prop := fun t =>
  ∃ o, t.status = .running ∧ Ended t below o ∧ bz_Q Qc XC mc ms free a s o t
theorem bz_ret {g : JFrame} (k : W p l e R s m args below meth c H locs cells slots (MQ below Qc args s 0 0 free) g) : W p l e R s m args below meth c H locs cells slots (bz_MQ below Qc XC args s mc ms free) g := by
  intro T hT X
  obtain ⟨t, a1, o, b1, b2, b3, b4⟩ := k T hT X
  exact ⟨t, a1, o, b1, b2, Or.inl ⟨b3, b4⟩⟩
theorem bz_thrown {t : State} (h : vx_MQ below (fun _ _ _ _ => False) XC args s mc ms free t) : bz_MQ below Qc XC args s mc ms free t := by
  obtain ⟨o, b1, b2, b3⟩ := h
  rcases b3 with ⟨b3, -⟩ | b3
  · exact absurd b3 id
  · exact ⟨o, b1, b2, Or.inr b3⟩
theorem bz_W {g : JFrame} (h : ∀ t, Q t → Q2 t) (k : W p l e R s m args below meth c H locs cells slots Q g) : W p l e R s m args below meth c H locs cells slots Q2 g := by
  intro T hT X
  obtain ⟨t, a1, b1⟩ := k T hT X
  exact ⟨t, a1, h t b1⟩
theorem bz_vW {g : JFrame} {q : Addr} (h : ∀ t, Q t → Q2 t) (k : vx_W p l e R s m args below meth c H locs cells slots Q g q) : vx_W p l e R s m args below meth c H locs cells slots Q2 g q := by
  intro T hT X
  obtain ⟨t, a1, b1⟩ := k T hT X
  exact ⟨t, a1, h t b1⟩
end
section
variable {l : Launch}
theorem bz_ofW {y : MethodName} {ws ws' : List Cond} {rm : Room} {Pc : Array Value → State → Prop} {Qc : Array Value → State → Outcome → State → Prop} {XC : String → State → State → Prop} {mc ms : Nat} {free : Addr → Prop} {cc : ByteArray} {maxL : Nat} {ret : Option FieldType}
    (hy : plainName y.cls = true) (hw : ws = Cond.code y cc maxL ret :: ws')
    (body : ∀ p e s m args below meth c s₁, BodyLoose p l y (headSpec ws rm) cc maxL ret e s m args below meth c s₁ → c.maxLocals = maxL → (∀ x ∈ c.exceptionTable.toList, False) → Pc args s →
      W p l e (headSpec ws rm).room s m args below meth c s.heap [] 0 0 (bz_MQ below Qc XC args s mc ms free) (entryFrame m args maxL)) : bz_Met l y ws rm Pc Qc XC mc ms free := by
  refine MetFree.of_bodyS (code := cc) (maxLocals := maxL) (ret := ret) hy ?_ ?_
  · intro args s m h hn
    obtain ⟨meth, c, h1, h2, h3, h4, h5, h6, -, -⟩ := Cond.code_spec hn (atoms_spec (ws := ws) h _ (by rw [hw]; exact List.mem_cons_self))
    exact ⟨meth, c, h1, h2, h3, h4, h5, h6⟩
  · intro p e s m args below meth c s₁ B hml hP _
    have hh0 : s₁.heap = s.heap := by rw [B.state]; rfl
    have ht : ∀ x ∈ c.exceptionTable.toList, False := by
      obtain ⟨meth9, c9, h1, h2, -, -, -, -, h7, -⟩ := Cond.code_spec B.named (atoms_spec (ws := ws) B.pre _ (by rw [hw]; exact List.mem_cons_self))
      cases Option.some.inj (h1.symm.trans B.method)
      cases Option.some.inj (h2.symm.trans (Stand.of_body B).code)
      intro x hx
      rw [Array.isEmpty_iff.mp h7] at hx
      cases hx
    obtain ⟨t, a1, o, b1, b2, b3⟩ := body p e s m args below meth c s₁ B hml ht hP s₁ hh0 (Stand.of_body B)
    exact ⟨t, o, a1, b1, b2, b3⟩
end
end BZ
end
section
section BHX
variable {p : Program} {l : Launch} {e : Env} {R : Room} {s : State} {m : MethodId} {args : Array Value} {below : List Frame} {meth : Method} {c : Code} {cells slots : Nat} {Q : State → Prop}
variable {cc : ByteArray} {nL : Nat} {Ts : List Cond} {own : String} {D : va_G} {tys : List (ClassId × FieldType)} {A : Nat → Prop} {ret : Option FieldType}
variable {w w' : va_W} {lv lv' : List (Nat × Value)} {pc : Nat} {st rest : List Value}
abbrev xe_A : String := "java/lang/IllegalArgumentException"
abbrev xe_S : String := "java/lang/IllegalStateException"
abbrev xe_I : String := "java/lang/IndexOutOfBoundsException"
abbrev xe_ns : List String := ["java/lang/RuntimeException", "java/lang/Exception"]
def xe_strs : List (Nat × String) := [(52, "minutes must be 1 to 1000"), (63, "there are 10 flights"), (156, "there is no such rider"), (77, "minutes must be 1 to 200"), (154, "there is no such flight"), (172, "there are 48 bags"), (164, "the flight has departed"), (158, "there is no such bag"), (102, "the bag is not screened"), (107, "the decision takes longer"), (162, "the bag is at another place"), (118, "the bag is neither OFFLOADED nor LATE"), (126, "time must be 0 to now"), (128, "there is no such place"), (132, "there is no such lateral"), (160, "there is no such scan")]
def xe_bad : List Cond := [.castable xe_A xe_A, .castable xe_S xe_S, .castable xe_I xe_I, .declares (Bundle.initS "java/lang/RuntimeException"), .declares (Bundle.initS "java/lang/Exception"), .declares (Bundle.initS Bundle.tN)]
def xe_nc : List (String × String) := [(xe_A, xe_S), (xe_I, xe_S)]
/-- what a throw, or a catch, needs beside the good words -/
def xe_E (A : Nat → Prop) (U : State) (H : Heap) : Prop := (∀ q ∈ xe_strs, ∃ a : Nat, vk_R RX0 q.1 q.2 a U) ∧ (∀ z ∈ xe_bad, va_Nw z U) ∧ (∀ q ∈ xe_nc, va_Nc q.1 q.2 U) ∧ vx_Zq Bundle.tN "UNASSIGNED_STACK" Bundle.steD A U H ∧ vx_Zq Bundle.tN "SUPPRESSED_SENTINEL" Bundle.listD A U H
theorem xe_badW {z : Cond} (hz : z ∈ xe_bad) {s U : State} (hW : s.WarmedH U.vm) (h : va_Nw z s) : va_Nw z U := by
  simp only [xe_bad, List.mem_cons, List.not_mem_nil, or_false] at hz
  rcases hz with rfl | rfl | rfl | rfl | rfl | rfl
  · exact va_Nw.warmC hW h
  · exact va_Nw.warmC hW h
  · exact va_Nw.warmC hW h
  · exact va_Nw.warmD hW h
  · exact va_Nw.warmD hW h
  · exact va_Nw.warmD hW h
theorem xe_badU {z : Cond} (hz : z ∈ xe_bad) {U : State} {args : Array Value} (h : va_Nw z U) : z.before args U = true := by
  simp only [xe_bad, List.mem_cons, List.not_mem_nil, or_false] at hz
  rcases hz with rfl | rfl | rfl | rfl | rfl | rfl <;> exact va_Nw.use rfl h
theorem xe_ncM {C T : String} {u U : State} (hvm : u.vm.Alike U.vm) (h : va_Nc C T u) : va_Nc C T U := by
  exact h.moved hvm
theorem xe_E.to {A B : Nat → Prop} {s U : State} {H H1 : Heap} (h : xe_E A s H) (hW : s.WarmedH U.vm) (hk : ∀ a : Nat, a < H.size → ¬ A a → H1[a]? = H[a]?) (hAB : ∀ q, B q → A q) : xe_E B U H1 := by
  obtain ⟨h1, h2, h3, h4, h5⟩ := h
  exact ⟨fun q hq => (h1 q hq).imp fun a ha => ha.warm hW, fun z hz => xe_badW hz hW (h2 z hz), fun q hq => xe_ncM hW.alike (h3 q hq), ((h4.kept hk).moved hW.alike).narrow hAB, ((h5.kept hk).moved hW.alike).narrow hAB⟩
/-- contracts of methods that may throw: px says which exception; the world is then as it was -/
def bh_PX (D : va_G) (tys : List (ClassId × FieldType)) (w0 : va_W) (sz : Nat) (U : State) : Prop := bh_P0 D tys w0 sz U ∧ xe_E (va_A w0 sz) U U.heap
abbrev bh_XC (D : va_G) (tys : List (ClassId × FieldType)) (A : Nat → Prop) (w0 : va_W) (px : String → Prop) : String → State → State → Prop := vx_X (fun _ : Unit => True) (fun E _ t => px E ∧ bh_B D tys A w0 t) A
def bh_Xi {S : Type} (l : Launch) (D : va_G) (tys : List (ClassId × FieldType)) (y : MethodName) (ws : List Cond) (rm : Room) (av : List Value) (w0 : va_W) (post : Int32 → S → Prop) (wf : S → va_W) (px : String → Prop) (mc ms : Nat) : Prop :=
  ∀ sz : Nat, bz_Met l y ws rm (va_Pc av (bh_PX D tys w0 sz)) (va_Qi post (fun u t => bh_B D tys (va_A w0 sz) (wf u) t) (va_A w0 sz)) (bh_XC D tys (va_A w0 sz) w0 px) mc ms (va_A w0 sz)
def bh_Xv {S : Type} (l : Launch) (D : va_G) (tys : List (ClassId × FieldType)) (y : MethodName) (ws : List Cond) (rm : Room) (av : List Value) (w0 : va_W) (post : S → Prop) (wf : S → va_W) (px : String → Prop) (mc ms : Nat) : Prop :=
  ∀ sz : Nat, bz_Met l y ws rm (va_Pc av (bh_PX D tys w0 sz)) (va_Qv post (fun u t => bh_B D tys (va_A w0 sz) (wf u) t) (va_A w0 sz)) (bh_XC D tys (va_A w0 sz) w0 px) mc ms (va_A w0 sz)
theorem bh_xblind {D : va_G} {tys : List (ClassId × FieldType)} {w0 : va_W} {sz : Nat} {av : List Value} : FrameBlind (va_Pc av (bh_PX D tys w0 sz)) := fun a U g mk q => by
  obtain ⟨q0, ⟨q1, qP, qK, qD⟩, qE⟩ := q
  exact ⟨q0, ⟨q1, qP, va_K.moved (u := U) (U := U.calling g mk a) (Vm.Alike.refl U.vm) qK, qD⟩, qE.to (U := U.calling g mk a) (State.WarmedH.refl U) (fun _ _ _ => rfl) (fun _ h => h)⟩
theorem bh_ofXi {S : Type} {y : MethodName} {ws ws' : List Cond} {rm : Room} {av : List Value} {w0 : va_W} {post : Int32 → S → Prop} {wf : S → va_W} {px : String → Prop} {mc ms : Nat} {cc : ByteArray} {maxL : Nat} {ty : FieldType} (hy : plainName y.cls = true) (hw : ws = Cond.code y cc maxL (some ty) :: ws') (hn : (lg_sl av).length ≤ maxL)
    (body : ∀ (p : Program) (e : Env) (s : State) (m : MethodId) (args : Array Value) (below : List Frame) (meth : Method) (c : Code) (A : Nat → Prop) (Q : State → Prop), bh_C p s m args meth c cc maxL ws y.cls D tys A (some ty) → Q = bz_MQ below (va_Qi post (fun u t => bh_B D tys A (wf u) t) A) (bh_XC D tys A w0 px) args s mc ms A → xe_E A s s.heap → (∀ x ∈ c.exceptionTable.toList, False) → bh_W p l e rm s m args below meth c maxL D A 0 0 Q w0 (lv_args 0 av) 0 []) : bh_Xi l D tys y ws rm av w0 post wf px mc ms := by
  intro sz
  refine bz_ofW (cc := cc) (maxL := maxL) (ret := (some ty)) hy hw ?_
  intro p e s m args below meth c s₁ B hml hno hv
  obtain ⟨rfl, ⟨hsz, hP, hK, hD0⟩, hE⟩ := hv
  subst hsz
  have hl := lv_entry av (n := maxL) hn
  rw [lg_entry_eq]
  exact body p e s m _ below meth c (va_A w0 s.heap.size) _ ⟨⟨B.exec, B.bytes, hml, findClass_of_methodNamed B.named, atoms_spec (ws := ws) B.pre⟩, hK, fun q h => Or.inr h, B.returns, B.notSynchronized⟩ rfl hE hno s.heap [] _ hP hD0.self va_S.rf hl
theorem bh_ofXv {S : Type} {y : MethodName} {ws ws' : List Cond} {rm : Room} {av : List Value} {w0 : va_W} {post : S → Prop} {wf : S → va_W} {px : String → Prop} {mc ms : Nat} {cc : ByteArray} {maxL : Nat} (hy : plainName y.cls = true) (hw : ws = Cond.code y cc maxL none :: ws') (hn : (lg_sl av).length ≤ maxL)
    (body : ∀ (p : Program) (e : Env) (s : State) (m : MethodId) (args : Array Value) (below : List Frame) (meth : Method) (c : Code) (A : Nat → Prop) (Q : State → Prop), bh_C p s m args meth c cc maxL ws y.cls D tys A none → Q = bz_MQ below (va_Qv post (fun u t => bh_B D tys A (wf u) t) A) (bh_XC D tys A w0 px) args s mc ms A → xe_E A s s.heap → (∀ x ∈ c.exceptionTable.toList, False) → bh_W p l e rm s m args below meth c maxL D A 0 0 Q w0 (lv_args 0 av) 0 []) : bh_Xv l D tys y ws rm av w0 post wf px mc ms := by
  intro sz
  refine bz_ofW (cc := cc) (maxL := maxL) (ret := none) hy hw ?_
  intro p e s m args below meth c s₁ B hml hno hv
  obtain ⟨rfl, ⟨hsz, hP, hK, hD0⟩, hE⟩ := hv
  subst hsz
  have hl := lv_entry av (n := maxL) hn
  rw [lg_entry_eq]
  exact body p e s m _ below meth c (va_A w0 s.heap.size) _ ⟨⟨B.exec, B.bytes, hml, findClass_of_methodNamed B.named, atoms_spec (ws := ws) B.pre⟩, hK, fun q h => Or.inr h, B.returns, B.notSynchronized⟩ rfl hE hno s.heap [] _ hP hD0.self va_S.rf hl
theorem bh_xzret {S : Type} {post : Int32 → S → Prop} {wf : S → va_W} {w0 : va_W} {px : String → Prop} {mc ms : Nat} {ty : FieldType} (C : bh_C p s m args meth c cc nL Ts own D tys A (some ty)) (hQ : Q = bz_MQ below (va_Qi post (fun u t => bh_B D tys A (wf u) t) A) (bh_XC D tys A w0 px) args s mc ms A) (hdg : decode cc pc = .ok (.ireturn, 1)) {v : Int32} (u : S) (hw : w = wf u) (hn : narrow ty (.int v) = .int v) (hc : cells ≤ 0) (hs : slots ≤ 0) (hp : post v u) : bh_W p l e R s m args below meth c nL D A cells slots Q (w) lv (pc) ([.int v]) := by
  subst hQ
  exact fun H locs ls hP hD hS h => bz_ret (bh_zret C rfl hdg u hw hn hc hs hp H locs ls hP hD hS h)
theorem bh_xvret {S : Type} {post : S → Prop} {wf : S → va_W} {w0 : va_W} {px : String → Prop} {mc ms : Nat} (C : bh_C p s m args meth c cc nL Ts own D tys A none) (hQ : Q = bz_MQ below (va_Qv post (fun u t => bh_B D tys A (wf u) t) A) (bh_XC D tys A w0 px) args s mc ms A) (hdg : decode cc pc = .ok (.return_, 1)) (u : S) (hw : w = wf u) (hc : cells ≤ 0) (hs : slots ≤ 0) (hp : post u) : bh_W p l e R s m args below meth c nL D A cells slots Q (w) lv (pc) ([]) := by
  subst hQ
  exact fun H locs ls hP hD hS h => bz_ret (bh_vret C rfl hdg u hw hc hs hp H locs ls hP hD hS h)
/-- the world's cells stay where nothing old was written -/
theorem bh_Pkept {D : va_G} {w : va_W} {H H1 : Heap} (h : va_P D vwCl w H) (hk : ∀ q : Nat, q < H.size → H1[q]? = H[q]?) : va_P D vwCl w H1 := bh_Pmem.mpr fun q hq => (bh_Pmem.mp h q hq).kept (hk q.1 (bh_Pmem.mp h q hq).lt)
/-- 'throw new E("text")' -/
theorem bh_throw (C : bh_C p s m args meth c cc nL Ts RX0 D tys A ret) (hE : xe_E A s s.heap) (hno : ∀ x ∈ c.exceptionTable.toList, False) (hl : l.stackTraces = false) {cls text : String} {ik is ic mc ms : Nat} {Qc : Array Value → State → Outcome → State → Prop} {px : String → Prop} (hQ : Q = bz_MQ below Qc (bh_XC D tys A w px) args s mc ms A)
    (hcls : Bundle.fit cls = true) (hk : Cond.classLink RX0 ik cls ∈ Ts) (hini : Cond.initialized cls ∈ Ts) (hstr : (is, text) ∈ xe_strs) (hat1 : ∀ z ∈ (vx_atS RX0 ic cls xe_ns).filter goodWord, z ∈ Ts) (hat2 : ∀ z ∈ (vx_atS RX0 ic cls xe_ns).filter (fun z => !goodWord z), z ∈ xe_bad)
    (hgood : ∀ z ∈ Cond.classLink RX0 ik cls :: Cond.initialized cls :: vx_atS RX0 ic cls xe_ns, vx_ot z = true)
    (d0 : decode cc pc = .ok (.new ik, 3)) (d3 : decode cc (pc + 3) = .ok (.dup, 1)) (d4 : decode cc (pc + 4) = .ok (.ldc is, 2)) (d6 : decode cc (pc + 6) = .ok (.invokespecial ic, 3)) (d9 : decode cc (pc + 9) = .ok (.athrow, 1))
    (hRf : 5 < R.frames) (hRl : (st.map fun v => v.category).sum + 82 ≤ R.locals) (hRc : cells + 1 ≤ R.cells) (hRs : slots + 6 ≤ R.slots) (hc : cells + 1 ≤ mc) (hs : slots + 6 ≤ ms) (hpx : px cls) :
    bh_W p l e R s m args below meth c nL D A cells slots Q (w) lv (pc) (st) := by
  subst hQ
  intro H locs ls hP hD hS h
  obtain ⟨⟨hx, hb, hml, hown, hts⟩, hK, hA, hr, hlk⟩ := C
  obtain ⟨h1, h2, h3, h4, h5⟩ := hE
  obtain ⟨sa, hsa⟩ := h1 _ hstr
  refine bz_W (fun _ h => bz_thrown h) (vx_throwS (names := xe_ns) hx hb hl hown hcls (by decide) (hts _ hk) (hts _ hini) hsa (vx_hat (fun z hz => hts z (hat1 z hz)) hat2 (fun z hz => xe_badU hz (h2 z hz))) hgood h4 h5 hS (h.1.trans hml.symm) d0 d3 d4 d6 d9 (fun x hx => absurd (hno x hx) id) hRf hRl hRc hRs hlk ?_ hS.2.2 hc hs)
  intro t hal hz hk
  refine ⟨(), trivial, ⟨hpx, bh_Pkept hP hk, va_K.moved hal hK, hD⟩, Nat.le_trans hS.1 hz, fun q h6 h7 => ?_⟩
  rw [hk q (Nat.lt_of_lt_of_le h6 hS.1)]
  exact hS.2.1 q h6 h7
/-- a call, in a method whose world still is as it was at its start, of one that may throw: what it throws goes on -/
theorem bh_xcalli (C : bh_C p s m args meth c cc nL Ts own D tys A ret) {Qc : Array Value → State → Outcome → State → Prop} {px : String → Prop} {mc9 ms9 : Nat} (hQ : Q = bz_MQ below Qc (bh_XC D tys A w px) args s mc9 ms9 A) (hE : xe_E A s s.heap) (hno : ∀ x ∈ c.exceptionTable.toList, False) {S : Type} {post : Int32 → S → Prop} {wf : S → va_W} {pc1 : String → Prop} {mc ms n index maxL : Nat} {y : MethodName} {bytes : ByteArray} {rt : Option FieldType} {ws : List Cond} {rm : Room} {b : Addr} {As : List Value} {Cn : String} {T : u_T} {N ci : Nat} {fs : List Value} (hM : bh_Xi l D tys y ws rm (.ref b :: As) w post wf pc1 mc ms) (cw : CallW R s args own Cn index y bytes maxL rt ws rm mc ms n) (hcn : vwCl[ci]? = some (Cn, T, N)) (q0 : Nat) (hb0 : w[q0]? = some (b, .inr (ci, fs))) (hn : As.length = n) (hst : st = As.reverse ++ .ref b :: rest) (hcat : (rest.map fun v => v.category).sum ≤ 8) (hdg : decode cc pc = .ok (.invokevirtual index, 3)) (hf : cells + mc ≤ R.cells ∧ slots + ms ≤ R.slots) (hc : cells + mc ≤ mc9) (hs : slots + ms ≤ ms9) (hpx : ∀ E, pc1 E → px E)
    (kk : ∀ (r : Int32) (u : S), post r u → bh_W p l e R s m args below meth c nL D A (cells + 0) (slots + 0) Q (wf u) lv (pc + 3) (.int r :: rest)) : bh_W p l e R s m args below meth c nL D A cells slots Q (w) lv (pc) (st) := by
  subst hQ
  intro H locs ls hP hD hS h
  obtain ⟨S0, hK, hA, hr, hlk⟩ := C
  have hD2 : va_D A (([] : va_W) ++ w) := hD
  have hF := bh_free hD2 hS hA
  have hDc : va_D (fun _ => True) w := hD.weaken (fun _ _ _ _ => trivial)
  refine bz_calli (bz_runV (As := As) (rest := rest) S0 (hM H.size) cw ⟨bh_xblind, va_recv hK hP hcn hb0, fun U hU hW => ⟨rfl, ⟨by rw [hU], by rw [hU]; exact hP, va_K.moved hW.alike hK, hDc⟩, by rw [hU]; exact hE.to hW hS.2.1 hF⟩⟩ rfl hn h.1 hst (lv_room hcat) hdg hf) hS (fun q _ h => hF q h) hF (fun q _ h => hF q h) (fun E ce q9 u t H1 locs1 ht hvm hp hB hz1 hk1 hS1 hce hcv hcl => ?_) (fun r u t H1 locs1 ht hvm hp hB hz1 hk1 hS1 => ?_)
  · obtain ⟨hp1, hP1, hK1, hD1⟩ := hB
    exact bz_vW (fun _ h => bz_thrown h) (vx_out (fun x hx => absurd (hno x hx) id) hlk hce hcv hcl (fun t2 ht2 hal => ⟨(), trivial, ⟨hpx E hp1, by rw [ht2, ← ht]; exact hP1, va_K.moved hal hK, hD⟩, by rw [ht2]; exact hS1.1, fun q h6 h7 => by rw [ht2]; exact hS1.2.1 q h6 h7⟩) hS1.2.2 hc hs)
  · obtain ⟨hP1, hK1, hD1⟩ := hB
    rw [ht] at hP1
    have hP0 : va_P D vwCl (([] : va_W) ++ w) H := hP
    obtain ⟨hP3, hD3⟩ := bh_join hP0 hD2 hk1 hF hP1 hD1
    exact kk r u hp H1 locs1 ls hP3 hD3 hS1 h
theorem bh_calli_0 (C : bh_C p s m args meth c cc nL Ts own D tys A ret) {S : Type} {post : Int32 → S → Prop} {wf : S → va_W} {mc ms n index maxL : Nat} {y : MethodName} {bytes : ByteArray} {rt : Option FieldType} {ws : List Cond} {rm : Room} {b : Addr} {As : List Value} {Cn : String} {T : u_T} {N ci : Nat} {fs : List Value} (hM : bh_Mi l D tys y ws rm (.ref b :: As) w post wf mc ms) (cw : CallW R s args own Cn index y bytes maxL rt ws rm mc ms n) (hcn : vwCl[ci]? = some (Cn, T, N)) (q0 : Nat) (hb0 : w[q0]? = some (b, .inr (ci, fs))) (hn : As.length = n) (hst : st = As.reverse ++ .ref b :: rest) (hcat : (rest.map fun v => v.category).sum ≤ 8) (hdg : decode cc pc = .ok (.invokevirtual index, 3)) (hf : cells + mc ≤ R.cells ∧ slots + ms ≤ R.slots) (kk : ∀ (r : Int32) (u : S), post r u → bh_W p l e R s m args below meth c nL D A (cells + mc) (slots + ms) Q (wf u) lv (pc + 3) (.int r :: rest)) : bh_W p l e R s m args below meth c nL D A cells slots Q (w) lv (pc) (st) := bh_calli_V (wr := []) C hM cw (List.Perm.refl _) hcn q0 hb0 hn hst hcat hdg hf kk
theorem bh_calli_L (C : bh_C p s m args meth c cc nL Ts own D tys A ret) {S : Type} {post : Int32 → S → Prop} {wf : S → va_W} {wc wr : va_W} {mc ms n index maxL : Nat} {y : MethodName} {bytes : ByteArray} {rt : Option FieldType} {ws : List Cond} {rm : Room} {b : Addr} {As : List Value} {Cn : String} {T : u_T} {N ci : Nat} {fs : List Value} (hM : bh_Mi l D tys y ws rm (.ref b :: As) wc post wf mc ms) (cw : CallW R s args own Cn index y bytes maxL rt ws rm mc ms n) (hcn : vwCl[ci]? = some (Cn, T, N)) (q0 : Nat) (hb0 : wc[q0]? = some (b, .inr (ci, fs))) (hn : As.length = n) (hst : st = As.reverse ++ .ref b :: rest) (hcat : (rest.map fun v => v.category).sum ≤ 8) (hdg : decode cc pc = .ok (.invokevirtual index, 3)) (hf : cells + mc ≤ R.cells ∧ slots + ms ≤ R.slots) (kk : ∀ (r : Int32) (u : S), post r u → bh_W p l e R s m args below meth c nL D A (cells + mc) (slots + ms) Q ((wf u ++ wr)) lv (pc + 3) (.int r :: rest)) : bh_W p l e R s m args below meth c nL D A cells slots Q ((wc ++ wr)) lv (pc) (st) := bh_calli_V (wr := wr) C hM cw List.perm_append_comm hcn q0 hb0 hn hst hcat hdg hf (fun r u hp => bh_perm List.perm_append_comm (kk r u hp))
/-- a static call of one that needs no world -/
theorem bh_calli_N (C : bh_C p s m args meth c cc nL Ts own D tys A ret) {S : Type} {post : Int32 → S → Prop} {mc ms n index maxL : Nat} {y : MethodName} {bytes : ByteArray} {rt : Option FieldType} {ws : List Cond} {rm : Room} {As : List Value} (hM : bh_Mi l D tys y ws rm As [] post (fun _ => []) mc ms) (cw : CallB R s args own index y bytes maxL rt ws rm mc ms n ∧ (Cond.static y).before args s = true) (hn : As.length = n) (hst : st = As.reverse ++ rest) (hcat : (rest.map fun v => v.category).sum ≤ 8) (hdg : decode cc pc = .ok (.invokestatic index, 3)) (hf : cells + mc ≤ R.cells ∧ slots + ms ≤ R.slots) (kk : ∀ (r : Int32) (u : S), post r u → bh_W p l e R s m args below meth c nL D A (cells + mc) (slots + ms) Q (w) lv (pc + 3) (.int r :: rest)) : bh_W p l e R s m args below meth c nL D A cells slots Q (w) lv (pc) (st) := bh_calli_S (wr := w) (wf := fun _ : S => []) C hM cw (by rw [List.append_nil]) hn hst hcat hdg hf (fun r u hp => bh_eqw (List.append_nil w) (kk r u hp))
/-- a call, in a method whose world still is as it was at its start, of one that may throw: what it throws goes on -/
theorem bh_xcallv (C : bh_C p s m args meth c cc nL Ts own D tys A ret) {Qc : Array Value → State → Outcome → State → Prop} {px : String → Prop} {mc9 ms9 : Nat} (hQ : Q = bz_MQ below Qc (bh_XC D tys A w px) args s mc9 ms9 A) (hE : xe_E A s s.heap) (hno : ∀ x ∈ c.exceptionTable.toList, False) {S : Type} {post : S → Prop} {wf : S → va_W} {pc1 : String → Prop} {mc ms n index maxL : Nat} {y : MethodName} {bytes : ByteArray} {rt : Option FieldType} {ws : List Cond} {rm : Room} {b : Addr} {As : List Value} {Cn : String} {T : u_T} {N ci : Nat} {fs : List Value} (hM : bh_Xv l D tys y ws rm (.ref b :: As) w post wf pc1 mc ms) (cw : CallW R s args own Cn index y bytes maxL rt ws rm mc ms n) (hcn : vwCl[ci]? = some (Cn, T, N)) (q0 : Nat) (hb0 : w[q0]? = some (b, .inr (ci, fs))) (hn : As.length = n) (hst : st = As.reverse ++ .ref b :: rest) (hcat : (rest.map fun v => v.category).sum ≤ 8) (hdg : decode cc pc = .ok (.invokevirtual index, 3)) (hf : cells + mc ≤ R.cells ∧ slots + ms ≤ R.slots) (hc : cells + mc ≤ mc9) (hs : slots + ms ≤ ms9) (hpx : ∀ E, pc1 E → px E)
    (kk : ∀ u : S, post u → bh_W p l e R s m args below meth c nL D A (cells + 0) (slots + 0) Q (wf u) lv (pc + 3) (rest)) : bh_W p l e R s m args below meth c nL D A cells slots Q (w) lv (pc) (st) := by
  subst hQ
  intro H locs ls hP hD hS h
  obtain ⟨S0, hK, hA, hr, hlk⟩ := C
  have hD2 : va_D A (([] : va_W) ++ w) := hD
  have hF := bh_free hD2 hS hA
  have hDc : va_D (fun _ => True) w := hD.weaken (fun _ _ _ _ => trivial)
  refine bz_callv (bz_runV (As := As) (rest := rest) S0 (hM H.size) cw ⟨bh_xblind, va_recv hK hP hcn hb0, fun U hU hW => ⟨rfl, ⟨by rw [hU], by rw [hU]; exact hP, va_K.moved hW.alike hK, hDc⟩, by rw [hU]; exact hE.to hW hS.2.1 hF⟩⟩ rfl hn h.1 hst (lv_room hcat) hdg hf) hS (fun q _ h => hF q h) hF (fun q _ h => hF q h) (fun E ce q9 u t H1 locs1 ht hvm hp hB hz1 hk1 hS1 hce hcv hcl => ?_) (fun u t H1 locs1 ht hvm hp hB hz1 hk1 hS1 => ?_)
  · obtain ⟨hp1, hP1, hK1, hD1⟩ := hB
    exact bz_vW (fun _ h => bz_thrown h) (vx_out (fun x hx => absurd (hno x hx) id) hlk hce hcv hcl (fun t2 ht2 hal => ⟨(), trivial, ⟨hpx E hp1, by rw [ht2, ← ht]; exact hP1, va_K.moved hal hK, hD⟩, by rw [ht2]; exact hS1.1, fun q h6 h7 => by rw [ht2]; exact hS1.2.1 q h6 h7⟩) hS1.2.2 hc hs)
  · obtain ⟨hP1, hK1, hD1⟩ := hB
    rw [ht] at hP1
    have hP0 : va_P D vwCl (([] : va_W) ++ w) H := hP
    obtain ⟨hP3, hD3⟩ := bh_join hP0 hD2 hk1 hF hP1 hD1
    exact kk u hp H1 locs1 ls hP3 hD3 hS1 h
theorem bh_callv_0 (C : bh_C p s m args meth c cc nL Ts own D tys A ret) {S : Type} {post : S → Prop} {wf : S → va_W} {mc ms n index maxL : Nat} {y : MethodName} {bytes : ByteArray} {rt : Option FieldType} {ws : List Cond} {rm : Room} {b : Addr} {As : List Value} {Cn : String} {T : u_T} {N ci : Nat} {fs : List Value} (hM : bh_Mv l D tys y ws rm (.ref b :: As) w post wf mc ms) (cw : CallW R s args own Cn index y bytes maxL rt ws rm mc ms n) (hcn : vwCl[ci]? = some (Cn, T, N)) (q0 : Nat) (hb0 : w[q0]? = some (b, .inr (ci, fs))) (hn : As.length = n) (hst : st = As.reverse ++ .ref b :: rest) (hcat : (rest.map fun v => v.category).sum ≤ 8) (hdg : decode cc pc = .ok (.invokevirtual index, 3)) (hf : cells + mc ≤ R.cells ∧ slots + ms ≤ R.slots) (kk : ∀ u : S, post u → bh_W p l e R s m args below meth c nL D A (cells + mc) (slots + ms) Q (wf u) lv (pc + 3) (rest)) : bh_W p l e R s m args below meth c nL D A cells slots Q (w) lv (pc) (st) := bh_callv_V (wr := []) C hM cw (List.Perm.refl _) hcn q0 hb0 hn hst hcat hdg hf kk
theorem bh_callv_L (C : bh_C p s m args meth c cc nL Ts own D tys A ret) {S : Type} {post : S → Prop} {wf : S → va_W} {wc wr : va_W} {mc ms n index maxL : Nat} {y : MethodName} {bytes : ByteArray} {rt : Option FieldType} {ws : List Cond} {rm : Room} {b : Addr} {As : List Value} {Cn : String} {T : u_T} {N ci : Nat} {fs : List Value} (hM : bh_Mv l D tys y ws rm (.ref b :: As) wc post wf mc ms) (cw : CallW R s args own Cn index y bytes maxL rt ws rm mc ms n) (hcn : vwCl[ci]? = some (Cn, T, N)) (q0 : Nat) (hb0 : wc[q0]? = some (b, .inr (ci, fs))) (hn : As.length = n) (hst : st = As.reverse ++ .ref b :: rest) (hcat : (rest.map fun v => v.category).sum ≤ 8) (hdg : decode cc pc = .ok (.invokevirtual index, 3)) (hf : cells + mc ≤ R.cells ∧ slots + ms ≤ R.slots) (kk : ∀ u : S, post u → bh_W p l e R s m args below meth c nL D A (cells + mc) (slots + ms) Q ((wf u ++ wr)) lv (pc + 3) (rest)) : bh_W p l e R s m args below meth c nL D A cells slots Q ((wc ++ wr)) lv (pc) (st) := bh_callv_V (wr := wr) C hM cw List.perm_append_comm hcn q0 hb0 hn hst hcat hdg hf (fun u hp => bh_perm List.perm_append_comm (kk u hp))
/-- a static call of one that needs no world -/
theorem bh_callv_N (C : bh_C p s m args meth c cc nL Ts own D tys A ret) {S : Type} {post : S → Prop} {mc ms n index maxL : Nat} {y : MethodName} {bytes : ByteArray} {rt : Option FieldType} {ws : List Cond} {rm : Room} {As : List Value} (hM : bh_Mv l D tys y ws rm As [] post (fun _ => []) mc ms) (cw : CallB R s args own index y bytes maxL rt ws rm mc ms n ∧ (Cond.static y).before args s = true) (hn : As.length = n) (hst : st = As.reverse ++ rest) (hcat : (rest.map fun v => v.category).sum ≤ 8) (hdg : decode cc pc = .ok (.invokestatic index, 3)) (hf : cells + mc ≤ R.cells ∧ slots + ms ≤ R.slots) (kk : ∀ u : S, post u → bh_W p l e R s m args below meth c nL D A (cells + mc) (slots + ms) Q (w) lv (pc + 3) (rest)) : bh_W p l e R s m args below meth c nL D A cells slots Q (w) lv (pc) (st) := bh_callv_S (wr := w) (wf := fun _ : S => []) C hM cw (by rw [List.append_nil]) hn hst hcat hdg hf (fun u hp => bh_eqw (List.append_nil w) (kk u hp))
end BHX
theorem xe_hb54 : ∀ z ∈ (vx_atS RX0 54 xe_A xe_ns).filter (fun z => !goodWord z), z ∈ xe_bad := by decide +kernel
theorem xe_hb65 : ∀ z ∈ (vx_atS RX0 65 xe_S xe_ns).filter (fun z => !goodWord z), z ∈ xe_bad := by decide +kernel
theorem xe_hb134 : ∀ z ∈ (vx_atS RX0 134 xe_I xe_ns).filter (fun z => !goodWord z), z ∈ xe_bad := by decide +kernel
theorem xe_hg54_50 : ∀ z ∈ Cond.classLink RX0 50 xe_A :: Cond.initialized xe_A :: vx_atS RX0 54 xe_A xe_ns, vx_ot z = true := by decide +kernel
theorem xe_hg65_61 : ∀ z ∈ Cond.classLink RX0 61 xe_S :: Cond.initialized xe_S :: vx_atS RX0 65 xe_S xe_ns, vx_ot z = true := by decide +kernel
theorem xe_hg134_130 : ∀ z ∈ Cond.classLink RX0 130 xe_I :: Cond.initialized xe_I :: vx_atS RX0 134 xe_I xe_ns, vx_ot z = true := by decide +kernel
end
section
/-- what holds of every state that a run comes to: K bounds the scans that are still to come with those that were, T the time -/
def mo_phi1 (p : Int32) : Nat := if p = 6 then 3 else if p = 5 then 2 else if p = 7 ∨ p = 8 then 1 else 0
def mo_phi (f : Nat → Int32) : Nat → Nat
  | 0 => 0
  | n + 1 => mo_phi f n + mo_phi1 (f n)
def MI (K T : Nat) (M : MT) : Prop :=
  mq_fc M ≤ 10 ∧ mq_bc M ≤ 48 ∧ (∀ i, vp_in (mq_bf M i) 10) ∧ (∀ i, vp_in (mq_br M i) 40) ∧ (∀ i, vp_in (mq_pl M i) 12) ∧ (∀ i, vp_in (mq_ls M i) 2048) ∧ (∀ i, mq_pu M i = 0 ∨ mq_pu M i = 1) ∧ (∀ i, mq_brd M i = 0 ∨ mq_brd M i = 1) ∧
  (∀ q, q < 12 → mq_at M q = nI (mo_at M (nI q))) ∧ (∀ i, mq_bc M ≤ i → mq_pl M i = 0 ∧ mq_pu M i = 0) ∧ (∀ i, vp_in (mq_sb M i) 48 ∧ vp_in (mq_sp M i) 12 ∧ vp_in (mq_st M i) 131072) ∧
  (∀ i, mq_pl M i ≠ 0 → mq_ca M i = mq_st M (mq_ls M i).toNatClampNeg ∧ (mq_ls M i).toNatClampNeg < mq_sc M) ∧ (∀ i, vp_in (mq_dep M i) 200000) ∧ mq_sc M + mo_phi (mq_pl M) 48 ≤ K ∧ mq_now M ≤ T ∧ K ≤ 2048 ∧ T ≤ 102400
section
variable {K T : Nat} {M : MT}
theorem MI_fc (h : MI K T M) : mq_fc M ≤ 10 := h.1
theorem MI_bc (h : MI K T M) : mq_bc M ≤ 48 := h.2.1
theorem MI_bf (h : MI K T M) (i : Nat) : vp_in (mq_bf M i) 10 := h.2.2.1 i
theorem MI_br (h : MI K T M) (i : Nat) : vp_in (mq_br M i) 40 := h.2.2.2.1 i
theorem MI_pl (h : MI K T M) (i : Nat) : vp_in (mq_pl M i) 12 := h.2.2.2.2.1 i
theorem MI_ls (h : MI K T M) (i : Nat) : vp_in (mq_ls M i) 2048 := h.2.2.2.2.2.1 i
theorem MI_pu (h : MI K T M) (i : Nat) : mq_pu M i = 0 ∨ mq_pu M i = 1 := h.2.2.2.2.2.2.1 i
theorem MI_brd (h : MI K T M) (i : Nat) : mq_brd M i = 0 ∨ mq_brd M i = 1 := h.2.2.2.2.2.2.2.1 i
theorem MI_at (h : MI K T M) {q : Nat} (hq : q < 12) : mq_at M q = nI (mo_at M (nI q)) := h.2.2.2.2.2.2.2.2.1 q hq
theorem MI_beyond (h : MI K T M) {i : Nat} (hi : mq_bc M ≤ i) : mq_pl M i = 0 ∧ mq_pu M i = 0 := h.2.2.2.2.2.2.2.2.2.1 i hi
theorem MI_scan (h : MI K T M) (i : Nat) : vp_in (mq_sb M i) 48 ∧ vp_in (mq_sp M i) 12 ∧ vp_in (mq_st M i) 131072 := h.2.2.2.2.2.2.2.2.2.2.1 i
theorem MI_ca (h : MI K T M) {i : Nat} (hi : mq_pl M i ≠ 0) : mq_ca M i = mq_st M (mq_ls M i).toNatClampNeg ∧ (mq_ls M i).toNatClampNeg < mq_sc M := h.2.2.2.2.2.2.2.2.2.2.2.1 i hi
theorem MI_dep (h : MI K T M) (i : Nat) : vp_in (mq_dep M i) 200000 := h.2.2.2.2.2.2.2.2.2.2.2.2.1 i
theorem MI_phi (h : MI K T M) : mq_sc M + mo_phi (mq_pl M) 48 ≤ K := h.2.2.2.2.2.2.2.2.2.2.2.2.2.1
theorem MI_now (h : MI K T M) : mq_now M ≤ T := h.2.2.2.2.2.2.2.2.2.2.2.2.2.2.1
theorem MI_K (h : MI K T M) : K ≤ 2048 := h.2.2.2.2.2.2.2.2.2.2.2.2.2.2.2.1
theorem MI_T (h : MI K T M) : T ≤ 102400 := h.2.2.2.2.2.2.2.2.2.2.2.2.2.2.2.2
theorem MI_sc (h : MI K T M) : mq_sc M ≤ 2048 := by
  have := MI_phi h
  have := MI_K h
  omega
theorem MI_now2 (h : MI K T M) : mq_now M ≤ 102400 := Nat.le_trans (MI_now h) (MI_T h)
end
theorem bh_eq0 {P : Prop} [Decidable P] (h : (if P then (1 : Int32) else 0) = 0) : ¬ P := fun q => by rw [if_pos q] at h; exact absurd h (by decide)
theorem bh_ne0 {P : Prop} [Decidable P] (h : ¬ (if P then (1 : Int32) else 0) = 0) : P := by
  by_cases q : P
  · exact q
  · rw [if_neg q] at h; exact absurd rfl h
theorem bh_nlt {a b : Int32} (h : ¬ a < b) : b ≤ a := Int32.not_lt.mp h
theorem bh_nle {a b : Int32} (h : a < b) : ¬ b ≤ a := Int32.not_le.mpr h
theorem bh_le {a b : Nat} (ha : a < 2 ^ 31) (hb : b < 2 ^ 31) (h : nI a ≤ nI b) : a ≤ b := (nI_leI ha hb).mp h
theorem bh_nle2 {a b : Nat} (ha : a < 2 ^ 31) (hb : b < 2 ^ 31) (h : ¬ nI a ≤ nI b) : b < a := Nat.lt_of_not_le (fun q => h ((nI_leI ha hb).mpr q))
theorem bh_cn1 {f : Nat → Bool} {k : Nat} (h : f k = true) : mo_cn f (k + 1) = mo_cn f k + 1 := by simp [mo_cn, h]
theorem bh_cn0 {f : Nat → Bool} {k : Nat} (h : f k = false) : mo_cn f (k + 1) = mo_cn f k := by simp [mo_cn, h]
theorem bh_clamp {x : Int32} {n : Nat} (h : vp_in x n) (hn : n < 2 ^ 31) : x.toNatClampNeg < n ∧ x = nI x.toNatClampNeg := by
  obtain ⟨j, hj, rfl⟩ := vp_in_of h hn
  rw [nI_clamp (by omega)]
  exact ⟨hj, rfl⟩
theorem bh_in {x : Int32} {n : Nat} (hn : n < 2 ^ 31) (h1 : ¬ x < 0) (h2 : x < nI n) : vp_in x n := by
  rw [vp_in_iff]
  rw [Int32.lt_iff_toInt_lt, Int32.toInt_zero] at h1
  rw [Int32.lt_iff_toInt_lt, nI_toInt hn] at h2
  omega
theorem bh_out1 {x : Int32} {n : Nat} (h1 : x < 0) : ¬ vp_in x n := by
  rw [vp_in_iff]
  rw [Int32.lt_iff_toInt_lt, Int32.toInt_zero] at h1
  omega
theorem bh_out2 {x : Int32} {n : Nat} (hn : n < 2 ^ 31) (h2 : ¬ x < nI n) : ¬ vp_in x n := by
  rw [vp_in_iff]
  rw [Int32.lt_iff_toInt_lt, nI_toInt hn] at h2
  omega
theorem bh_subInt {a b : Int32} {n : Nat} (hn : n ≤ 200000) (ha : vp_in a n) (hb : vp_in b n) : (a - b).toInt = a.toInt - b.toInt := by
  rw [vp_in_iff] at ha hb
  rw [Int32.toInt_sub]
  exact Int.bmod_eq_of_le (by omega) (by omega)
theorem bh_absT {a d : Int32} (ha : vp_in a 200000) (hd : vp_in d 200000) (h : a - d < 60 ∧ -60 < a - d) : ¬ (60 : Int32) ≤ (if 0 ≤ a - d then a - d else 0 - (a - d)) := by
  have hs := bh_subInt (Nat.le_refl _) ha hd
  rw [vp_in_iff] at ha hd
  obtain ⟨h1, h2⟩ := h
  rw [Int32.lt_iff_toInt_lt] at h1 h2
  have e60 : (60 : Int32).toInt = 60 := by decide
  have em60 : (-60 : Int32).toInt = -60 := by decide
  rw [hs, e60] at h1
  rw [hs, em60] at h2
  by_cases q : 0 ≤ a - d
  · rw [if_pos q, Int32.le_iff_toInt_le, hs, e60]; omega
  · rw [if_neg q, Int32.le_iff_toInt_le, Int32.toInt_sub, hs, e60, Int32.toInt_zero, Int.bmod_eq_of_le (by omega) (by omega)]; omega
theorem bh_absF {a d : Int32} (ha : vp_in a 200000) (hd : vp_in d 200000) (h : (if 0 ≤ a - d then a - d else 0 - (a - d)) < (60 : Int32)) : a - d < 60 ∧ -60 < a - d := by
  have hs := bh_subInt (Nat.le_refl _) ha hd
  rw [vp_in_iff] at ha hd
  have e60 : (60 : Int32).toInt = 60 := by decide
  have em60 : (-60 : Int32).toInt = -60 := by decide
  rw [Int32.lt_iff_toInt_lt, Int32.lt_iff_toInt_lt, hs, e60, em60]
  by_cases q : 0 ≤ a - d
  · rw [if_pos q, Int32.lt_iff_toInt_lt, hs, e60] at h
    rw [Int32.le_iff_toInt_le, hs, Int32.toInt_zero] at q
    omega
  · rw [if_neg q, Int32.lt_iff_toInt_lt, Int32.toInt_sub, hs, e60, Int32.toInt_zero, Int.bmod_eq_of_le (by omega) (by omega)] at h
    rw [Int32.le_iff_toInt_le, hs, Int32.toInt_zero] at q
    omega
theorem bh_dec (x : Int32) : x + Int32.ofInt (-1) = x - 1 := by
  rw [Int32.sub_eq_add_neg]
  rfl
end
section
section
variable {K T : Nat} {M : MT}
theorem mo_cn_pos {f : Nat → Bool} {n j : Nat} (hj : j < n) (h : f j = true) : 0 < mo_cn f n := by
  induction n with
  | zero => exact absurd hj (by omega)
  | succ n ih =>
    simp only [mo_cn]
    rcases Nat.lt_succ_iff_lt_or_eq.mp hj with q | q
    · have := ih q; omega
    · rw [← q, h]; simp
theorem mo_phi_ge {f : Nat → Int32} {n j : Nat} (hj : j < n) : mo_phi1 (f j) ≤ mo_phi f n := by
  induction n with
  | zero => exact absurd hj (by omega)
  | succ n ih =>
    simp only [mo_phi]
    rcases Nat.lt_succ_iff_lt_or_eq.mp hj with q | q
    · have := ih q; omega
    · rw [← q]; omega
theorem bh_upd_same (f : Nat → Int32) (k : Nat) (v : Int32) : upd f k v k = v := if_pos rfl
theorem bh_upd_ne (f : Nat → Int32) {k j : Nat} (v : Int32) (h : j ≠ k) : upd f k v j = f j := if_neg h
theorem mo_phi_upd (f : Nat → Int32) (k : Nat) (v : Int32) (n : Nat) : (k < n → mo_phi (upd f k v) n + mo_phi1 (f k) = mo_phi f n + mo_phi1 v) ∧ (n ≤ k → mo_phi (upd f k v) n = mo_phi f n) := by
  induction n with
  | zero => exact ⟨fun h => absurd h (by omega), fun _ => rfl⟩
  | succ n ih =>
    simp only [mo_phi]
    refine ⟨fun h => ?_, fun h => ?_⟩
    · rcases Nat.lt_succ_iff_lt_or_eq.mp h with q | q
      · have := ih.1 q
        rw [bh_upd_ne f v (by omega : n ≠ k)]; omega
      · have := ih.2 (by omega)
        rw [← q, bh_upd_same]; rw [← q] at this; omega
    · rw [ih.2 (by omega), bh_upd_ne f v (by omega : n ≠ k)]
theorem mo_cn_upd (f : Nat → Int32) (k : Nat) (v x : Int32) (n : Nat) : (k < n → mo_cn (fun j => decide (upd f k v j = x)) n + (if f k = x then 1 else 0) = mo_cn (fun j => decide (f j = x)) n + (if v = x then 1 else 0)) ∧ (n ≤ k → mo_cn (fun j => decide (upd f k v j = x)) n = mo_cn (fun j => decide (f j = x)) n) := by
  induction n with
  | zero => exact ⟨fun h => absurd h (by omega), fun _ => rfl⟩
  | succ n ih =>
    simp only [mo_cn, decide_eq_true_eq]
    refine ⟨fun h => ?_, fun h => ?_⟩
    · rcases Nat.lt_succ_iff_lt_or_eq.mp h with q | q
      · have := ih.1 q
        rw [bh_upd_ne f v (by omega : n ≠ k)]; omega
      · have := ih.2 (by omega)
        rw [← q, bh_upd_same]; rw [← q] at this; omega
    · rw [ih.2 (by omega), bh_upd_ne f v (by omega : n ≠ k)]
theorem MI_bring {K2 : Nat} (hI : MI K T M) {k : Nat} (hk : k < mq_bc M) {q : Int32} (hq : vp_in q 12) (hKK : K ≤ K2) (hK2 : K2 ≤ 2048) (hphi : K + 1 + mo_phi1 q ≤ K2 + mo_phi1 (mq_pl M k)) (hsc : mq_sc M < 2048) : MI K2 T (mo_bring M k q) := by
  have hb := MI_bc hI
  have hn := MI_now2 hI
  have gn := MI_now hI
  obtain ⟨j0, hj0, ej0⟩ := vp_in_of (MI_pl hI k) (by decide)
  obtain ⟨j1, hj1, ej1⟩ := vp_in_of hq (by decide)
  have c0 : (mq_pl M k).toNatClampNeg = j0 := by rw [ej0]; exact nI_clamp (by omega)
  have c1 : q.toNatClampNeg = j1 := by rw [ej1]; exact nI_clamp (by omega)
  obtain ⟨a1, a2, a3, a4, a5, a6, a7, a8, a9, a10, a11, a12, a13, a14, a15, a16, a17⟩ := id hI
  refine ⟨a1, hb, a3, a4, fun i => ?_, fun i => ?_, a7, a8, fun a ha => ?_, fun i hi => ⟨?_, (a10 i hi).2⟩, fun i => ⟨?_, ?_, ?_⟩, fun i hi => ?_, a13, ?_, a15, hK2, a17⟩
  · show vp_in (upd (mq_pl M) k q i) 12
    unfold upd
    split
    · exact hq
    · exact MI_pl hI i
  · show vp_in (upd (mq_ls M) k (nI (mq_sc M)) i) 2048
    unfold upd
    split
    · exact vp_in_nI hsc (by decide)
    · exact MI_ls hI i
  · show upd (mo_at1 M k) q.toNatClampNeg (mo_at1 M k q.toNatClampNeg + 1) a = nI (mo_cn (fun j => decide (upd (mq_pl M) k q j = nI a)) 48)
    have hcnt := (mo_cn_upd (mq_pl M) k q (nI a) 48).1 (by omega)
    have e0 : (mq_pl M k = nI a) ↔ j0 = a := by rw [ej0]; exact nI_eq (by omega) (by omega)
    have e1 : (q = nI a) ↔ j1 = a := by rw [ej1]; exact nI_eq (by omega) (by omega)
    have hat : mq_at M a = nI (mo_cn (fun j => decide (mq_pl M j = nI a)) 48) := MI_at hI ha
    have h1 : mo_at1 M k a = nI (mo_cn (fun j => decide (mq_pl M j = nI a)) 48 - (if j0 = a then 1 else 0)) := by
      unfold mo_at1 upd
      rw [c0]
      by_cases z : a = j0
      · rw [if_pos z, if_pos z.symm, ← z, hat]
        have hp : 0 < mo_cn (fun j => decide (mq_pl M j = nI a)) 48 := mo_cn_pos (j := k) (by omega) (decide_eq_true (e0.mpr z.symm))
        obtain ⟨u, hu⟩ : ∃ u, mo_cn (fun j => decide (mq_pl M j = nI a)) 48 = u + 1 := ⟨_, (Nat.succ_pred_eq_of_pos hp).symm⟩
        rw [hu, nI_pred]; rfl
      · rw [if_neg z, if_neg (fun y => z y.symm), hat]; rfl
    rw [c1]
    by_cases z : a = j1
    · rw [← z, bh_upd_same, h1, nI_1]
      rw [if_pos (e1.mpr z.symm)] at hcnt
      congr 1
      by_cases y : j0 = a
      · have hp : 0 < mo_cn (fun j => decide (mq_pl M j = nI a)) 48 := mo_cn_pos (j := k) (by omega) (decide_eq_true (e0.mpr y))
        rw [if_pos (e0.mpr y)] at hcnt
        rw [if_pos y]; omega
      · rw [if_neg (fun z => y (e0.mp z))] at hcnt
        rw [if_neg y]; omega
    · rw [bh_upd_ne _ _ z, h1]
      rw [if_neg (fun y => z (e1.mp y).symm)] at hcnt
      congr 1
      by_cases y : j0 = a
      · rw [if_pos (e0.mpr y)] at hcnt
        rw [if_pos y]; omega
      · rw [if_neg (fun z => y (e0.mp z))] at hcnt
        rw [if_neg y]; omega
  · show upd (mq_pl M) k q i = 0
    have hi : mq_bc M ≤ i := hi
    rw [bh_upd_ne _ _ (by omega)]
    exact (MI_beyond hI hi).1
  · show vp_in (upd (mq_sb M) (mq_sc M) (nI k) i) 48
    unfold upd
    split
    · exact vp_in_nI (by omega) (by decide)
    · exact (MI_scan hI i).1
  · show vp_in (upd (mq_sp M) (mq_sc M) q i) 12
    unfold upd
    split
    · exact hq
    · exact (MI_scan hI i).2.1
  · show vp_in (upd (mq_st M) (mq_sc M) (nI (mq_now M)) i) 131072
    unfold upd
    split
    · exact vp_in_nI (by omega) (by decide)
    · exact (MI_scan hI i).2.2
  · show upd (mq_ca M) k (nI (mq_now M)) i = upd (mq_st M) (mq_sc M) (nI (mq_now M)) (upd (mq_ls M) k (nI (mq_sc M)) i).toNatClampNeg ∧ (upd (mq_ls M) k (nI (mq_sc M)) i).toNatClampNeg < mq_sc M + 1
    by_cases z : i = k
    · subst z
      rw [bh_upd_same, bh_upd_same, nI_clamp (by omega), bh_upd_same]
      exact ⟨rfl, by omega⟩
    · have hi2 : upd (mq_pl M) k q i ≠ 0 := hi
      rw [bh_upd_ne _ _ z] at hi2
      obtain ⟨g1, g2⟩ := MI_ca hI hi2
      rw [bh_upd_ne _ _ z, bh_upd_ne _ _ z, bh_upd_ne _ _ (by omega)]
      exact ⟨g1, by omega⟩
  · show mq_sc M + 1 + mo_phi (upd (mq_pl M) k q) 48 ≤ K2
    have := (mo_phi_upd (mq_pl M) k q 48).1 (by omega)
    have := MI_phi hI
    omega
theorem MI_room (hI : MI K T M) {k : Nat} (hk : k < 48) (h : mo_phi1 (mq_pl M k) ≠ 0) : mq_sc M < 2048 := by
  have := MI_phi hI
  have := MI_K hI
  have := mo_phi_ge (f := mq_pl M) hk
  omega
theorem mo_phi1_le (q : Int32) : mo_phi1 q ≤ 3 := by
  unfold mo_phi1
  split
  · omega
  · split
    · omega
    · split <;> omega
end
section
variable {K T : Nat} {M : MT}
theorem MI_at5 (h : MI K T M) : mq_at M (5 : Int32).toNatClampNeg = nI (mo_at M 5) := by
  rw [show (5 : Int32).toNatClampNeg = 5 from by decide +kernel, MI_at h (by decide), show nI 5 = 5 from by decide +kernel]
theorem MI_at6 (h : MI K T M) : mq_at M (6 : Int32).toNatClampNeg = nI (mo_at M 6) := by
  rw [show (6 : Int32).toNatClampNeg = 6 from by decide +kernel, MI_at h (by decide), show nI 6 = 6 from by decide +kernel]
theorem mo_cn_le (f : Nat → Bool) (n : Nat) : mo_cn f n ≤ n := by
  induction n with
  | zero => exact Nat.le_refl _
  | succ n ih => simp only [mo_cn]; split <;> omega
theorem mo_at_le (M : MT) (p : Int32) : mo_at M p ≤ 48 := mo_cn_le _ _
theorem mo_first_or (M : MT) (n : Nat) : mo_first M n = -1 ∨ ∃ j, j < n ∧ mo_first M n = nI j ∧ mq_pl M j = 5 := by
  induction n with
  | zero => exact Or.inl rfl
  | succ n ih =>
    simp only [mo_first]
    split
    · rename_i z
      exact Or.inr ⟨n, by omega, rfl, z.1.1⟩
    · rcases ih with z | ⟨j, h1, h2, h3⟩
      · exact Or.inl z
      · exact Or.inr ⟨j, by omega, h2, h3⟩
theorem mo_first_none (hI : MI K T M) (h : mo_at M 5 = 0) : mo_first M (mq_bc M) = -1 := by
  rcases mo_first_or M (mq_bc M) with z | ⟨j, h1, -, h3⟩
  · exact z
  · have hb := MI_bc hI
    have : 0 < mo_at M 5 := mo_cn_pos (j := j) (by omega) (decide_eq_true h3)
    omega
theorem mo_emp_none (h : mo_first M (mq_bc M) = -1) : mo_emp M = M := if_pos h
theorem mo_emp_some {j : Nat} (hj : j < 48) (h : mo_first M (mq_bc M) = nI j) : mo_emp M = mo_bring M j 7 := by
  have hne : ¬ mo_first M (mq_bc M) = -1 := by
    rw [h]
    intro z
    exact nI_pos (n := j) (by omega) (by rw [z]; decide)
  unfold mo_emp
  rw [if_neg hne, h, nI_clamp (by omega)]
theorem MI_emp (hI : MI K T M) : MI K T (mo_emp M) := by
  rcases mo_first_or M (mq_bc M) with z | ⟨j, h1, h2, h3⟩
  · rw [mo_emp_none z]; exact hI
  · have hb := MI_bc hI
    rw [mo_emp_some (by omega) h2]
    refine MI_bring hI h1 (vp_in_nI (n := 7) (by decide) (by decide)) (Nat.le_refl _) (MI_K hI) ?_ (MI_room hI (k := j) (by omega) (by rw [h3]; decide))
    rw [h3, show mo_phi1 7 = 1 from by decide, show mo_phi1 5 = 2 from by decide]
    omega
theorem bc_emp (M : MT) : mq_bc (mo_emp M) = mq_bc M := by
  unfold mo_emp
  split <;> rfl
theorem MI_tick (hI : MI K T M) (hT : T + 1 ≤ 102400) : MI K (T + 1) (mo_tick M) := by
  have h1 := MI_now hI
  have gp := MI_phi hI
  obtain ⟨a1, a2, a3, a4, a5, a6, a7, a8, a9, a10, a11, a12, a13, a14, a15, a16, a17⟩ := id hI
  exact ⟨a1, a2, a3, a4, a5, a6, a7, a8, a9, a10, a11, a12, a13, a14, (show mq_now M + 1 ≤ T + 1 by omega), a16, hT⟩
theorem mo_way_or (M : MT) (x : Int32) : mo_way M x = 11 ∨ mo_way M x = 7 ∨ mo_way M x = 5 ∨ mo_way M x = 6 := by
  unfold mo_way
  split
  · exact Or.inl rfl
  · split
    · exact Or.inr (Or.inl rfl)
    · split
      · exact Or.inr (Or.inr (Or.inl rfl))
      · exact Or.inr (Or.inr (Or.inr rfl))
theorem mo_way_in (M : MT) (x : Int32) : vp_in (mo_way M x) 12 := by
  rcases mo_way_or M x with z | z | z | z <;> rw [z]
  · exact vp_in_nI (n := 11) (by decide) (by decide)
  · exact vp_in_nI (n := 7) (by decide) (by decide)
  · exact vp_in_nI (n := 5) (by decide) (by decide)
  · exact vp_in_nI (n := 6) (by decide) (by decide)
theorem MI_route1 (hI : MI K T M) {k : Nat} (hk : k < mq_bc M) (h : mq_pl M k = 6) : MI K T (mo_route M k) := by
  have hb := MI_bc hI
  unfold mo_route
  split
  · exact hI
  · rename_i z
    have hw : mo_way M (mq_bf M k) ≠ 6 := fun y => z ⟨y, h⟩
    refine MI_bring hI hk (mo_way_in _ _) (Nat.le_refl _) (MI_K hI) ?_ (MI_room hI (k := k) (by omega) (by rw [h]; decide))
    rw [h, show mo_phi1 6 = 3 from by decide]
    rcases mo_way_or M (mq_bf M k) with y | y | y | y
    · rw [y, show mo_phi1 11 = 0 from by decide]; omega
    · rw [y, show mo_phi1 7 = 1 from by decide]; omega
    · rw [y, show mo_phi1 5 = 2 from by decide]; omega
    · exact absurd y hw
theorem bc_route (M : MT) (k : Nat) : mq_bc (mo_route M k) = mq_bc M := by
  unfold mo_route
  split <;> rfl
theorem fc_route (M : MT) (k : Nat) : mq_fc (mo_route M k) = mq_fc M := by
  unfold mo_route
  split <;> rfl
theorem bc_loop (M : MT) (n : Nat) : mq_bc (mo_it mo_loop1 M n) = mq_bc M := by
  induction n with
  | zero => rfl
  | succ n ih =>
    show mq_bc (mo_loop1 (mo_it mo_loop1 M n) n) = mq_bc M
    unfold mo_loop1
    split
    · rw [bc_route]; exact ih
    · exact ih
theorem bc_settle (M : MT) (k : Nat) : mq_bc (mo_settle M k) = mq_bc M := by
  unfold mo_settle
  split
  · split <;> rfl
  · split <;> rfl
theorem fc_settle (M : MT) (k : Nat) : mq_fc (mo_settle M k) = mq_fc M := by
  unfold mo_settle
  split
  · split <;> rfl
  · split <;> rfl
theorem MI_settle (hI : MI K T M) {k : Nat} (hk : k < mq_bc M) : MI K T (mo_settle M k) := by
  have hb := MI_bc hI
  unfold mo_settle
  split
  · rename_i z
    have hr := MI_room hI (k := k) (by omega) (by rw [z]; decide)
    split
    · refine MI_bring hI hk (vp_in_nI (n := 9) (by decide) (by decide)) (Nat.le_refl _) (MI_K hI) ?_ hr
      rw [z, show mo_phi1 9 = 0 from by decide, show mo_phi1 8 = 1 from by decide]; omega
    · refine MI_bring hI hk (vp_in_nI (n := 10) (by decide) (by decide)) (Nat.le_refl _) (MI_K hI) ?_ hr
      rw [z, show mo_phi1 10 = 0 from by decide, show mo_phi1 8 = 1 from by decide]; omega
  · split
    · rename_i z
      have hz : 1 ≤ mo_phi1 (mq_pl M k) := by
        rcases z with z | z | z <;> rw [z] <;> decide
      refine MI_bring hI hk (vp_in_nI (n := 11) (by decide) (by decide)) (Nat.le_refl _) (MI_K hI) ?_ (MI_room hI (k := k) (by omega) (by omega))
      rw [show mo_phi1 11 = 0 from by decide]; omega
    · exact hI
theorem MI_loop (hI : MI K T M) {n : Nat} (hn : n ≤ mq_bc M) : MI K T (mo_it mo_loop1 M n) := by
  induction n with
  | zero => exact hI
  | succ n ih =>
    have ih := ih (by omega)
    show MI K T (mo_loop1 (mo_it mo_loop1 M n) n)
    unfold mo_loop1
    split
    · rename_i z
      exact MI_route1 ih (by rw [bc_loop]; omega) z
    · exact ih
theorem mo_loop_none (hI : MI K T M) (h : mo_at M 6 = 0) : mo_loop M = M := by
  have hb := MI_bc hI
  have hne : ∀ j, j < 48 → mq_pl M j ≠ 6 := fun j hj z => by
    have : 0 < mo_at M 6 := mo_cn_pos (j := j) hj (decide_eq_true z)
    omega
  have : ∀ n, n ≤ 48 → mo_it mo_loop1 M n = M := by
    intro n
    induction n with
    | zero => exact fun _ => rfl
    | succ n ih =>
      intro hn
      show mo_loop1 (mo_it mo_loop1 M n) n = M
      rw [ih (by omega)]
      exact if_neg (hne n (by omega))
  exact this _ hb
theorem bc_sbags (f : Int32) (M : MT) (n : Nat) : mq_bc (mo_it (mo_sbag f) M n) = mq_bc M := by
  induction n with
  | zero => rfl
  | succ n ih =>
    show mq_bc (mo_sbag f (mo_it (mo_sbag f) M n) n) = mq_bc M
    unfold mo_sbag
    split
    · rw [bc_settle]; exact ih
    · exact ih
theorem fc_sbags (f : Int32) (M : MT) (n : Nat) : mq_fc (mo_it (mo_sbag f) M n) = mq_fc M := by
  induction n with
  | zero => rfl
  | succ n ih =>
    show mq_fc (mo_sbag f (mo_it (mo_sbag f) M n) n) = mq_fc M
    unfold mo_sbag
    split
    · rw [fc_settle]; exact ih
    · exact ih
theorem MI_sbags (hI : MI K T M) (f : Int32) {n : Nat} (hn : n ≤ mq_bc M) : MI K T (mo_it (mo_sbag f) M n) := by
  induction n with
  | zero => exact hI
  | succ n ih =>
    have ih := ih (by omega)
    show MI K T (mo_sbag f (mo_it (mo_sbag f) M n) n)
    unfold mo_sbag
    split
    · exact MI_settle ih (by rw [bc_sbags]; omega)
    · exact ih
theorem MI_dep1 (hI : MI K T M) (n : Nat) : MI K T (mo_it mo_dep1 M n) := by
  induction n with
  | zero => exact hI
  | succ n ih =>
    show MI K T (mo_dep1 (mo_it mo_dep1 M n) n)
    unfold mo_dep1
    split
    · exact MI_sbags ih _ (Nat.le_refl _)
    · exact ih
theorem fc_dep1 (M : MT) (n : Nat) : mq_fc (mo_it mo_dep1 M n) = mq_fc M := by
  induction n with
  | zero => rfl
  | succ n ih =>
    show mq_fc (mo_dep1 (mo_it mo_dep1 M n) n) = mq_fc M
    unfold mo_dep1
    split
    · rw [fc_sbags]; exact ih
    · exact ih
theorem mo_way_a {x : Int32} (h : mo_closed M x) : mo_way M x = 11 := if_pos (Or.inl h)
theorem mo_way_b {x : Int32} (h : mq_lat M x.toNatClampNeg = -1) : mo_way M x = 11 := if_pos (Or.inr h)
theorem mo_way_7 {x : Int32} (h1 : ¬ mo_closed M x) (h2 : ¬ mq_lat M x.toNatClampNeg = -1) (h3 : mo_opened M x) : mo_way M x = 7 := (if_neg (fun z => z.elim h1 h2)).trans (if_pos h3)
theorem mo_way_5 {x : Int32} (h1 : ¬ mo_closed M x) (h2 : ¬ mq_lat M x.toNatClampNeg = -1) (h3 : ¬ mo_opened M x) (h4 : mo_at M 5 < 8) : mo_way M x = 5 := (if_neg (fun z => z.elim h1 h2)).trans ((if_neg h3).trans (if_pos h4))
theorem mo_way_6 {x : Int32} (h1 : ¬ mo_closed M x) (h2 : ¬ mq_lat M x.toNatClampNeg = -1) (h3 : ¬ mo_opened M x) (h4 : 8 ≤ mo_at M 5) : mo_way M x = 6 := (if_neg (fun z => z.elim h1 h2)).trans ((if_neg h3).trans (if_neg (Nat.not_lt.mpr h4)))
end
section
variable {K T : Nat} {M : MT}
theorem mo_first_in (M : MT) (k : Nat) (h : ¬ mo_first M k = -1) (hk : k ≤ 48) : vp_in (mo_first M k) 48 := by
  rcases mo_first_or M k with q | ⟨j, hj, q, -⟩
  · exact absurd q h
  · rw [q]; exact vp_in_nI (by omega) (by decide)
theorem bh_nI0 {n : Nat} (hn : n < 2 ^ 31) (h : nI n = 0) : n = 0 := (nI_eq hn (by decide)).mp (h.trans nI_0.symm)
theorem bh_nm1 {n : Nat} (hn : n < 2 ^ 31) : ¬ nI n = -1 := fun h => nI_pos hn (by rw [h]; decide)
theorem mo_first_phi {j n : Nat} (h : mo_first M n = nI j) (hj : j < 48) (hn : n ≤ 48) : mo_phi1 (mq_pl M j) ≠ 0 := by
  rcases mo_first_or M n with q | ⟨i, hi, q, e⟩
  · exact absurd (h.symm.trans q) (bh_nm1 (by omega))
  · have := (nI_eq (by omega) (by omega)).mp (h.symm.trans q)
    rw [this, e]; decide
theorem mo_settle_9 {k : Nat} (h : mq_pl M k = 8) (h2 : mo_fly M k) : mo_settle M k = mo_bring M k 9 := (if_pos h).trans (if_pos h2)
theorem mo_settle_10 {k : Nat} (h : mq_pl M k = 8) (h2 : ¬ mo_fly M k) : mo_settle M k = mo_bring M k 10 := (if_pos h).trans (if_neg h2)
theorem mo_settle_11 {k : Nat} (h : ¬ mq_pl M k = 8) (h2 : mq_pl M k = 5 ∨ mq_pl M k = 6 ∨ mq_pl M k = 7) : mo_settle M k = mo_bring M k 11 := (if_neg h).trans (if_pos h2)
theorem mo_settle_0 {k : Nat} (h : ¬ mq_pl M k = 8) (h2 : ¬ (mq_pl M k = 5 ∨ mq_pl M k = 6 ∨ mq_pl M k = 7)) : mo_settle M k = M := (if_neg h).trans (if_neg h2)
theorem MI_empt (hI : MI K T M) : MI K T (mo_empt M) := MI_emp (MI_emp (MI_emp hI))
theorem MI_loopA (hI : MI K T M) : MI K T (mo_loop M) := MI_loop hI (Nat.le_refl _)
end
/-- which exception a call ends with: 0 none, else its place in the throws clause -/
def mo_in (x : Int32) (n : Nat) : Bool := decide (¬ x < 0) && decide (x.toNatClampNeg < n)
theorem mo_in_iff {x : Int32} {n : Nat} : mo_in x n = true ↔ vp_in x n := by
  simp only [mo_in, Bool.and_eq_true, decide_eq_true_eq, vp_in, not_or, Nat.not_le]
theorem mo_in_t {x : Int32} {n : Nat} (h : vp_in x n) : mo_in x n = true := mo_in_iff.mpr h
theorem mo_in_f {x : Int32} {n : Nat} (h : ¬ vp_in x n) : ¬ mo_in x n = true := fun q => h (mo_in_iff.mp q)
def co_in (x : Int32) (n : Nat) : Int32 := if mo_in x n = true then 0 else 1
theorem co_in0 {x : Int32} {n : Nat} (h : vp_in x n) : co_in x n = 0 := if_pos (mo_in_t h)
theorem co_in1 {x : Int32} {n : Nat} (h : ¬ vp_in x n) : co_in x n = 1 := if_neg (mo_in_f h)
def co_add (M : MT) (x : Int32) : Int32 := if x < 1 ∨ 1000 < x then 1 else if 10 ≤ mq_fc M then 2 else 0
def co_pass (x : Int32) : Int32 := if x < 1 ∨ 200 < x then 1 else 0
def co_count (x : Int32) : Int32 := if x < 1 ∨ 11 < x then 1 else 0
def co_take (M : MT) (x r : Int32) : Int32 := if mo_in x (mq_fc M) = true ∧ mo_in r 40 = true then (if 48 ≤ mq_bc M ∨ mq_dep M x.toNatClampNeg ≤ nI (mq_now M) then 2 else 0) else 1
def co_deci (M : MT) (b : Int32) : Int32 := if mo_in b (mq_bc M) = true then (if ¬ (mq_pl M b.toNatClampNeg = 1 ∨ mq_pl M b.toNatClampNeg = 2 ∨ mq_pl M b.toNatClampNeg = 3) ∨ nI (mq_now M) - mq_ca M b.toNatClampNeg < mo_dt (mq_pl M b.toNatClampNeg) then 2 else 0) else 1
def co_place (M : MT) (b q : Int32) : Int32 := if mo_in b (mq_bc M) = true then (if mq_pl M b.toNatClampNeg = q then 0 else 2) else 1
def co_send (M : MT) (b x : Int32) : Int32 := if mo_in b (mq_bc M) = true ∧ mo_in x (mq_fc M) = true then (if ¬ (mq_pl M b.toNatClampNeg = 10 ∨ mq_pl M b.toNatClampNeg = 11) ∨ mq_dep M x.toNatClampNeg ≤ nI (mq_now M) then 2 else 0) else 1
def co_pbs (M : MT) (b t : Int32) : Int32 := if mo_in b (mq_bc M) = true then (if t < 0 ∨ nI (mq_now M) < t then 2 else 0) else 1
/-- E is the first, or the second, of the throws clause, as the number says -/
def mo_px (E1 E2 : String) (c : Int32) (E : String) : Prop := (E = E1 ∧ c = 1) ∨ (E = E2 ∧ c = 2)
def mo_dec (M : MT) (k : Nat) (z : Int32) : MT := if z = 0 then mo_bring M k (mo_nx (mq_pl M k)) else mo_route M k
def mo_snd (M : MT) (k : Nat) (f : Int32) : MT := (mq_now M, mq_fc M, mq_bc M, mq_sc M, mq_dep M, mq_lat M, mq_brd M, upd (mq_bf M) k f, mq_br M, upd (mq_pu M) k 1, mq_pl M, mq_ls M, mq_ca M, mq_at M, mq_sb M, mq_sp M, mq_st M)
def mo_board (M : MT) (x z : Int32) : MT := (mq_now M, mq_fc M, mq_bc M, mq_sc M, mq_dep M, mq_lat M, upd (mq_brd M) x.toNatClampNeg z, mq_bf M, mq_br M, mq_pu M, mq_pl M, mq_ls M, mq_ca M, mq_at M, mq_sb M, mq_sp M, mq_st M)
section
variable {K T : Nat} {M : MT}
theorem MI_phi0 (hI : MI K T M) : mq_sc M ≤ K := Nat.le_trans (Nat.le_add_right _ _) (MI_phi hI)
theorem MI_minute (hI : MI K T M) (hT : T + 1 ≤ 102400) : MI K (T + 1) (mo_minute M) := MI_dep1 (MI_loopA (MI_empt (MI_tick hI hT))) _
theorem mo_it_s (f : MT → Nat → MT) (M : MT) (n : Nat) : mo_it f M (n + 1) = f (mo_it f M n) n := rfl
theorem mo_pass_s (M : MT) (n : Nat) : mo_pass M (n + 1) = mo_minute (mo_pass M n) := by
  unfold mo_pass
  rw [mo_it_s]
theorem mo_loop_t {k : Nat} (h : mq_pl (mo_it mo_loop1 M k) k = 6) : mo_it mo_loop1 M (k + 1) = mo_route (mo_it mo_loop1 M k) k := by
  rw [mo_it_s, mo_loop1, if_pos h]
theorem mo_loop_f {k : Nat} (h : ¬ mq_pl (mo_it mo_loop1 M k) k = 6) : mo_it mo_loop1 M (k + 1) = mo_it mo_loop1 M k := by
  rw [mo_it_s, mo_loop1, if_neg h]
theorem mo_sbag_t {f : Int32} {k : Nat} (h : mq_bf (mo_it (mo_sbag f) M k) k = f) : mo_it (mo_sbag f) M (k + 1) = mo_settle (mo_it (mo_sbag f) M k) k := by
  rw [mo_it_s, mo_sbag, if_pos h]
theorem mo_sbag_f {f : Int32} {k : Nat} (h : ¬ mq_bf (mo_it (mo_sbag f) M k) k = f) : mo_it (mo_sbag f) M (k + 1) = mo_it (mo_sbag f) M k := by
  rw [mo_it_s, mo_sbag, if_neg h]
theorem mo_dep_t {k : Nat} (h : mq_dep (mo_it mo_dep1 M k) k = nI (mq_now (mo_it mo_dep1 M k))) : mo_it mo_dep1 M (k + 1) = mo_it (mo_sbag (nI k)) (mo_it mo_dep1 M k) (mq_bc (mo_it mo_dep1 M k)) := by
  rw [mo_it_s, mo_dep1, if_pos h]
theorem mo_dep_f {k : Nat} (h : ¬ mq_dep (mo_it mo_dep1 M k) k = nI (mq_now (mo_it mo_dep1 M k))) : mo_it mo_dep1 M (k + 1) = mo_it mo_dep1 M k := by
  rw [mo_it_s, mo_dep1, if_neg h]
theorem MI_pass (hI : MI K T M) (hT : T + 200 ≤ 102400) {k : Nat} (hk : k ≤ 200) : MI K (T + k) (mo_pass M k) := by
  have key : ∀ n, n ≤ 200 → MI K (T + n) (mo_pass M n) := by
    intro n
    induction n with
    | zero => exact fun _ => hI
    | succ n ih =>
      intro hn
      have g := MI_minute (ih (by omega)) (by omega)
      rw [← mo_pass_s] at g
      exact g
  exact key k hk
theorem MI_take (hI : MI K T M) {x r : Int32} (hx : vp_in x 10) (hr : vp_in r 40) (hb : mq_bc M < 48) : MI K T (mo_take M x r) := by
  have hz := MI_beyond hI (Nat.le_refl (mq_bc M))
  have gn := MI_now hI
  have gp := MI_phi hI
  have e : upd (mq_pl M) (mq_bc M) 0 = mq_pl M := funext fun i => by
    unfold upd
    split
    · rename_i z
      rw [z]; exact hz.1.symm
    · rfl
  have hpl : mq_pl (mo_take M x r) = mq_pl M := e
  obtain ⟨a1, a2, a3, a4, a5, a6, a7, a8, a9, a10, a11, a12, a13, a14, a15, a16, a17⟩ := id hI
  refine ⟨a1, hb, fun i => ?_, fun i => ?_, fun i => ?_, a6, a7, a8, fun q hq => ?_, fun i hi => ?_, a11, fun i hi => ?_, a13, ?_, a15, a16, a17⟩
  · show vp_in (upd (mq_bf M) (mq_bc M) x i) 10
    unfold upd
    split
    · exact hx
    · exact MI_bf hI i
  · show vp_in (upd (mq_br M) (mq_bc M) r i) 40
    unfold upd
    split
    · exact hr
    · exact MI_br hI i
  · rw [hpl]; exact MI_pl hI i
  · show mq_at M q = nI (mo_cn (fun j => decide (mq_pl (mo_take M x r) j = nI q)) 48)
    rw [hpl]; exact MI_at hI hq
  · rw [hpl]
    have hi2 : mq_bc M + 1 ≤ i := hi
    exact MI_beyond hI (by omega)
  · rw [hpl] at hi
    exact MI_ca hI hi
  · rw [hpl]; exact gp
theorem MI_bringC (hI : MI K T M) {k : Nat} (hk : k < mq_bc M) {q : Int32} (hq : vp_in q 12) (hK : K + 4 ≤ 2048) : MI (K + 4) T (mo_bring M k q) := by
  have h1 := MI_phi0 hI
  have h2 := mo_phi1_le q
  exact MI_bring hI hk hq (by omega) hK (by omega) (by omega)
theorem MI_send (hI : MI K T M) {k : Nat} (hk : k < mq_bc M) {f : Int32} (hf : vp_in f 10) : MI K T (mo_snd M k f) := by
  have gn := MI_now hI
  have gp := MI_phi hI
  obtain ⟨a1, a2, a3, a4, a5, a6, a7, a8, a9, a10, a11, a12, a13, a14, a15, a16, a17⟩ := id hI
  refine ⟨a1, a2, fun i => ?_, a4, a5, a6, fun i => ?_, a8, a9, fun i hi => ⟨(a10 i hi).1, ?_⟩, a11, a12, a13, a14, a15, a16, a17⟩
  · show vp_in (upd (mq_bf M) k f i) 10
    unfold upd
    split
    · exact hf
    · exact MI_bf hI i
  · show upd (mq_pu M) k 1 i = 0 ∨ upd (mq_pu M) k 1 i = 1
    unfold upd
    split
    · exact Or.inr rfl
    · exact MI_pu hI i
  · show upd (mq_pu M) k 1 i = 0
    have hi2 : mq_bc M ≤ i := hi
    rw [bh_upd_ne _ _ (by omega)]
    exact (MI_beyond hI hi).2
theorem mo_nx_in (q : Int32) : vp_in (mo_nx q) 12 := by
  unfold mo_nx
  split
  · exact vp_in_nI (n := 2) (by decide) (by decide)
  · split
    · exact vp_in_nI (n := 3) (by decide) (by decide)
    · exact vp_in_nI (n := 4) (by decide) (by decide)
theorem bh_dIn {n : Nat} {x : Int32} (hn : n ≤ 102400) (h1 : ¬ x < 1) (h2 : x ≤ 1000) : vp_in (nI n + x) 200000 := by
  rw [vp_in_iff, Int32.toInt_add]
  rw [Int32.lt_iff_toInt_lt] at h1
  rw [Int32.le_iff_toInt_le] at h2
  have e1 : (1 : Int32).toInt = 1 := by decide
  have e2 : (1000 : Int32).toInt = 1000 := by decide
  rw [e1] at h1
  rw [e2] at h2
  rw [nI_toInt (by omega), Int.bmod_eq_of_le (by omega) (by omega)]
  omega
theorem bh_rng {x : Int32} {n : Nat} (hn : n < 2 ^ 31) (h1 : ¬ x < 1) (h2 : x ≤ nI n) : ∃ k : Nat, k ≤ n ∧ 1 ≤ k ∧ x = nI k := by
  rw [Int32.lt_iff_toInt_lt, show (1 : Int32).toInt = 1 from by decide] at h1
  rw [Int32.le_iff_toInt_le, nI_toInt hn] at h2
  obtain ⟨j, hj, rfl⟩ := nI_of (x := x) (by rw [Int32.lt_iff_toInt_lt, Int32.toInt_zero]; omega)
  rw [nI_toInt hj] at h1 h2
  exact ⟨j, by omega, by omega, rfl⟩
theorem bh_inW {x : Int32} {a b : Nat} (h : vp_in x a) (hab : a ≤ b) : vp_in x b := by
  rw [vp_in_iff] at h ⊢
  omega
theorem bh_nle3 {a b : Int32} (h : ¬ a ≤ b) : b < a := Int32.not_le.mp h
theorem mo_pbs_1 {b t : Int32} {k : Nat} (h1 : mq_sb M k = b) (h2 : mq_st M k ≤ t) : mo_pbs M b t (k + 1) = mq_sp M k := if_pos ⟨h1, h2⟩
theorem mo_pbs_0 {b t : Int32} {k : Nat} (h : ¬ (mq_sb M k = b ∧ mq_st M k ≤ t)) : mo_pbs M b t (k + 1) = mo_pbs M b t k := if_neg h
end
section
variable {K T : Nat} {M : MT}
theorem co_take1 {x r : Int32} (h : ¬ (vp_in x (mq_fc M) ∧ vp_in r 40)) : co_take M x r = 1 := if_neg (fun z => h ⟨mo_in_iff.mp z.1, mo_in_iff.mp z.2⟩)
theorem co_take2 {x r : Int32} (h1 : vp_in x (mq_fc M)) (h2 : vp_in r 40) (h : 48 ≤ mq_bc M ∨ mq_dep M x.toNatClampNeg ≤ nI (mq_now M)) : co_take M x r = 2 := (if_pos ⟨mo_in_t h1, mo_in_t h2⟩).trans (if_pos h)
theorem co_take0 {x r : Int32} (h1 : vp_in x (mq_fc M)) (h2 : vp_in r 40) (h3 : mq_bc M < 48) (h4 : nI (mq_now M) < mq_dep M x.toNatClampNeg) : co_take M x r = 0 := (if_pos ⟨mo_in_t h1, mo_in_t h2⟩).trans (if_neg (fun z => z.elim (fun q => absurd q (by omega)) (fun q => absurd h4 (Int32.not_lt.mpr q))))
theorem co_deci2 {b : Int32} (h1 : vp_in b (mq_bc M)) (h : ¬ (mq_pl M b.toNatClampNeg = 1 ∨ mq_pl M b.toNatClampNeg = 2 ∨ mq_pl M b.toNatClampNeg = 3) ∨ nI (mq_now M) - mq_ca M b.toNatClampNeg < mo_dt (mq_pl M b.toNatClampNeg)) : co_deci M b = 2 := (if_pos (mo_in_t h1)).trans (if_pos h)
theorem co_deci0 {b : Int32} (h1 : vp_in b (mq_bc M)) (h2 : mq_pl M b.toNatClampNeg = 1 ∨ mq_pl M b.toNatClampNeg = 2 ∨ mq_pl M b.toNatClampNeg = 3) (h3 : mo_dt (mq_pl M b.toNatClampNeg) ≤ nI (mq_now M) - mq_ca M b.toNatClampNeg) : co_deci M b = 0 := (if_pos (mo_in_t h1)).trans (if_neg (fun z => z.elim (fun q => q h2) (fun q => absurd h3 (Int32.not_le.mpr q))))
theorem co_place2 {b q : Int32} (h1 : vp_in b (mq_bc M)) (h : mq_pl M b.toNatClampNeg ≠ q) : co_place M b q = 2 := (if_pos (mo_in_t h1)).trans (if_neg h)
theorem co_place0 {b q : Int32} (h1 : vp_in b (mq_bc M)) (h : mq_pl M b.toNatClampNeg = q) : co_place M b q = 0 := (if_pos (mo_in_t h1)).trans (if_pos h)
theorem co_send2 {b x : Int32} (h1 : vp_in b (mq_bc M)) (h2 : vp_in x (mq_fc M)) (h : ¬ (mq_pl M b.toNatClampNeg = 10 ∨ mq_pl M b.toNatClampNeg = 11) ∨ mq_dep M x.toNatClampNeg ≤ nI (mq_now M)) : co_send M b x = 2 := (if_pos ⟨mo_in_t h1, mo_in_t h2⟩).trans (if_pos h)
theorem co_send0 {b x : Int32} (h1 : vp_in b (mq_bc M)) (h2 : vp_in x (mq_fc M)) (h3 : mq_pl M b.toNatClampNeg = 10 ∨ mq_pl M b.toNatClampNeg = 11) (h4 : nI (mq_now M) < mq_dep M x.toNatClampNeg) : co_send M b x = 0 := (if_pos ⟨mo_in_t h1, mo_in_t h2⟩).trans (if_neg (fun z => z.elim (fun q => q h3) (fun q => absurd h4 (Int32.not_lt.mpr q))))
theorem co_pbs2 {b t : Int32} (h1 : vp_in b (mq_bc M)) (h : t < 0 ∨ nI (mq_now M) < t) : co_pbs M b t = 2 := (if_pos (mo_in_t h1)).trans (if_pos h)
theorem co_pbs0 {b t : Int32} (h1 : vp_in b (mq_bc M)) (h2 : ¬ t < 0) (h3 : t ≤ nI (mq_now M)) : co_pbs M b t = 0 := (if_pos (mo_in_t h1)).trans (if_neg (fun z => z.elim h2 (fun q => absurd h3 (Int32.not_le.mpr q))))
theorem bh_nar {z : Int32} (h : z = 0 ∨ z = 1) : vp_nar .boolean z = z := by rcases h with rfl | rfl <;> decide +kernel
theorem bh_nar2 {z : Int32} (h : z = 0 ∨ z = 1) : narrow .boolean (.int z) = .int z := by rcases h with rfl | rfl <;> decide +kernel
theorem bh_cntIn {x : Int32} (h1 : ¬ x < 1) (h2 : x ≤ 11) : vp_in x 12 := by
  obtain ⟨j, h3, -, rfl⟩ := bh_rng (n := 11) (by decide) h1 h2
  exact vp_in_nI (by omega) (by decide)
theorem mo_cn_ext {f g : Nat → Bool} {n : Nat} (h : ∀ j, j < n → f j = g j) : mo_cn f n = mo_cn g n := by
  induction n with
  | zero => rfl
  | succ n ih =>
    simp only [mo_cn]
    rw [ih (fun j hj => h j (by omega)), h n (by omega)]
theorem mo_cn_cut {f : Nat → Bool} {a : Nat} (n : Nat) (h : ∀ j, a ≤ j → f j = false) : mo_cn f (a + n) = mo_cn f a := by
  induction n with
  | zero => rfl
  | succ n ih => rw [← Nat.add_assoc]; simp only [mo_cn]; rw [ih, h (a + n) (by omega)]; rfl
theorem MI_cn (hI : MI K T M) {x : Int32} (hx : x ≠ 0) : mo_at M x = mo_cn (fun j => decide (mq_pl M j = x)) (mq_bc M) := by
  have hb := MI_bc hI
  have := mo_cn_cut (f := fun j => decide (mq_pl M j = x)) (a := mq_bc M) (48 - mq_bc M) (fun j hj => by rw [(MI_beyond hI hj).1]; exact decide_eq_false (fun q => hx q.symm))
  rw [show mq_bc M + (48 - mq_bc M) = 48 by omega] at this
  exact this
theorem MI_count (hI : MI K T M) {x : Int32} (h1 : ¬ x < 1) (h2 : x ≤ 11) : mq_at M x.toNatClampNeg = nI (mo_cn (fun j => decide (mq_pl M j = x)) (mq_bc M)) := by
  obtain ⟨j, h3, h4, rfl⟩ := bh_rng (n := 11) (by decide) h1 h2
  rw [nI_clamp (by omega), MI_at hI (by omega), MI_cn hI (nI_ne0 (by omega) (by omega))]
end
end
section
theorem ct_X0_closing_in : ∀ w ∈ wsX00, w ∈ wsX0_closing := by decide +kernel
set_option maxRecDepth 100000 in
set_option maxHeartbeats 4000000 in
theorem ct_X0_closing (l : Launch) (D : va_G) (cI cZ cL : ClassId) (ad : Nat → Nat) (M : MT) (x : Int32) (hx : vp_in x 10) : bh_Mi l D (wh_tys cI cZ cL) yX0_closing wsX0_closing ({ frames := 0, cells := 0, slots := 0, locals := 0 } : Room) [.ref (ad 0), .int x] (wh_hall cI cZ ad M) (fun r (_ : Unit) => r = mq_dep M x.toNatClampNeg - 10) (fun _ => wh_hall cI cZ ad M) 0 0 := by
  refine bh_ofi (cc := cX0_closing) (maxL := 2) (by decide +kernel) rfl (Nat.le_of_ble_eq_true rfl) ?_
  intro p e s m args below meth c A Q _ C hQ
  refine bh_eqlv (lv' := [(0, .ref (ad 0)), (1, .int x)]) rfl ?_
  refine bh_aload_n C dX0_closing_0 rfl 0 rfl ?_
  refine bh_get C ct_X0_closing_in 0 rfl rfl 2 (by decide) (by decide +kernel) rfl (v := .ref (ad 2)) rfl dX0_closing_1 ?_
  refine bh_iload_n C dX0_closing_4 rfl 1 rfl ?_
  refine bh_iald C 1 0 (f := (mq_dep M)) rfl rfl (i := x) hx (x := ((mq_dep M) x.toNatClampNeg)) rfl dX0_closing_5 ?_
  refine bh_bipush (v := 10) C dX0_closing_6 (by decide) ?_
  refine bh_isub C dX0_closing_8 ?_
  exact bh_zret C hQ dX0_closing_9 () (v := (((mq_dep M) x.toNatClampNeg) - 10)) (w := wh_hall cI cZ ad M) rfl rfl (Nat.le_of_ble_eq_true rfl) (Nat.le_of_ble_eq_true rfl) (by first | rfl | exact (if_pos (by first | assumption | exact bh_nlt (by assumption))).symm | exact (if_neg (by first | assumption | exact bh_nle (by assumption))).symm)
theorem ct_X0_hasClosed_in : ∀ w ∈ wsX00, w ∈ wsX0_hasClosed := by decide +kernel
set_option maxRecDepth 100000 in
set_option maxHeartbeats 4000000 in
theorem ct_X0_hasClosed (l : Launch) (D : va_G) (cI cZ cL : ClassId) (ad : Nat → Nat) (M : MT) (x : Int32) (hx : vp_in x 10) : bh_Mi l D (wh_tys cI cZ cL) yX0_hasClosed wsX0_hasClosed ({ frames := 1, cells := 0, slots := 0, locals := 21 } : Room) [.ref (ad 0), .int x] (wh_hall cI cZ ad M) (fun r (_ : Unit) => r = if mo_closed M x then 1 else 0) (fun _ => wh_hall cI cZ ad M) 0 0 := by
  refine bh_ofi (cc := cX0_hasClosed) (maxL := 2) (by decide +kernel) rfl (Nat.le_of_ble_eq_true rfl) ?_
  intro p e s m args below meth c A Q _ C hQ
  refine bh_eqlv (lv' := [(0, .ref (ad 0)), (1, .int x)]) rfl ?_
  refine bh_aload_n C dX0_hasClosed_0 rfl 0 rfl ?_
  refine bh_get C ct_X0_hasClosed_in 0 rfl rfl 0 (by decide) (by decide +kernel) rfl (v := .int (nI (mq_now M))) rfl dX0_hasClosed_1 ?_
  refine bh_aload_n C dX0_hasClosed_4 rfl 0 rfl ?_
  refine bh_iload_n C dX0_hasClosed_5 rfl 1 rfl ?_
  refine bh_calli_0 (As := [.int x]) C (ct_X0_closing l D cI cZ cL ad M x hx) (cwV 1 C.1.2.2.2.2 gX0_hasClosed_X0_closing rfl rfl rfl (by decide +kernel) ⟨Nat.le_of_ble_eq_true rfl, Nat.le_of_ble_eq_true rfl⟩) (ci := 0) rfl 0 rfl rfl rfl (Nat.le_of_ble_eq_true rfl) dX0_hasClosed_6 ⟨Nat.le_of_ble_eq_true rfl, Nat.le_of_ble_eq_true rfl⟩ (fun r_6 u_6 hp_6 => ?_)
  subst hp_6
  refine bh_icmp_lt (tgt := 16) C dX0_hasClosed_9 (by decide) (fun c_9 => ?_) (fun c_9 => ?_)
  · skip
    refine bh_iconst (v := 0) C dX0_hasClosed_16 (by decide) ?_
    exact bh_zret C hQ dX0_hasClosed_17 () (v := 0) (w := wh_hall cI cZ ad M) rfl rfl (Nat.le_of_ble_eq_true rfl) (Nat.le_of_ble_eq_true rfl) (by first | rfl | exact (if_pos (by first | assumption | exact bh_nlt (by assumption))).symm | exact (if_neg (by first | assumption | exact bh_nle (by assumption))).symm)
  · skip
    refine bh_iconst (v := 1) C dX0_hasClosed_12 (by decide) ?_
    refine bh_goto (tgt := 17) C dX0_hasClosed_13 (by decide) ?_
    exact bh_zret C hQ dX0_hasClosed_17 () (v := 1) (w := wh_hall cI cZ ad M) rfl rfl (Nat.le_of_ble_eq_true rfl) (Nat.le_of_ble_eq_true rfl) (by first | rfl | exact (if_pos (by first | assumption | exact bh_nlt (by assumption))).symm | exact (if_neg (by first | assumption | exact bh_nle (by assumption))).symm)
theorem ct_X0_hasOpened_in : ∀ w ∈ wsX00, w ∈ wsX0_hasOpened := by decide +kernel
set_option maxRecDepth 100000 in
set_option maxHeartbeats 4000000 in
theorem ct_X0_hasOpened (l : Launch) (D : va_G) (cI cZ cL : ClassId) (ad : Nat → Nat) (M : MT) (x : Int32) (hx : vp_in x 10) : bh_Mi l D (wh_tys cI cZ cL) yX0_hasOpened wsX0_hasOpened ({ frames := 0, cells := 0, slots := 0, locals := 0 } : Room) [.ref (ad 0), .int x] (wh_hall cI cZ ad M) (fun r (_ : Unit) => r = if mo_opened M x then 1 else 0) (fun _ => wh_hall cI cZ ad M) 0 0 := by
  refine bh_ofi (cc := cX0_hasOpened) (maxL := 2) (by decide +kernel) rfl (Nat.le_of_ble_eq_true rfl) ?_
  intro p e s m args below meth c A Q _ C hQ
  refine bh_eqlv (lv' := [(0, .ref (ad 0)), (1, .int x)]) rfl ?_
  refine bh_aload_n C dX0_hasOpened_0 rfl 0 rfl ?_
  refine bh_get C ct_X0_hasOpened_in 0 rfl rfl 0 (by decide) (by decide +kernel) rfl (v := .int (nI (mq_now M))) rfl dX0_hasOpened_1 ?_
  refine bh_aload_n C dX0_hasOpened_4 rfl 0 rfl ?_
  refine bh_get C ct_X0_hasOpened_in 0 rfl rfl 2 (by decide) (by decide +kernel) rfl (v := .ref (ad 2)) rfl dX0_hasOpened_5 ?_
  refine bh_iload_n C dX0_hasOpened_8 rfl 1 rfl ?_
  refine bh_iald C 1 0 (f := (mq_dep M)) rfl rfl (i := x) hx (x := ((mq_dep M) x.toNatClampNeg)) rfl dX0_hasOpened_9 ?_
  refine bh_bipush (v := 60) C dX0_hasOpened_10 (by decide) ?_
  refine bh_isub C dX0_hasOpened_12 ?_
  refine bh_icmp_lt (tgt := 20) C dX0_hasOpened_13 (by decide) (fun c_13 => ?_) (fun c_13 => ?_)
  · skip
    refine bh_iconst (v := 0) C dX0_hasOpened_20 (by decide) ?_
    exact bh_zret C hQ dX0_hasOpened_21 () (v := 0) (w := wh_hall cI cZ ad M) rfl rfl (Nat.le_of_ble_eq_true rfl) (Nat.le_of_ble_eq_true rfl) (by first | rfl | exact (if_pos (by first | assumption | exact bh_nlt (by assumption))).symm | exact (if_neg (by first | assumption | exact bh_nle (by assumption))).symm)
  · skip
    refine bh_iconst (v := 1) C dX0_hasOpened_16 (by decide) ?_
    refine bh_goto (tgt := 21) C dX0_hasOpened_17 (by decide) ?_
    exact bh_zret C hQ dX0_hasOpened_21 () (v := 1) (w := wh_hall cI cZ ad M) rfl rfl (Nat.le_of_ble_eq_true rfl) (Nat.le_of_ble_eq_true rfl) (by first | rfl | exact (if_pos (by first | assumption | exact bh_nlt (by assumption))).symm | exact (if_neg (by first | assumption | exact bh_nle (by assumption))).symm)
theorem ct_X0_isFree_in : ∀ w ∈ wsX00, w ∈ wsX0_isFree := by decide +kernel
set_option maxRecDepth 100000 in
set_option maxHeartbeats 4000000 in
theorem ct_X0_isFree (l : Launch) (D : va_G) (cI cZ cL : ClassId) (ad : Nat → Nat) {K T : Nat} (M : MT) (x d : Int32) (hI : MI K T M) (hd : vp_in d 200000) : bh_Mi l D (wh_tys cI cZ cL) yX0_isFree wsX0_isFree ({ frames := 1, cells := 0, slots := 0, locals := 21 } : Room) [.ref (ad 0), .int x, .int d] (wh_hall cI cZ ad M) (fun r (_ : Unit) => r = if mo_free M d x then 1 else 0) (fun _ => wh_hall cI cZ ad M) 0 0 := by
  refine bh_ofi (cc := cX0_isFree) (maxL := 4) (by decide +kernel) rfl (Nat.le_of_ble_eq_true rfl) ?_
  intro p e s m args below meth c A Q _ C hQ
  refine bh_eqlv (lv' := [(0, .ref (ad 0)), (1, .int x), (2, .int d)]) rfl ?_
  have hfc := MI_fc hI; have hbc := MI_bc hI; have hsc := MI_sc hI; have hnow := MI_now2 hI
  refine bh_iconst (v := 0) C dX0_isFree_0 (by decide) ?_
  refine bh_istore_n (lv' := [(3, .int 0), (0, .ref (ad 0)), (1, .int x), (2, .int d)]) C dX0_isFree_1 rfl (by decide) rfl ?_
  have loop : ∀ (n : Nat) (k : Nat), mq_fc M + 1 ≤ k + n → k ≤ mq_fc M → (∀ j, j < k → ¬ mo_clash M d x j) → bh_W p l e ({ frames := 1, cells := 0, slots := 0, locals := 21 } : Room) s m args below meth c 4 D A 0 0 Q (wh_hall cI cZ ad M) ([(3, .int (nI k)), (0, .ref (ad 0)), (1, .int x), (2, .int d)]) 2 [] := by
    intro n
    induction n with
    | zero => intro k h1 h2; exact absurd h1 (by omega)
    | succ n ih =>
      intro k h1 h2 inv
      refine bh_iload_n C dX0_isFree_2 rfl 0 rfl ?_
      refine bh_aload_n C dX0_isFree_3 rfl 1 rfl ?_
      refine bh_get C ct_X0_isFree_in 0 rfl rfl 1 (by decide) (by decide +kernel) rfl (v := .int (nI (mq_fc M))) rfl dX0_isFree_4 ?_
      refine bh_icmp_ge (tgt := 44) C dX0_isFree_7 (by decide) (fun c_7 => ?_) (fun c_7 => ?_)
      · skip
        have c_7 := bh_le (by omega) (by omega) c_7
        refine bh_iconst (v := 1) C dX0_isFree_44 (by decide) ?_
        exact bh_zret C hQ dX0_isFree_45 () (v := 1) (w := wh_hall cI cZ ad M) rfl rfl (Nat.le_of_ble_eq_true rfl) (Nat.le_of_ble_eq_true rfl) (by rw [if_pos (fun j hj => inv j (by omega))])
      · skip
        have c_7 := bh_nle2 (by omega) (by omega) c_7
        refine bh_aload_n C dX0_isFree_10 rfl 1 rfl ?_
        refine bh_get C ct_X0_isFree_in 0 rfl rfl 3 (by decide) (by decide +kernel) rfl (v := .ref (ad 3)) rfl dX0_isFree_11 ?_
        refine bh_iload_n C dX0_isFree_14 rfl 0 rfl ?_
        refine bh_iald C 2 0 (f := (mq_lat M)) rfl rfl (i := (nI k)) (vp_in_nI (n := k) (by omega) (by decide)) (x := ((mq_lat M) k)) (congrArg (mq_lat M) (nI_clamp (n := k) (by omega))) dX0_isFree_15 ?_
        refine bh_iload_n C dX0_isFree_16 rfl 2 rfl ?_
        refine bh_icmp_ne (tgt := 38) C dX0_isFree_17 (by decide) (fun c_17 => ?_) (fun c_17 => ?_)
        · skip
          refine bh_iinc (v := (nI (k + 1))) (lv' := [(3, .int (nI (k + 1))), (0, .ref (ad 0)), (1, .int x), (2, .int d)]) C dX0_isFree_38 (k := 0) rfl (nI_1 _) (by decide) rfl ?_
          refine bh_goto (tgt := 2) C dX0_isFree_41 (by decide) ?_
          exact bh_lv [0, 1, 2, 3] rfl (ih (k + 1) (by omega) (by omega) (fun j hj => by rcases Nat.lt_succ_iff_lt_or_eq.mp hj with q | q; exact inv j q; rw [q]; first | exact fun z => c_17 z.1 | exact fun z => absurd c_33 (bh_absT (MI_dep hI k) hd z.2)))
        · skip
          refine bh_aload_n C dX0_isFree_20 rfl 1 rfl ?_
          refine bh_get C ct_X0_isFree_in 0 rfl rfl 2 (by decide) (by decide +kernel) rfl (v := .ref (ad 2)) rfl dX0_isFree_21 ?_
          refine bh_iload_n C dX0_isFree_24 rfl 0 rfl ?_
          refine bh_iald C 1 0 (f := (mq_dep M)) rfl rfl (i := (nI k)) (vp_in_nI (n := k) (by omega) (by decide)) (x := ((mq_dep M) k)) (congrArg (mq_dep M) (nI_clamp (n := k) (by omega))) dX0_isFree_25 ?_
          refine bh_iload_n C dX0_isFree_26 rfl 3 rfl ?_
          refine bh_isub C dX0_isFree_27 ?_
          refine bh_mabs C (by decide +kernel) (by decide +kernel) (by decide +kernel) (by decide +kernel) (Nat.le_of_ble_eq_true rfl) (Nat.le_of_ble_eq_true rfl) (Nat.zero_le _) (Nat.zero_le _) dX0_isFree_28 ?_
          refine bh_bipush (v := 60) C dX0_isFree_31 (by decide) ?_
          refine bh_icmp_ge (tgt := 38) C dX0_isFree_33 (by decide) (fun c_33 => ?_) (fun c_33 => ?_)
          · skip
            refine bh_iinc (v := (nI (k + 1))) (lv' := [(3, .int (nI (k + 1))), (0, .ref (ad 0)), (1, .int x), (2, .int d)]) C dX0_isFree_38 (k := 0) rfl (nI_1 _) (by decide) rfl ?_
            refine bh_goto (tgt := 2) C dX0_isFree_41 (by decide) ?_
            exact bh_lv [0, 1, 2, 3] rfl (ih (k + 1) (by omega) (by omega) (fun j hj => by rcases Nat.lt_succ_iff_lt_or_eq.mp hj with q | q; exact inv j q; rw [q]; first | exact fun z => c_17 z.1 | exact fun z => absurd c_33 (bh_absT (MI_dep hI k) hd z.2)))
          · skip
            refine bh_iconst (v := 0) C dX0_isFree_36 (by decide) ?_
            exact bh_zret C hQ dX0_isFree_37 () (v := 0) (w := wh_hall cI cZ ad M) rfl rfl (Nat.le_of_ble_eq_true rfl) (Nat.le_of_ble_eq_true rfl) (by rw [if_neg (fun z => z k c_7 ⟨c_17, bh_absF (MI_dep hI k) hd (Int32.not_le.mp c_33)⟩)])
  exact bh_lv [0, 1, 2, 3] rfl (loop (mq_fc M + 1) 0 (by omega) (by omega) (fun j hj => absurd hj (by omega)))
set_option maxRecDepth 100000 in
set_option maxHeartbeats 4000000 in
theorem ct_X0_lowestFreeLateral (l : Launch) (D : va_G) (cI cZ cL : ClassId) (ad : Nat → Nat) {K T : Nat} (M : MT) (d : Int32) (hI : MI K T M) (hd : vp_in d 200000) : bh_Mi l D (wh_tys cI cZ cL) yX0_lowestFreeLateral wsX0_lowestFreeLateral ({ frames := 2, cells := 0, slots := 0, locals := 44 } : Room) [.ref (ad 0), .int d] (wh_hall cI cZ ad M) (fun r (_ : Unit) => r = mo_low M d) (fun _ => wh_hall cI cZ ad M) 0 0 := by
  refine bh_ofi (cc := cX0_lowestFreeLateral) (maxL := 3) (by decide +kernel) rfl (Nat.le_of_ble_eq_true rfl) ?_
  intro p e s m args below meth c A Q _ C hQ
  refine bh_eqlv (lv' := [(0, .ref (ad 0)), (1, .int d)]) rfl ?_
  have hfc := MI_fc hI; have hbc := MI_bc hI; have hsc := MI_sc hI; have hnow := MI_now2 hI
  refine bh_iconst (v := 0) C dX0_lowestFreeLateral_0 (by decide) ?_
  refine bh_istore_n (lv' := [(2, .int 0), (0, .ref (ad 0)), (1, .int d)]) C dX0_lowestFreeLateral_1 rfl (by decide) rfl ?_
  refine bh_iload_n C dX0_lowestFreeLateral_2 rfl 0 rfl ?_
  refine bh_iconst (v := 4) C dX0_lowestFreeLateral_3 (by decide) ?_
  refine bh_icmp_ge (tgt := 24) C dX0_lowestFreeLateral_4 (by decide) (fun c_4 => absurd c_4 (by decide)) (fun c_4 => ?_)
  refine bh_aload_n C dX0_lowestFreeLateral_7 rfl 1 rfl ?_
  refine bh_iload_n C dX0_lowestFreeLateral_8 rfl 0 rfl ?_
  refine bh_iload_n C dX0_lowestFreeLateral_9 rfl 2 rfl ?_
  refine bh_calli_0 (As := [.int 0, .int d]) C (ct_X0_isFree l D cI cZ cL ad M 0 d hI hd) (cwV 2 C.1.2.2.2.2 gX0_lowestFreeLateral_X0_isFree rfl rfl rfl (by decide +kernel) ⟨Nat.le_of_ble_eq_true rfl, Nat.le_of_ble_eq_true rfl⟩) (ci := 0) rfl 0 rfl rfl rfl (Nat.le_of_ble_eq_true rfl) dX0_lowestFreeLateral_10 ⟨Nat.le_of_ble_eq_true rfl, Nat.le_of_ble_eq_true rfl⟩ (fun r_10 u_10 hp_10 => ?_)
  subst hp_10
  refine bh_if_eq (tgt := 18) C dX0_lowestFreeLateral_13 (by decide) (fun c_13 => ?_) (fun c_13 => ?_)
  · skip
    replace c_13 := bh_eq0 c_13
    have f_0 := c_13
    refine bh_iinc (v := (0 + 1)) (lv' := [(2, .int (0 + 1)), (0, .ref (ad 0)), (1, .int d)]) C dX0_lowestFreeLateral_18 (k := 0) rfl rfl (by decide) rfl ?_
    refine bh_goto (tgt := 2) C dX0_lowestFreeLateral_21 (by decide) ?_
    refine bh_iload_n C dX0_lowestFreeLateral_2 rfl 0 rfl ?_
    refine bh_iconst (v := 4) C dX0_lowestFreeLateral_3 (by decide) ?_
    refine bh_icmp_ge (tgt := 24) C dX0_lowestFreeLateral_4 (by decide) (fun c_4 => absurd c_4 (by decide)) (fun c_4 => ?_)
    refine bh_aload_n C dX0_lowestFreeLateral_7 rfl 1 rfl ?_
    refine bh_iload_n C dX0_lowestFreeLateral_8 rfl 0 rfl ?_
    refine bh_iload_n C dX0_lowestFreeLateral_9 rfl 2 rfl ?_
    refine bh_calli_0 (As := [.int 1, .int d]) C (ct_X0_isFree l D cI cZ cL ad M 1 d hI hd) (cwV 2 C.1.2.2.2.2 gX0_lowestFreeLateral_X0_isFree rfl rfl rfl (by decide +kernel) ⟨Nat.le_of_ble_eq_true rfl, Nat.le_of_ble_eq_true rfl⟩) (ci := 0) rfl 0 rfl rfl rfl (Nat.le_of_ble_eq_true rfl) dX0_lowestFreeLateral_10 ⟨Nat.le_of_ble_eq_true rfl, Nat.le_of_ble_eq_true rfl⟩ (fun r_10 u_10 hp_10 => ?_)
    subst hp_10
    refine bh_if_eq (tgt := 18) C dX0_lowestFreeLateral_13 (by decide) (fun c_13 => ?_) (fun c_13 => ?_)
    · skip
      replace c_13 := bh_eq0 c_13
      have f_1 := c_13
      refine bh_iinc (v := (1 + 1)) (lv' := [(2, .int (1 + 1)), (0, .ref (ad 0)), (1, .int d)]) C dX0_lowestFreeLateral_18 (k := 0) rfl rfl (by decide) rfl ?_
      refine bh_goto (tgt := 2) C dX0_lowestFreeLateral_21 (by decide) ?_
      refine bh_iload_n C dX0_lowestFreeLateral_2 rfl 0 rfl ?_
      refine bh_iconst (v := 4) C dX0_lowestFreeLateral_3 (by decide) ?_
      refine bh_icmp_ge (tgt := 24) C dX0_lowestFreeLateral_4 (by decide) (fun c_4 => absurd c_4 (by decide)) (fun c_4 => ?_)
      refine bh_aload_n C dX0_lowestFreeLateral_7 rfl 1 rfl ?_
      refine bh_iload_n C dX0_lowestFreeLateral_8 rfl 0 rfl ?_
      refine bh_iload_n C dX0_lowestFreeLateral_9 rfl 2 rfl ?_
      refine bh_calli_0 (As := [.int 2, .int d]) C (ct_X0_isFree l D cI cZ cL ad M 2 d hI hd) (cwV 2 C.1.2.2.2.2 gX0_lowestFreeLateral_X0_isFree rfl rfl rfl (by decide +kernel) ⟨Nat.le_of_ble_eq_true rfl, Nat.le_of_ble_eq_true rfl⟩) (ci := 0) rfl 0 rfl rfl rfl (Nat.le_of_ble_eq_true rfl) dX0_lowestFreeLateral_10 ⟨Nat.le_of_ble_eq_true rfl, Nat.le_of_ble_eq_true rfl⟩ (fun r_10 u_10 hp_10 => ?_)
      subst hp_10
      refine bh_if_eq (tgt := 18) C dX0_lowestFreeLateral_13 (by decide) (fun c_13 => ?_) (fun c_13 => ?_)
      · skip
        replace c_13 := bh_eq0 c_13
        have f_2 := c_13
        refine bh_iinc (v := (2 + 1)) (lv' := [(2, .int (2 + 1)), (0, .ref (ad 0)), (1, .int d)]) C dX0_lowestFreeLateral_18 (k := 0) rfl rfl (by decide) rfl ?_
        refine bh_goto (tgt := 2) C dX0_lowestFreeLateral_21 (by decide) ?_
        refine bh_iload_n C dX0_lowestFreeLateral_2 rfl 0 rfl ?_
        refine bh_iconst (v := 4) C dX0_lowestFreeLateral_3 (by decide) ?_
        refine bh_icmp_ge (tgt := 24) C dX0_lowestFreeLateral_4 (by decide) (fun c_4 => absurd c_4 (by decide)) (fun c_4 => ?_)
        refine bh_aload_n C dX0_lowestFreeLateral_7 rfl 1 rfl ?_
        refine bh_iload_n C dX0_lowestFreeLateral_8 rfl 0 rfl ?_
        refine bh_iload_n C dX0_lowestFreeLateral_9 rfl 2 rfl ?_
        refine bh_calli_0 (As := [.int 3, .int d]) C (ct_X0_isFree l D cI cZ cL ad M 3 d hI hd) (cwV 2 C.1.2.2.2.2 gX0_lowestFreeLateral_X0_isFree rfl rfl rfl (by decide +kernel) ⟨Nat.le_of_ble_eq_true rfl, Nat.le_of_ble_eq_true rfl⟩) (ci := 0) rfl 0 rfl rfl rfl (Nat.le_of_ble_eq_true rfl) dX0_lowestFreeLateral_10 ⟨Nat.le_of_ble_eq_true rfl, Nat.le_of_ble_eq_true rfl⟩ (fun r_10 u_10 hp_10 => ?_)
        subst hp_10
        refine bh_if_eq (tgt := 18) C dX0_lowestFreeLateral_13 (by decide) (fun c_13 => ?_) (fun c_13 => ?_)
        · skip
          replace c_13 := bh_eq0 c_13
          have f_3 := c_13
          refine bh_iinc (v := (3 + 1)) (lv' := [(2, .int (3 + 1)), (0, .ref (ad 0)), (1, .int d)]) C dX0_lowestFreeLateral_18 (k := 0) rfl rfl (by decide) rfl ?_
          refine bh_goto (tgt := 2) C dX0_lowestFreeLateral_21 (by decide) ?_
          refine bh_iload_n C dX0_lowestFreeLateral_2 rfl 0 rfl ?_
          refine bh_iconst (v := 4) C dX0_lowestFreeLateral_3 (by decide) ?_
          refine bh_icmp_ge (tgt := 24) C dX0_lowestFreeLateral_4 (by decide) (fun c_4 => ?_) (fun c_4 => absurd c_4 (by decide))
          refine bh_iconst (v := (-1)) C dX0_lowestFreeLateral_24 (by decide) ?_
          exact bh_zret C hQ dX0_lowestFreeLateral_25 () (v := (-1)) (w := wh_hall cI cZ ad M) rfl rfl (Nat.le_of_ble_eq_true rfl) (Nat.le_of_ble_eq_true rfl) (by unfold mo_low; rw [if_neg f_0, if_neg f_1, if_neg f_2, if_neg f_3])
        · skip
          replace c_13 := bh_ne0 c_13
          have f_3 := c_13
          refine bh_iload_n C dX0_lowestFreeLateral_16 rfl 0 rfl ?_
          exact bh_zret C hQ dX0_lowestFreeLateral_17 () (v := 3) (w := wh_hall cI cZ ad M) rfl rfl (Nat.le_of_ble_eq_true rfl) (Nat.le_of_ble_eq_true rfl) (by unfold mo_low; rw [if_neg f_0, if_neg f_1, if_neg f_2, if_pos f_3])
      · skip
        replace c_13 := bh_ne0 c_13
        have f_2 := c_13
        refine bh_iload_n C dX0_lowestFreeLateral_16 rfl 0 rfl ?_
        exact bh_zret C hQ dX0_lowestFreeLateral_17 () (v := 2) (w := wh_hall cI cZ ad M) rfl rfl (Nat.le_of_ble_eq_true rfl) (Nat.le_of_ble_eq_true rfl) (by unfold mo_low; rw [if_neg f_0, if_neg f_1, if_pos f_2])
    · skip
      replace c_13 := bh_ne0 c_13
      have f_1 := c_13
      refine bh_iload_n C dX0_lowestFreeLateral_16 rfl 0 rfl ?_
      exact bh_zret C hQ dX0_lowestFreeLateral_17 () (v := 1) (w := wh_hall cI cZ ad M) rfl rfl (Nat.le_of_ble_eq_true rfl) (Nat.le_of_ble_eq_true rfl) (by unfold mo_low; rw [if_neg f_0, if_pos f_1])
  · skip
    replace c_13 := bh_ne0 c_13
    have f_0 := c_13
    refine bh_iload_n C dX0_lowestFreeLateral_16 rfl 0 rfl ?_
    exact bh_zret C hQ dX0_lowestFreeLateral_17 () (v := 0) (w := wh_hall cI cZ ad M) rfl rfl (Nat.le_of_ble_eq_true rfl) (Nat.le_of_ble_eq_true rfl) (by unfold mo_low; rw [if_pos f_0])
theorem ct_X0_requireFlight_in : ∀ w ∈ wsX00, w ∈ wsX0_requireFlight := by decide +kernel
theorem ct_X0_requireFlight_at134 : ∀ z ∈ (vx_atS RX0 134 xe_I xe_ns).filter goodWord, z ∈ wsX0_requireFlight := by decide +kernel
set_option maxRecDepth 100000 in
set_option maxHeartbeats 4000000 in
theorem ct_X0_requireFlight (l : Launch) (hl : l.stackTraces = false) (D : va_G) (cI cZ cL : ClassId) (ad : Nat → Nat) {K T : Nat} (M : MT) (x : Int32) (hI : MI K T M) : bh_Xv l D (wh_tys cI cZ cL) yX0_requireFlight wsX0_requireFlight ({ frames := 6, cells := 1, slots := 6, locals := 90 } : Room) [.ref (ad 0), .int x] (wh_hall cI cZ ad M) (fun (_ : Unit) => vp_in x (mq_fc M)) (fun _ => wh_hall cI cZ ad M) (fun E => E = xe_I ∧ ¬ vp_in x (mq_fc M)) 1 6 := by
  refine bh_ofXv (cc := cX0_requireFlight) (maxL := 2) (by decide +kernel) rfl (Nat.le_of_ble_eq_true rfl) ?_
  intro p e s m args below meth c A Q C hQ hE hno
  refine bh_eqlv (lv' := [(0, .ref (ad 0)), (1, .int x)]) rfl ?_
  have hfc := MI_fc hI; have hbc := MI_bc hI; have hsc := MI_sc hI; have hnow := MI_now2 hI
  refine bh_iload_n C dX0_requireFlight_0 rfl 1 rfl ?_
  refine bh_if_lt (tgt := 12) C dX0_requireFlight_1 (by decide) (fun c_1 => ?_) (fun c_1 => ?_)
  · skip
    exact bh_throw C hE hno hl hQ (cls := xe_I) (text := "there is no such flight") (by decide +kernel) (by decide +kernel) (by decide +kernel) (by decide +kernel) ct_X0_requireFlight_at134 xe_hb134 xe_hg134_130 dX0_requireFlight_12 dX0_requireFlight_15 dX0_requireFlight_16 dX0_requireFlight_18 dX0_requireFlight_21 (Nat.le_of_ble_eq_true rfl) (Nat.le_of_ble_eq_true rfl) (Nat.le_of_ble_eq_true rfl) (Nat.le_of_ble_eq_true rfl) (Nat.le_of_ble_eq_true rfl) (Nat.le_of_ble_eq_true rfl) ⟨rfl, by first | exact bh_out1 c_1 | exact bh_out2 (by omega) c_9⟩
  · skip
    refine bh_iload_n C dX0_requireFlight_4 rfl 1 rfl ?_
    refine bh_aload_n C dX0_requireFlight_5 rfl 0 rfl ?_
    refine bh_get C ct_X0_requireFlight_in 0 rfl rfl 1 (by decide) (by decide +kernel) rfl (v := .int (nI (mq_fc M))) rfl dX0_requireFlight_6 ?_
    refine bh_icmp_lt (tgt := 22) C dX0_requireFlight_9 (by decide) (fun c_9 => ?_) (fun c_9 => ?_)
    · skip
      exact bh_xvret C hQ dX0_requireFlight_22 () (w := wh_hall cI cZ ad M) rfl (Nat.le_of_ble_eq_true rfl) (Nat.le_of_ble_eq_true rfl) (bh_in (by omega) c_1 c_9)
    · skip
      exact bh_throw C hE hno hl hQ (cls := xe_I) (text := "there is no such flight") (by decide +kernel) (by decide +kernel) (by decide +kernel) (by decide +kernel) ct_X0_requireFlight_at134 xe_hb134 xe_hg134_130 dX0_requireFlight_12 dX0_requireFlight_15 dX0_requireFlight_16 dX0_requireFlight_18 dX0_requireFlight_21 (Nat.le_of_ble_eq_true rfl) (Nat.le_of_ble_eq_true rfl) (Nat.le_of_ble_eq_true rfl) (Nat.le_of_ble_eq_true rfl) (Nat.le_of_ble_eq_true rfl) (Nat.le_of_ble_eq_true rfl) ⟨rfl, by first | exact bh_out1 c_1 | exact bh_out2 (by omega) c_9⟩
theorem ct_X0_requireRider_at134 : ∀ z ∈ (vx_atS RX0 134 xe_I xe_ns).filter goodWord, z ∈ wsX0_requireRider := by decide +kernel
set_option maxRecDepth 100000 in
set_option maxHeartbeats 4000000 in
theorem ct_X0_requireRider (l : Launch) (hl : l.stackTraces = false) (D : va_G) (cI cZ cL : ClassId) (ad : Nat → Nat) {K T : Nat} (M : MT) (x : Int32) (hI : MI K T M) : bh_Xv l D (wh_tys cI cZ cL) yX0_requireRider wsX0_requireRider ({ frames := 6, cells := 1, slots := 6, locals := 90 } : Room) [.ref (ad 0), .int x] (wh_hall cI cZ ad M) (fun (_ : Unit) => vp_in x (40)) (fun _ => wh_hall cI cZ ad M) (fun E => E = xe_I ∧ ¬ vp_in x (40)) 1 6 := by
  refine bh_ofXv (cc := cX0_requireRider) (maxL := 2) (by decide +kernel) rfl (Nat.le_of_ble_eq_true rfl) ?_
  intro p e s m args below meth c A Q C hQ hE hno
  refine bh_eqlv (lv' := [(0, .ref (ad 0)), (1, .int x)]) rfl ?_
  have hfc := MI_fc hI; have hbc := MI_bc hI; have hsc := MI_sc hI; have hnow := MI_now2 hI
  refine bh_iload_n C dX0_requireRider_0 rfl 1 rfl ?_
  refine bh_if_lt (tgt := 10) C dX0_requireRider_1 (by decide) (fun c_1 => ?_) (fun c_1 => ?_)
  · skip
    exact bh_throw C hE hno hl hQ (cls := xe_I) (text := "there is no such rider") (by decide +kernel) (by decide +kernel) (by decide +kernel) (by decide +kernel) ct_X0_requireRider_at134 xe_hb134 xe_hg134_130 dX0_requireRider_10 dX0_requireRider_13 dX0_requireRider_14 dX0_requireRider_16 dX0_requireRider_19 (Nat.le_of_ble_eq_true rfl) (Nat.le_of_ble_eq_true rfl) (Nat.le_of_ble_eq_true rfl) (Nat.le_of_ble_eq_true rfl) (Nat.le_of_ble_eq_true rfl) (Nat.le_of_ble_eq_true rfl) ⟨rfl, by first | exact bh_out1 c_1 | exact bh_out2 (n := 40) (by omega) c_7⟩
  · skip
    refine bh_iload_n C dX0_requireRider_4 rfl 1 rfl ?_
    refine bh_bipush (v := 40) C dX0_requireRider_5 (by decide) ?_
    refine bh_icmp_lt (tgt := 20) C dX0_requireRider_7 (by decide) (fun c_7 => ?_) (fun c_7 => ?_)
    · skip
      exact bh_xvret C hQ dX0_requireRider_20 () (w := wh_hall cI cZ ad M) rfl (Nat.le_of_ble_eq_true rfl) (Nat.le_of_ble_eq_true rfl) (bh_in (n := 40) (by omega) c_1 c_7)
    · skip
      exact bh_throw C hE hno hl hQ (cls := xe_I) (text := "there is no such rider") (by decide +kernel) (by decide +kernel) (by decide +kernel) (by decide +kernel) ct_X0_requireRider_at134 xe_hb134 xe_hg134_130 dX0_requireRider_10 dX0_requireRider_13 dX0_requireRider_14 dX0_requireRider_16 dX0_requireRider_19 (Nat.le_of_ble_eq_true rfl) (Nat.le_of_ble_eq_true rfl) (Nat.le_of_ble_eq_true rfl) (Nat.le_of_ble_eq_true rfl) (Nat.le_of_ble_eq_true rfl) (Nat.le_of_ble_eq_true rfl) ⟨rfl, by first | exact bh_out1 c_1 | exact bh_out2 (n := 40) (by omega) c_7⟩
theorem ct_X0_requireBag_in : ∀ w ∈ wsX00, w ∈ wsX0_requireBag := by decide +kernel
theorem ct_X0_requireBag_at134 : ∀ z ∈ (vx_atS RX0 134 xe_I xe_ns).filter goodWord, z ∈ wsX0_requireBag := by decide +kernel
set_option maxRecDepth 100000 in
set_option maxHeartbeats 4000000 in
theorem ct_X0_requireBag (l : Launch) (hl : l.stackTraces = false) (D : va_G) (cI cZ cL : ClassId) (ad : Nat → Nat) {K T : Nat} (M : MT) (x : Int32) (hI : MI K T M) : bh_Xv l D (wh_tys cI cZ cL) yX0_requireBag wsX0_requireBag ({ frames := 6, cells := 1, slots := 6, locals := 90 } : Room) [.ref (ad 0), .int x] (wh_hall cI cZ ad M) (fun (_ : Unit) => vp_in x (mq_bc M)) (fun _ => wh_hall cI cZ ad M) (fun E => E = xe_I ∧ ¬ vp_in x (mq_bc M)) 1 6 := by
  refine bh_ofXv (cc := cX0_requireBag) (maxL := 2) (by decide +kernel) rfl (Nat.le_of_ble_eq_true rfl) ?_
  intro p e s m args below meth c A Q C hQ hE hno
  refine bh_eqlv (lv' := [(0, .ref (ad 0)), (1, .int x)]) rfl ?_
  have hfc := MI_fc hI; have hbc := MI_bc hI; have hsc := MI_sc hI; have hnow := MI_now2 hI
  refine bh_iload_n C dX0_requireBag_0 rfl 1 rfl ?_
  refine bh_if_lt (tgt := 12) C dX0_requireBag_1 (by decide) (fun c_1 => ?_) (fun c_1 => ?_)
  · skip
    exact bh_throw C hE hno hl hQ (cls := xe_I) (text := "there is no such bag") (by decide +kernel) (by decide +kernel) (by decide +kernel) (by decide +kernel) ct_X0_requireBag_at134 xe_hb134 xe_hg134_130 dX0_requireBag_12 dX0_requireBag_15 dX0_requireBag_16 dX0_requireBag_18 dX0_requireBag_21 (Nat.le_of_ble_eq_true rfl) (Nat.le_of_ble_eq_true rfl) (Nat.le_of_ble_eq_true rfl) (Nat.le_of_ble_eq_true rfl) (Nat.le_of_ble_eq_true rfl) (Nat.le_of_ble_eq_true rfl) ⟨rfl, by first | exact bh_out1 c_1 | exact bh_out2 (by omega) c_9⟩
  · skip
    refine bh_iload_n C dX0_requireBag_4 rfl 1 rfl ?_
    refine bh_aload_n C dX0_requireBag_5 rfl 0 rfl ?_
    refine bh_get C ct_X0_requireBag_in 0 rfl rfl 5 (by decide) (by decide +kernel) rfl (v := .int (nI (mq_bc M))) rfl dX0_requireBag_6 ?_
    refine bh_icmp_lt (tgt := 22) C dX0_requireBag_9 (by decide) (fun c_9 => ?_) (fun c_9 => ?_)
    · skip
      exact bh_xvret C hQ dX0_requireBag_22 () (w := wh_hall cI cZ ad M) rfl (Nat.le_of_ble_eq_true rfl) (Nat.le_of_ble_eq_true rfl) (bh_in (by omega) c_1 c_9)
    · skip
      exact bh_throw C hE hno hl hQ (cls := xe_I) (text := "there is no such bag") (by decide +kernel) (by decide +kernel) (by decide +kernel) (by decide +kernel) ct_X0_requireBag_at134 xe_hb134 xe_hg134_130 dX0_requireBag_12 dX0_requireBag_15 dX0_requireBag_16 dX0_requireBag_18 dX0_requireBag_21 (Nat.le_of_ble_eq_true rfl) (Nat.le_of_ble_eq_true rfl) (Nat.le_of_ble_eq_true rfl) (Nat.le_of_ble_eq_true rfl) (Nat.le_of_ble_eq_true rfl) (Nat.le_of_ble_eq_true rfl) ⟨rfl, by first | exact bh_out1 c_1 | exact bh_out2 (by omega) c_9⟩
theorem ct_X0_requireScan_in : ∀ w ∈ wsX00, w ∈ wsX0_requireScan := by decide +kernel
theorem ct_X0_requireScan_at134 : ∀ z ∈ (vx_atS RX0 134 xe_I xe_ns).filter goodWord, z ∈ wsX0_requireScan := by decide +kernel
set_option maxRecDepth 100000 in
set_option maxHeartbeats 4000000 in
theorem ct_X0_requireScan (l : Launch) (hl : l.stackTraces = false) (D : va_G) (cI cZ cL : ClassId) (ad : Nat → Nat) {K T : Nat} (M : MT) (x : Int32) (hI : MI K T M) : bh_Xv l D (wh_tys cI cZ cL) yX0_requireScan wsX0_requireScan ({ frames := 6, cells := 1, slots := 6, locals := 90 } : Room) [.ref (ad 0), .int x] (wh_hall cI cZ ad M) (fun (_ : Unit) => vp_in x (mq_sc M)) (fun _ => wh_hall cI cZ ad M) (fun E => E = xe_I ∧ ¬ vp_in x (mq_sc M)) 1 6 := by
  refine bh_ofXv (cc := cX0_requireScan) (maxL := 2) (by decide +kernel) rfl (Nat.le_of_ble_eq_true rfl) ?_
  intro p e s m args below meth c A Q C hQ hE hno
  refine bh_eqlv (lv' := [(0, .ref (ad 0)), (1, .int x)]) rfl ?_
  have hfc := MI_fc hI; have hbc := MI_bc hI; have hsc := MI_sc hI; have hnow := MI_now2 hI
  refine bh_iload_n C dX0_requireScan_0 rfl 1 rfl ?_
  refine bh_if_lt (tgt := 12) C dX0_requireScan_1 (by decide) (fun c_1 => ?_) (fun c_1 => ?_)
  · skip
    exact bh_throw C hE hno hl hQ (cls := xe_I) (text := "there is no such scan") (by decide +kernel) (by decide +kernel) (by decide +kernel) (by decide +kernel) ct_X0_requireScan_at134 xe_hb134 xe_hg134_130 dX0_requireScan_12 dX0_requireScan_15 dX0_requireScan_16 dX0_requireScan_18 dX0_requireScan_21 (Nat.le_of_ble_eq_true rfl) (Nat.le_of_ble_eq_true rfl) (Nat.le_of_ble_eq_true rfl) (Nat.le_of_ble_eq_true rfl) (Nat.le_of_ble_eq_true rfl) (Nat.le_of_ble_eq_true rfl) ⟨rfl, by first | exact bh_out1 c_1 | exact bh_out2 (by omega) c_9⟩
  · skip
    refine bh_iload_n C dX0_requireScan_4 rfl 1 rfl ?_
    refine bh_aload_n C dX0_requireScan_5 rfl 0 rfl ?_
    refine bh_get C ct_X0_requireScan_in 0 rfl rfl 13 (by decide) (by decide +kernel) rfl (v := .int (nI (mq_sc M))) rfl dX0_requireScan_6 ?_
    refine bh_icmp_lt (tgt := 22) C dX0_requireScan_9 (by decide) (fun c_9 => ?_) (fun c_9 => ?_)
    · skip
      exact bh_xvret C hQ dX0_requireScan_22 () (w := wh_hall cI cZ ad M) rfl (Nat.le_of_ble_eq_true rfl) (Nat.le_of_ble_eq_true rfl) (bh_in (by omega) c_1 c_9)
    · skip
      exact bh_throw C hE hno hl hQ (cls := xe_I) (text := "there is no such scan") (by decide +kernel) (by decide +kernel) (by decide +kernel) (by decide +kernel) ct_X0_requireScan_at134 xe_hb134 xe_hg134_130 dX0_requireScan_12 dX0_requireScan_15 dX0_requireScan_16 dX0_requireScan_18 dX0_requireScan_21 (Nat.le_of_ble_eq_true rfl) (Nat.le_of_ble_eq_true rfl) (Nat.le_of_ble_eq_true rfl) (Nat.le_of_ble_eq_true rfl) (Nat.le_of_ble_eq_true rfl) (Nat.le_of_ble_eq_true rfl) ⟨rfl, by first | exact bh_out1 c_1 | exact bh_out2 (by omega) c_9⟩
theorem ct_X0_requirePlace_in : ∀ w ∈ wsX00, w ∈ wsX0_requirePlace := by decide +kernel
theorem ct_X0_requirePlace_at65 : ∀ z ∈ (vx_atS RX0 65 xe_S xe_ns).filter goodWord, z ∈ wsX0_requirePlace := by decide +kernel
set_option maxRecDepth 100000 in
set_option maxHeartbeats 4000000 in
theorem ct_X0_requirePlace (l : Launch) (hl : l.stackTraces = false) (D : va_G) (cI cZ cL : ClassId) (ad : Nat → Nat) (M : MT) (k : Nat) (q : Int32) (hk : k < 48) : bh_Xv l D (wh_tys cI cZ cL) yX0_requirePlace wsX0_requirePlace ({ frames := 6, cells := 1, slots := 6, locals := 90 } : Room) [.ref (ad 0), .int (nI k), .int q] (wh_hall cI cZ ad M) (fun (_ : Unit) => mq_pl M k = q) (fun _ => wh_hall cI cZ ad M) (fun E => E = xe_S ∧ mq_pl M k ≠ q) 1 6 := by
  refine bh_ofXv (cc := cX0_requirePlace) (maxL := 3) (by decide +kernel) rfl (Nat.le_of_ble_eq_true rfl) ?_
  intro p e s m args below meth c A Q C hQ hE hno
  refine bh_eqlv (lv' := [(0, .ref (ad 0)), (1, .int (nI k)), (2, .int q)]) rfl ?_
  refine bh_aload_n C dX0_requirePlace_0 rfl 0 rfl ?_
  refine bh_get C ct_X0_requirePlace_in 0 rfl rfl 9 (by decide) (by decide +kernel) rfl (v := .ref (ad 9)) rfl dX0_requirePlace_1 ?_
  refine bh_iload_n C dX0_requirePlace_4 rfl 1 rfl ?_
  refine bh_iald C 7 0 (f := (mq_pl M)) rfl rfl (i := (nI k)) (vp_in_nI (n := k) (by omega) (by decide)) (x := ((mq_pl M) k)) (congrArg (mq_pl M) (nI_clamp (n := k) (by omega))) dX0_requirePlace_5 ?_
  refine bh_iload_n C dX0_requirePlace_6 rfl 2 rfl ?_
  refine bh_icmp_eq (tgt := 20) C dX0_requirePlace_7 (by decide) (fun c_7 => ?_) (fun c_7 => ?_)
  · skip
    exact bh_xvret C hQ dX0_requirePlace_20 () (w := wh_hall cI cZ ad M) rfl (Nat.le_of_ble_eq_true rfl) (Nat.le_of_ble_eq_true rfl) c_7
  · skip
    exact bh_throw C hE hno hl hQ (cls := xe_S) (text := "the bag is at another place") (by decide +kernel) (by decide +kernel) (by decide +kernel) (by decide +kernel) ct_X0_requirePlace_at65 xe_hb65 xe_hg65_61 dX0_requirePlace_10 dX0_requirePlace_13 dX0_requirePlace_14 dX0_requirePlace_16 dX0_requirePlace_19 (Nat.le_of_ble_eq_true rfl) (Nat.le_of_ble_eq_true rfl) (Nat.le_of_ble_eq_true rfl) (Nat.le_of_ble_eq_true rfl) (Nat.le_of_ble_eq_true rfl) (Nat.le_of_ble_eq_true rfl) ⟨rfl, c_7⟩
theorem ct_X0_requireNotDeparted_in : ∀ w ∈ wsX00, w ∈ wsX0_requireNotDeparted := by decide +kernel
theorem ct_X0_requireNotDeparted_at65 : ∀ z ∈ (vx_atS RX0 65 xe_S xe_ns).filter goodWord, z ∈ wsX0_requireNotDeparted := by decide +kernel
set_option maxRecDepth 100000 in
set_option maxHeartbeats 4000000 in
theorem ct_X0_requireNotDeparted (l : Launch) (hl : l.stackTraces = false) (D : va_G) (cI cZ cL : ClassId) (ad : Nat → Nat) (M : MT) (x : Int32) (hx : vp_in x 10) : bh_Xv l D (wh_tys cI cZ cL) yX0_requireNotDeparted wsX0_requireNotDeparted ({ frames := 6, cells := 1, slots := 6, locals := 90 } : Room) [.ref (ad 0), .int x] (wh_hall cI cZ ad M) (fun (_ : Unit) => nI (mq_now M) < mq_dep M x.toNatClampNeg) (fun _ => wh_hall cI cZ ad M) (fun E => E = xe_S ∧ ¬ nI (mq_now M) < mq_dep M x.toNatClampNeg) 1 6 := by
  refine bh_ofXv (cc := cX0_requireNotDeparted) (maxL := 2) (by decide +kernel) rfl (Nat.le_of_ble_eq_true rfl) ?_
  intro p e s m args below meth c A Q C hQ hE hno
  refine bh_eqlv (lv' := [(0, .ref (ad 0)), (1, .int x)]) rfl ?_
  refine bh_aload_n C dX0_requireNotDeparted_0 rfl 0 rfl ?_
  refine bh_get C ct_X0_requireNotDeparted_in 0 rfl rfl 0 (by decide) (by decide +kernel) rfl (v := .int (nI (mq_now M))) rfl dX0_requireNotDeparted_1 ?_
  refine bh_aload_n C dX0_requireNotDeparted_4 rfl 0 rfl ?_
  refine bh_get C ct_X0_requireNotDeparted_in 0 rfl rfl 2 (by decide) (by decide +kernel) rfl (v := .ref (ad 2)) rfl dX0_requireNotDeparted_5 ?_
  refine bh_iload_n C dX0_requireNotDeparted_8 rfl 1 rfl ?_
  refine bh_iald C 1 0 (f := (mq_dep M)) rfl rfl (i := x) hx (x := ((mq_dep M) x.toNatClampNeg)) rfl dX0_requireNotDeparted_9 ?_
  refine bh_icmp_lt (tgt := 23) C dX0_requireNotDeparted_10 (by decide) (fun c_10 => ?_) (fun c_10 => ?_)
  · skip
    exact bh_xvret C hQ dX0_requireNotDeparted_23 () (w := wh_hall cI cZ ad M) rfl (Nat.le_of_ble_eq_true rfl) (Nat.le_of_ble_eq_true rfl) c_10
  · skip
    exact bh_throw C hE hno hl hQ (cls := xe_S) (text := "the flight has departed") (by decide +kernel) (by decide +kernel) (by decide +kernel) (by decide +kernel) ct_X0_requireNotDeparted_at65 xe_hb65 xe_hg65_61 dX0_requireNotDeparted_13 dX0_requireNotDeparted_16 dX0_requireNotDeparted_17 dX0_requireNotDeparted_19 dX0_requireNotDeparted_22 (Nat.le_of_ble_eq_true rfl) (Nat.le_of_ble_eq_true rfl) (Nat.le_of_ble_eq_true rfl) (Nat.le_of_ble_eq_true rfl) (Nat.le_of_ble_eq_true rfl) (Nat.le_of_ble_eq_true rfl) ⟨rfl, c_10⟩
end
section
theorem ct_X0_isLoadedFor_in : ∀ w ∈ wsX00, w ∈ wsX0_isLoadedFor := by decide +kernel
set_option maxRecDepth 100000 in
set_option maxHeartbeats 4000000 in
theorem ct_X0_isLoadedFor (l : Launch) (D : va_G) (cI cZ cL : ClassId) (ad : Nat → Nat) {K T : Nat} (M : MT) (k : Nat) (x : Int32) (hI : MI K T M) (hk : k < 48) : bh_Mi l D (wh_tys cI cZ cL) yX0_isLoadedFor wsX0_isLoadedFor ({ frames := 0, cells := 0, slots := 0, locals := 0 } : Room) [.ref (ad 0), .int (nI k), .int x] (wh_hall cI cZ ad M) (fun r (_ : Unit) => r = if mq_pl M k = 8 ∧ mq_bf M k = x then 1 else 0) (fun _ => wh_hall cI cZ ad M) 0 0 := by
  refine bh_ofi (cc := cX0_isLoadedFor) (maxL := 3) (by decide +kernel) rfl (Nat.le_of_ble_eq_true rfl) ?_
  intro p e s m args below meth c A Q _ C hQ
  refine bh_eqlv (lv' := [(0, .ref (ad 0)), (1, .int (nI k)), (2, .int x)]) rfl ?_
  have hfc := MI_fc hI; have hbc := MI_bc hI; have hsc := MI_sc hI; have hnow := MI_now2 hI
  refine bh_aload_n C dX0_isLoadedFor_0 rfl 0 rfl ?_
  refine bh_get C ct_X0_isLoadedFor_in 0 rfl rfl 9 (by decide) (by decide +kernel) rfl (v := .ref (ad 9)) rfl dX0_isLoadedFor_1 ?_
  refine bh_iload_n C dX0_isLoadedFor_4 rfl 1 rfl ?_
  refine bh_iald C 7 0 (f := (mq_pl M)) rfl rfl (i := (nI k)) (vp_in_nI (n := k) (by omega) (by decide)) (x := ((mq_pl M) k)) (congrArg (mq_pl M) (nI_clamp (n := k) (by omega))) dX0_isLoadedFor_5 ?_
  refine bh_bipush (v := 8) C dX0_isLoadedFor_6 (by decide) ?_
  refine bh_icmp_ne (tgt := 25) C dX0_isLoadedFor_8 (by decide) (fun c_8 => ?_) (fun c_8 => ?_)
  · skip
    refine bh_iconst (v := 0) C dX0_isLoadedFor_25 (by decide) ?_
    exact bh_zret C hQ dX0_isLoadedFor_26 () (v := 0) (w := wh_hall cI cZ ad M) rfl rfl (Nat.le_of_ble_eq_true rfl) (Nat.le_of_ble_eq_true rfl) (by first | exact (if_pos ⟨c_8, c_18⟩).symm | exact (if_neg (fun z => c_8 z.1)).symm | exact (if_neg (fun z => c_18 z.2)).symm)
  · skip
    refine bh_aload_n C dX0_isLoadedFor_11 rfl 0 rfl ?_
    refine bh_get C ct_X0_isLoadedFor_in 0 rfl rfl 6 (by decide) (by decide +kernel) rfl (v := .ref (ad 6)) rfl dX0_isLoadedFor_12 ?_
    refine bh_iload_n C dX0_isLoadedFor_15 rfl 1 rfl ?_
    refine bh_iald C 4 0 (f := (mq_bf M)) rfl rfl (i := (nI k)) (vp_in_nI (n := k) (by omega) (by decide)) (x := ((mq_bf M) k)) (congrArg (mq_bf M) (nI_clamp (n := k) (by omega))) dX0_isLoadedFor_16 ?_
    refine bh_iload_n C dX0_isLoadedFor_17 rfl 2 rfl ?_
    refine bh_icmp_ne (tgt := 25) C dX0_isLoadedFor_18 (by decide) (fun c_18 => ?_) (fun c_18 => ?_)
    · skip
      refine bh_iconst (v := 0) C dX0_isLoadedFor_25 (by decide) ?_
      exact bh_zret C hQ dX0_isLoadedFor_26 () (v := 0) (w := wh_hall cI cZ ad M) rfl rfl (Nat.le_of_ble_eq_true rfl) (Nat.le_of_ble_eq_true rfl) (by first | exact (if_pos ⟨c_8, c_18⟩).symm | exact (if_neg (fun z => c_8 z.1)).symm | exact (if_neg (fun z => c_18 z.2)).symm)
    · skip
      refine bh_iconst (v := 1) C dX0_isLoadedFor_21 (by decide) ?_
      refine bh_goto (tgt := 26) C dX0_isLoadedFor_22 (by decide) ?_
      exact bh_zret C hQ dX0_isLoadedFor_26 () (v := 1) (w := wh_hall cI cZ ad M) rfl rfl (Nat.le_of_ble_eq_true rfl) (Nat.le_of_ble_eq_true rfl) (by first | exact (if_pos ⟨c_8, c_18⟩).symm | exact (if_neg (fun z => c_8 z.1)).symm | exact (if_neg (fun z => c_18 z.2)).symm)
theorem ct_X0_loadedBags_in : ∀ w ∈ wsX00, w ∈ wsX0_loadedBags := by decide +kernel
set_option maxRecDepth 100000 in
set_option maxHeartbeats 4000000 in
theorem ct_X0_loadedBags (l : Launch) (D : va_G) (cI cZ cL : ClassId) (ad : Nat → Nat) {K T : Nat} (M : MT) (x : Int32) (hI : MI K T M) : bh_Mi l D (wh_tys cI cZ cL) yX0_loadedBags wsX0_loadedBags ({ frames := 1, cells := 0, slots := 0, locals := 22 } : Room) [.ref (ad 0), .int x] (wh_hall cI cZ ad M) (fun r (_ : Unit) => r = nI (mo_ld M x)) (fun _ => wh_hall cI cZ ad M) 0 0 := by
  refine bh_ofi (cc := cX0_loadedBags) (maxL := 4) (by decide +kernel) rfl (Nat.le_of_ble_eq_true rfl) ?_
  intro p e s m args below meth c A Q _ C hQ
  refine bh_eqlv (lv' := [(0, .ref (ad 0)), (1, .int x)]) rfl ?_
  have hfc := MI_fc hI; have hbc := MI_bc hI; have hsc := MI_sc hI; have hnow := MI_now2 hI
  refine bh_iconst (v := 0) C dX0_loadedBags_0 (by decide) ?_
  refine bh_istore_n (lv' := [(2, .int 0), (0, .ref (ad 0)), (1, .int x)]) C dX0_loadedBags_1 rfl (by decide) rfl ?_
  refine bh_iconst (v := 0) C dX0_loadedBags_2 (by decide) ?_
  refine bh_istore_n (lv' := [(3, .int 0), (2, .int 0), (0, .ref (ad 0)), (1, .int x)]) C dX0_loadedBags_3 rfl (by decide) rfl ?_
  have loop : ∀ (n : Nat) (k : Nat), mq_bc M + 1 ≤ k + n → k ≤ mq_bc M → bh_W p l e ({ frames := 1, cells := 0, slots := 0, locals := 22 } : Room) s m args below meth c 4 D A 0 0 Q (wh_hall cI cZ ad M) ([(3, .int (nI k)), (2, .int (nI (mo_cn (fun j => decide (mq_pl M j = 8 ∧ mq_bf M j = x)) k))), (0, .ref (ad 0)), (1, .int x)]) 4 [] := by
    intro n
    induction n with
    | zero => intro k h1 h2; exact absurd h1 (by omega)
    | succ n ih =>
      intro k h1 h2
      refine bh_iload_n C dX0_loadedBags_4 rfl 0 rfl ?_
      refine bh_aload_n C dX0_loadedBags_5 rfl 2 rfl ?_
      refine bh_get C ct_X0_loadedBags_in 0 rfl rfl 5 (by decide) (by decide +kernel) rfl (v := .int (nI (mq_bc M))) rfl dX0_loadedBags_6 ?_
      refine bh_icmp_ge (tgt := 30) C dX0_loadedBags_9 (by decide) (fun c_9 => ?_) (fun c_9 => ?_)
      · skip
        have c_9 := bh_le (by omega) (by omega) c_9
        have hkb : k = mq_bc M := by omega
        refine bh_iload_n C dX0_loadedBags_30 rfl 1 rfl ?_
        exact bh_zret C hQ dX0_loadedBags_31 () (v := (nI (mo_cn (fun j => decide (mq_pl M j = 8 ∧ mq_bf M j = x)) k))) (w := wh_hall cI cZ ad M) rfl rfl (Nat.le_of_ble_eq_true rfl) (Nat.le_of_ble_eq_true rfl) (by rw [hkb]; rfl)
      · skip
        have c_9 := bh_nle2 (by omega) (by omega) c_9
        refine bh_aload_n C dX0_loadedBags_12 rfl 2 rfl ?_
        refine bh_iload_n C dX0_loadedBags_13 rfl 0 rfl ?_
        refine bh_iload_n C dX0_loadedBags_14 rfl 3 rfl ?_
        refine bh_calli_0 (As := [.int (nI k), .int x]) C (ct_X0_isLoadedFor l D cI cZ cL ad M k x hI (by omega)) (cwV 2 C.1.2.2.2.2 gX0_loadedBags_X0_isLoadedFor rfl rfl rfl (by decide +kernel) ⟨Nat.le_of_ble_eq_true rfl, Nat.le_of_ble_eq_true rfl⟩) (ci := 0) rfl 0 rfl rfl rfl (Nat.le_of_ble_eq_true rfl) dX0_loadedBags_15 ⟨Nat.le_of_ble_eq_true rfl, Nat.le_of_ble_eq_true rfl⟩ (fun r_15 u_15 hp_15 => ?_)
        subst hp_15
        refine bh_if_eq (tgt := 24) C dX0_loadedBags_18 (by decide) (fun c_18 => ?_) (fun c_18 => ?_)
        · skip
          replace c_18 := bh_eq0 c_18
          refine bh_iinc (v := (nI (k + 1))) (lv' := [(3, .int (nI (k + 1))), (2, .int (nI (mo_cn (fun j => decide (mq_pl M j = 8 ∧ mq_bf M j = x)) k))), (0, .ref (ad 0)), (1, .int x)]) C dX0_loadedBags_24 (k := 0) rfl (nI_1 _) (by decide) rfl ?_
          refine bh_goto (tgt := 4) C dX0_loadedBags_27 (by decide) ?_
          refine bh_eqlv (lv' := [(3, .int (nI (k + 1))), (2, .int (nI (mo_cn (fun j => decide (mq_pl M j = 8 ∧ mq_bf M j = x)) (k + 1)))), (0, .ref (ad 0)), (1, .int x)]) (by rw [bh_cn0 (f := (fun j => decide (mq_pl M j = 8 ∧ mq_bf M j = x))) (decide_eq_false c_18)]) ?_
          exact bh_lv [0, 1, 2, 3] rfl (ih (k + 1) (by omega) (by omega))
        · skip
          replace c_18 := bh_ne0 c_18
          refine bh_iinc (v := (nI ((mo_cn (fun j => decide (mq_pl M j = 8 ∧ mq_bf M j = x)) k) + 1))) (lv' := [(2, .int (nI ((mo_cn (fun j => decide (mq_pl M j = 8 ∧ mq_bf M j = x)) k) + 1))), (3, .int (nI k)), (0, .ref (ad 0)), (1, .int x)]) C dX0_loadedBags_21 (k := 1) rfl (nI_1 _) (by decide) rfl ?_
          refine bh_iinc (v := (nI (k + 1))) (lv' := [(3, .int (nI (k + 1))), (2, .int (nI ((mo_cn (fun j => decide (mq_pl M j = 8 ∧ mq_bf M j = x)) k) + 1))), (0, .ref (ad 0)), (1, .int x)]) C dX0_loadedBags_24 (k := 1) rfl (nI_1 _) (by decide) rfl ?_
          refine bh_goto (tgt := 4) C dX0_loadedBags_27 (by decide) ?_
          refine bh_eqlv (lv' := [(3, .int (nI (k + 1))), (2, .int (nI (mo_cn (fun j => decide (mq_pl M j = 8 ∧ mq_bf M j = x)) (k + 1)))), (0, .ref (ad 0)), (1, .int x)]) (by rw [bh_cn1 (f := (fun j => decide (mq_pl M j = 8 ∧ mq_bf M j = x))) (decide_eq_true c_18)]) ?_
          exact bh_lv [0, 1, 2, 3] rfl (ih (k + 1) (by omega) (by omega))
  exact bh_lv [0, 1, 2, 3] rfl (loop (mq_bc M + 1) 0 (by omega) (by omega))
theorem ct_X0_mayFly_in : ∀ w ∈ wsX00, w ∈ wsX0_mayFly := by decide +kernel
set_option maxRecDepth 100000 in
set_option maxHeartbeats 4000000 in
theorem ct_X0_mayFly (l : Launch) (D : va_G) (cI cZ cL : ClassId) (ad : Nat → Nat) {K T : Nat} (M : MT) (k : Nat) (hI : MI K T M) (hk : k < 48) : bh_Mi l D (wh_tys cI cZ cL) yX0_mayFly wsX0_mayFly ({ frames := 0, cells := 0, slots := 0, locals := 0 } : Room) [.ref (ad 0), .int (nI k)] (wh_hall cI cZ ad M) (fun r (_ : Unit) => r = if mo_fly M k then 1 else 0) (fun _ => wh_hall cI cZ ad M) 0 0 := by
  refine bh_ofi (cc := cX0_mayFly) (maxL := 2) (by decide +kernel) rfl (Nat.le_of_ble_eq_true rfl) ?_
  intro p e s m args below meth c A Q _ C hQ
  refine bh_eqlv (lv' := [(0, .ref (ad 0)), (1, .int (nI k))]) rfl ?_
  have hfc := MI_fc hI; have hbc := MI_bc hI; have hsc := MI_sc hI; have hnow := MI_now2 hI
  refine bh_aload_n C dX0_mayFly_0 rfl 0 rfl ?_
  refine bh_get C ct_X0_mayFly_in 0 rfl rfl 8 (by decide) (by decide +kernel) rfl (v := .ref (ad 8)) rfl dX0_mayFly_1 ?_
  refine bh_iload_n C dX0_mayFly_4 rfl 1 rfl ?_
  refine bh_zald C 6 1 (f := (mq_pu M)) rfl rfl (i := (nI k)) (vp_in_nI (n := k) (by omega) (by decide)) (x := ((mq_pu M) k)) (congrArg (mq_pu M) (nI_clamp (n := k) (by omega))) dX0_mayFly_5 ?_
  refine bh_if_ne (tgt := 23) C dX0_mayFly_6 (by decide) (fun c_6 => ?_) (fun c_6 => ?_)
  · skip
    refine bh_iconst (v := 1) C dX0_mayFly_23 (by decide) ?_
    refine bh_goto (tgt := 28) C dX0_mayFly_24 (by decide) ?_
    exact bh_zret C hQ dX0_mayFly_28 () (v := 1) (w := wh_hall cI cZ ad M) rfl rfl (Nat.le_of_ble_eq_true rfl) (Nat.le_of_ble_eq_true rfl) (by first | exact (if_pos (Or.inl c_6)).symm | exact (if_pos (Or.inr c_20)).symm | exact (if_neg (fun z => z.elim (fun q => q c_6) (fun q => q c_20))).symm)
  · skip
    refine bh_aload_n C dX0_mayFly_9 rfl 0 rfl ?_
    refine bh_get C ct_X0_mayFly_in 0 rfl rfl 4 (by decide) (by decide +kernel) rfl (v := .ref (ad 4)) rfl dX0_mayFly_10 ?_
    refine bh_aload_n C dX0_mayFly_13 rfl 0 rfl ?_
    refine bh_get C ct_X0_mayFly_in 0 rfl rfl 7 (by decide) (by decide +kernel) rfl (v := .ref (ad 7)) rfl dX0_mayFly_14 ?_
    refine bh_iload_n C dX0_mayFly_17 rfl 1 rfl ?_
    refine bh_iald C 5 0 (f := (mq_br M)) rfl rfl (i := (nI k)) (vp_in_nI (n := k) (by omega) (by decide)) (x := ((mq_br M) k)) (congrArg (mq_br M) (nI_clamp (n := k) (by omega))) dX0_mayFly_18 ?_
    refine bh_zald C 3 1 (f := (mq_brd M)) rfl rfl (i := ((mq_br M) k)) (MI_br hI _) (x := ((mq_brd M) ((mq_br M) k).toNatClampNeg)) rfl dX0_mayFly_19 ?_
    refine bh_if_eq (tgt := 27) C dX0_mayFly_20 (by decide) (fun c_20 => ?_) (fun c_20 => ?_)
    · skip
      refine bh_iconst (v := 0) C dX0_mayFly_27 (by decide) ?_
      exact bh_zret C hQ dX0_mayFly_28 () (v := 0) (w := wh_hall cI cZ ad M) rfl rfl (Nat.le_of_ble_eq_true rfl) (Nat.le_of_ble_eq_true rfl) (by first | exact (if_pos (Or.inl c_6)).symm | exact (if_pos (Or.inr c_20)).symm | exact (if_neg (fun z => z.elim (fun q => q c_6) (fun q => q c_20))).symm)
    · skip
      refine bh_iconst (v := 1) C dX0_mayFly_23 (by decide) ?_
      refine bh_goto (tgt := 28) C dX0_mayFly_24 (by decide) ?_
      exact bh_zret C hQ dX0_mayFly_28 () (v := 1) (w := wh_hall cI cZ ad M) rfl rfl (Nat.le_of_ble_eq_true rfl) (Nat.le_of_ble_eq_true rfl) (by first | exact (if_pos (Or.inl c_6)).symm | exact (if_pos (Or.inr c_20)).symm | exact (if_neg (fun z => z.elim (fun q => q c_6) (fun q => q c_20))).symm)
set_option maxRecDepth 100000 in
set_option maxHeartbeats 4000000 in
theorem ct_X0_decisionTime (l : Launch) (D : va_G) (cI cZ cL : ClassId) (ad : Nat → Nat) (x : Int32)  : bh_Mi l D (wh_tys cI cZ cL) yX0_decisionTime wsX0_decisionTime ({ frames := 0, cells := 0, slots := 0, locals := 0 } : Room) [.int x] ([]) (fun r (_ : Unit) => r = mo_dt x) (fun _ => []) 0 0 := by
  refine bh_ofi (cc := cX0_decisionTime) (maxL := 1) (by decide +kernel) rfl (Nat.le_of_ble_eq_true rfl) ?_
  intro p e s m args below meth c A Q _ C hQ
  refine bh_eqlv (lv' := [(0, .int x)]) rfl ?_
  refine bh_iload_n C dX0_decisionTime_0 rfl 0 rfl ?_
  refine bh_iconst (v := 1) C dX0_decisionTime_1 (by decide) ?_
  refine bh_icmp_ne (tgt := 7) C dX0_decisionTime_2 (by decide) (fun c_2 => ?_) (fun c_2 => ?_)
  · skip
    refine bh_iload_n C dX0_decisionTime_7 rfl 0 rfl ?_
    refine bh_iconst (v := 2) C dX0_decisionTime_8 (by decide) ?_
    refine bh_icmp_ne (tgt := 16) C dX0_decisionTime_9 (by decide) (fun c_9 => ?_) (fun c_9 => ?_)
    · skip
      refine bh_bipush (v := 10) C dX0_decisionTime_16 (by decide) ?_
      exact bh_zret C hQ dX0_decisionTime_18 () (v := 10) (w := []) rfl rfl (Nat.le_of_ble_eq_true rfl) (Nat.le_of_ble_eq_true rfl) (by unfold mo_dt; first | exact (if_pos c_2).symm | exact ((if_neg c_2).trans (if_pos c_9)).symm | exact ((if_neg c_2).trans (if_neg c_9)).symm)
    · skip
      refine bh_iconst (v := 4) C dX0_decisionTime_12 (by decide) ?_
      refine bh_goto (tgt := 18) C dX0_decisionTime_13 (by decide) ?_
      exact bh_zret C hQ dX0_decisionTime_18 () (v := 4) (w := []) rfl rfl (Nat.le_of_ble_eq_true rfl) (Nat.le_of_ble_eq_true rfl) (by unfold mo_dt; first | exact (if_pos c_2).symm | exact ((if_neg c_2).trans (if_pos c_9)).symm | exact ((if_neg c_2).trans (if_neg c_9)).symm)
  · skip
    refine bh_iconst (v := 2) C dX0_decisionTime_5 (by decide) ?_
    exact bh_zret C hQ dX0_decisionTime_6 () (v := 2) (w := []) rfl rfl (Nat.le_of_ble_eq_true rfl) (Nat.le_of_ble_eq_true rfl) (by unfold mo_dt; first | exact (if_pos c_2).symm | exact ((if_neg c_2).trans (if_pos c_9)).symm | exact ((if_neg c_2).trans (if_neg c_9)).symm)
set_option maxRecDepth 100000 in
set_option maxHeartbeats 4000000 in
theorem ct_X0_nextLevel (l : Launch) (D : va_G) (cI cZ cL : ClassId) (ad : Nat → Nat) (x : Int32)  : bh_Mi l D (wh_tys cI cZ cL) yX0_nextLevel wsX0_nextLevel ({ frames := 0, cells := 0, slots := 0, locals := 0 } : Room) [.int x] ([]) (fun r (_ : Unit) => r = mo_nx x) (fun _ => []) 0 0 := by
  refine bh_ofi (cc := cX0_nextLevel) (maxL := 1) (by decide +kernel) rfl (Nat.le_of_ble_eq_true rfl) ?_
  intro p e s m args below meth c A Q _ C hQ
  refine bh_eqlv (lv' := [(0, .int x)]) rfl ?_
  refine bh_iload_n C dX0_nextLevel_0 rfl 0 rfl ?_
  refine bh_iconst (v := 1) C dX0_nextLevel_1 (by decide) ?_
  refine bh_icmp_ne (tgt := 7) C dX0_nextLevel_2 (by decide) (fun c_2 => ?_) (fun c_2 => ?_)
  · skip
    refine bh_iload_n C dX0_nextLevel_7 rfl 0 rfl ?_
    refine bh_iconst (v := 2) C dX0_nextLevel_8 (by decide) ?_
    refine bh_icmp_ne (tgt := 16) C dX0_nextLevel_9 (by decide) (fun c_9 => ?_) (fun c_9 => ?_)
    · skip
      refine bh_iconst (v := 4) C dX0_nextLevel_16 (by decide) ?_
      exact bh_zret C hQ dX0_nextLevel_17 () (v := 4) (w := []) rfl rfl (Nat.le_of_ble_eq_true rfl) (Nat.le_of_ble_eq_true rfl) (by unfold mo_nx; first | exact (if_pos c_2).symm | exact ((if_neg c_2).trans (if_pos c_9)).symm | exact ((if_neg c_2).trans (if_neg c_9)).symm)
    · skip
      refine bh_iconst (v := 3) C dX0_nextLevel_12 (by decide) ?_
      refine bh_goto (tgt := 17) C dX0_nextLevel_13 (by decide) ?_
      exact bh_zret C hQ dX0_nextLevel_17 () (v := 3) (w := []) rfl rfl (Nat.le_of_ble_eq_true rfl) (Nat.le_of_ble_eq_true rfl) (by unfold mo_nx; first | exact (if_pos c_2).symm | exact ((if_neg c_2).trans (if_pos c_9)).symm | exact ((if_neg c_2).trans (if_neg c_9)).symm)
  · skip
    refine bh_iconst (v := 2) C dX0_nextLevel_5 (by decide) ?_
    exact bh_zret C hQ dX0_nextLevel_6 () (v := 2) (w := []) rfl rfl (Nat.le_of_ble_eq_true rfl) (Nat.le_of_ble_eq_true rfl) (by unfold mo_nx; first | exact (if_pos c_2).symm | exact ((if_neg c_2).trans (if_pos c_9)).symm | exact ((if_neg c_2).trans (if_neg c_9)).symm)
theorem ct_X0_scan_in : ∀ w ∈ wsX00, w ∈ wsX0_scan := by decide +kernel
set_option maxRecDepth 100000 in
set_option maxHeartbeats 4000000 in
theorem ct_X0_scan (l : Launch) (D : va_G) (cI cZ cL : ClassId) (ad : Nat → Nat) (M : MT) (k : Nat) (v0 : Int32) (hsc : mq_sc M < 2048) : bh_Mv l D (wh_tys cI cZ cL) yX0_scan wsX0_scan ({ frames := 0, cells := 0, slots := 0, locals := 0 } : Room) [.ref (ad 0), .int (nI k), .int v0] (wh_hall cI cZ ad M) (fun (_ : Unit) => True) (fun _ => wh_hallX cI cZ ad (mq_now M) (mq_fc M) (mq_bc M) (mq_sc M + 1) (mq_dep M) (mq_lat M) (mq_brd M) (mq_bf M) (mq_br M) (mq_pu M) (mq_pl M) (mq_ls M) (mq_ca M) (mq_at M) (upd (mq_sb M) (mq_sc M) (nI k)) (upd (mq_sp M) (mq_sc M) v0) (upd (mq_st M) (mq_sc M) (nI (mq_now M)))) 0 0 := by
  refine bh_ofv (cc := cX0_scan) (maxL := 3) (by decide +kernel) rfl (Nat.le_of_ble_eq_true rfl) ?_
  intro p e s m args below meth c A Q _ C hQ
  refine bh_eqlv (lv' := [(0, .ref (ad 0)), (1, .int (nI k)), (2, .int v0)]) rfl ?_
  refine bh_aload_n C dX0_scan_0 rfl 0 rfl ?_
  refine bh_get C ct_X0_scan_in 0 rfl rfl 13 (by decide) (by decide +kernel) rfl (v := .int (nI (mq_sc M))) rfl dX0_scan_1 ?_
  refine bh_sipush (v := 2048) C dX0_scan_4 (by decide) ?_
  refine bh_icmp_lt (tgt := 11) C dX0_scan_7 (by decide) (fun c_7 => ?_) (fun c_7 => absurd (nI_lt (b := 2048) hsc (by decide)) c_7)
  refine bh_aload_n C dX0_scan_11 rfl 0 rfl ?_
  refine bh_get C ct_X0_scan_in 0 rfl rfl 14 (by decide) (by decide +kernel) rfl (v := .ref (ad 14)) rfl dX0_scan_12 ?_
  refine bh_aload_n C dX0_scan_15 rfl 0 rfl ?_
  refine bh_get C ct_X0_scan_in 0 rfl rfl 13 (by decide) (by decide +kernel) rfl (v := .int (nI (mq_sc M))) rfl dX0_scan_16 ?_
  refine bh_iload_n C dX0_scan_19 rfl 1 rfl ?_
  refine bh_eqw (w' := wh_hallX cI cZ ad (mq_now M) (mq_fc M) (mq_bc M) (mq_sc M) (mq_dep M) (mq_lat M) (mq_brd M) (mq_bf M) (mq_br M) (mq_pu M) (mq_pl M) (mq_ls M) (mq_ca M) (mq_at M) (mq_sb M) (mq_sp M) (mq_st M)) rfl ?_
  refine bh_iast (w' := wh_hallX cI cZ ad (mq_now M) (mq_fc M) (mq_bc M) (mq_sc M) (mq_dep M) (mq_lat M) (mq_brd M) (mq_bf M) (mq_br M) (mq_pu M) (mq_pl M) (mq_ls M) (mq_ca M) (mq_at M) (upd (mq_sb M) ((mq_sc M)) (nI k)) (mq_sp M) (mq_st M)) C 11 0 rfl rfl (vp_in_nI (n := (mq_sc M)) (by omega) (by decide)) dX0_scan_20 (by rw [nI_clamp (n := (mq_sc M)) (by omega)]; rfl) ?_
  refine bh_aload_n C dX0_scan_21 rfl 0 rfl ?_
  refine bh_get C ct_X0_scan_in 0 rfl rfl 15 (by decide) (by decide +kernel) rfl (v := .ref (ad 15)) rfl dX0_scan_22 ?_
  refine bh_aload_n C dX0_scan_25 rfl 0 rfl ?_
  refine bh_get C ct_X0_scan_in 0 rfl rfl 13 (by decide) (by decide +kernel) rfl (v := .int (nI (mq_sc M))) rfl dX0_scan_26 ?_
  refine bh_iload_n C dX0_scan_29 rfl 2 rfl ?_
  refine bh_iast (w' := wh_hallX cI cZ ad (mq_now M) (mq_fc M) (mq_bc M) (mq_sc M) (mq_dep M) (mq_lat M) (mq_brd M) (mq_bf M) (mq_br M) (mq_pu M) (mq_pl M) (mq_ls M) (mq_ca M) (mq_at M) (upd (mq_sb M) ((mq_sc M)) (nI k)) (upd (mq_sp M) ((mq_sc M)) v0) (mq_st M)) C 12 0 rfl rfl (vp_in_nI (n := (mq_sc M)) (by omega) (by decide)) dX0_scan_30 (by rw [nI_clamp (n := (mq_sc M)) (by omega)]; rfl) ?_
  refine bh_aload_n C dX0_scan_31 rfl 0 rfl ?_
  refine bh_get C ct_X0_scan_in 0 rfl rfl 16 (by decide) (by decide +kernel) rfl (v := .ref (ad 16)) rfl dX0_scan_32 ?_
  refine bh_aload_n C dX0_scan_35 rfl 0 rfl ?_
  refine bh_get C ct_X0_scan_in 0 rfl rfl 13 (by decide) (by decide +kernel) rfl (v := .int (nI (mq_sc M))) rfl dX0_scan_36 ?_
  refine bh_aload_n C dX0_scan_39 rfl 0 rfl ?_
  refine bh_get C ct_X0_scan_in 0 rfl rfl 0 (by decide) (by decide +kernel) rfl (v := .int (nI (mq_now M))) rfl dX0_scan_40 ?_
  refine bh_iast (w' := wh_hallX cI cZ ad (mq_now M) (mq_fc M) (mq_bc M) (mq_sc M) (mq_dep M) (mq_lat M) (mq_brd M) (mq_bf M) (mq_br M) (mq_pu M) (mq_pl M) (mq_ls M) (mq_ca M) (mq_at M) (upd (mq_sb M) ((mq_sc M)) (nI k)) (upd (mq_sp M) ((mq_sc M)) v0) (upd (mq_st M) ((mq_sc M)) (nI (mq_now M)))) C 13 0 rfl rfl (vp_in_nI (n := (mq_sc M)) (by omega) (by decide)) dX0_scan_43 (by rw [nI_clamp (n := (mq_sc M)) (by omega)]; rfl) ?_
  refine bh_aload_n C dX0_scan_44 rfl 0 rfl ?_
  refine bh_dup C dX0_scan_45 rfl ?_
  refine bh_get C ct_X0_scan_in 0 rfl rfl 13 (by decide) (by decide +kernel) rfl (v := .int (nI (mq_sc M))) rfl dX0_scan_46 ?_
  refine bh_iconst (v := 1) C dX0_scan_49 (by decide) ?_
  refine bh_iadd C dX0_scan_50 ?_
  refine bh_topi (nI_1 _) ?_
  refine bh_put (ty := .int) (v := .int (nI ((mq_sc M) + 1))) (w' := wh_hallX cI cZ ad (mq_now M) (mq_fc M) (mq_bc M) (((mq_sc M) + 1)) (mq_dep M) (mq_lat M) (mq_brd M) (mq_bf M) (mq_br M) (mq_pu M) (mq_pl M) (mq_ls M) (mq_ca M) (mq_at M) (upd (mq_sb M) ((mq_sc M)) (nI k)) (upd (mq_sp M) ((mq_sc M)) v0) (upd (mq_st M) ((mq_sc M)) (nI (mq_now M)))) C ct_X0_scan_in tyX0 tyX0_ok nmX0 0 rfl rfl 13 (by decide) (by decide +kernel) rfl rfl (by decide +kernel) rfl rfl (Nat.le_of_ble_eq_true rfl) dX0_scan_51 rfl ?_
  exact bh_vret C hQ dX0_scan_54 () (w := wh_hallX cI cZ ad (mq_now M) (mq_fc M) (mq_bc M) (((mq_sc M) + 1)) (mq_dep M) (mq_lat M) (mq_brd M) (mq_bf M) (mq_br M) (mq_pu M) (mq_pl M) (mq_ls M) (mq_ca M) (mq_at M) (upd (mq_sb M) ((mq_sc M)) (nI k)) (upd (mq_sp M) ((mq_sc M)) v0) (upd (mq_st M) ((mq_sc M)) (nI (mq_now M)))) rfl (Nat.le_of_ble_eq_true rfl) (Nat.le_of_ble_eq_true rfl) trivial
theorem ct_X0_bring_in : ∀ w ∈ wsX00, w ∈ wsX0_bring := by decide +kernel
set_option maxRecDepth 100000 in
set_option maxHeartbeats 4000000 in
theorem ct_X0_bring (l : Launch) (D : va_G) (cI cZ cL : ClassId) (ad : Nat → Nat) (M : MT) (k : Nat) (v0 : Int32) (hk : k < 48) (hp : vp_in v0 12) (hpl : vp_in (mq_pl M k) 12) (hsc : mq_sc M < 2048) : bh_Mv l D (wh_tys cI cZ cL) yX0_bring wsX0_bring ({ frames := 1, cells := 0, slots := 0, locals := 22 } : Room) [.ref (ad 0), .int (nI k), .int v0] (wh_hall cI cZ ad M) (fun (_ : Unit) => True) (fun _ => wh_hall cI cZ ad (mo_bring M k v0)) 0 0 := by
  refine bh_ofv (cc := cX0_bring) (maxL := 3) (by decide +kernel) rfl (Nat.le_of_ble_eq_true rfl) ?_
  intro p e s m args below meth c A Q _ C hQ
  refine bh_eqlv (lv' := [(0, .ref (ad 0)), (1, .int (nI k)), (2, .int v0)]) rfl ?_
  have hpl2 := hpl
  refine bh_aload_n C dX0_bring_0 rfl 0 rfl ?_
  refine bh_get C ct_X0_bring_in 0 rfl rfl 12 (by decide) (by decide +kernel) rfl (v := .ref (ad 12)) rfl dX0_bring_1 ?_
  refine bh_aload_n C dX0_bring_4 rfl 0 rfl ?_
  refine bh_get C ct_X0_bring_in 0 rfl rfl 9 (by decide) (by decide +kernel) rfl (v := .ref (ad 9)) rfl dX0_bring_5 ?_
  refine bh_iload_n C dX0_bring_8 rfl 1 rfl ?_
  refine bh_iald C 7 0 (f := (mq_pl M)) rfl rfl (i := (nI k)) (vp_in_nI (n := k) (by omega) (by decide)) (x := ((mq_pl M) k)) (congrArg (mq_pl M) (nI_clamp (n := k) (by omega))) dX0_bring_9 ?_
  refine bh_dup2 C dX0_bring_10 rfl rfl ?_
  refine bh_iald C 10 0 (f := (mq_at M)) rfl rfl (i := ((mq_pl M) k)) hpl (x := ((mq_at M) ((mq_pl M) k).toNatClampNeg)) rfl dX0_bring_11 ?_
  refine bh_iconst (v := 1) C dX0_bring_12 (by decide) ?_
  refine bh_isub C dX0_bring_13 ?_
  refine bh_eqw (w' := wh_hallX cI cZ ad (mq_now M) (mq_fc M) (mq_bc M) (mq_sc M) (mq_dep M) (mq_lat M) (mq_brd M) (mq_bf M) (mq_br M) (mq_pu M) (mq_pl M) (mq_ls M) (mq_ca M) (mq_at M) (mq_sb M) (mq_sp M) (mq_st M)) rfl ?_
  refine bh_iast (w' := wh_hallX cI cZ ad (mq_now M) (mq_fc M) (mq_bc M) (mq_sc M) (mq_dep M) (mq_lat M) (mq_brd M) (mq_bf M) (mq_br M) (mq_pu M) (mq_pl M) (mq_ls M) (mq_ca M) (upd (mq_at M) ((mq_pl M) k).toNatClampNeg (((mq_at M) ((mq_pl M) k).toNatClampNeg) - 1)) (mq_sb M) (mq_sp M) (mq_st M)) C 10 0 rfl rfl hpl dX0_bring_14 rfl ?_
  refine bh_aload_n C dX0_bring_15 rfl 0 rfl ?_
  refine bh_get C ct_X0_bring_in 0 rfl rfl 12 (by decide) (by decide +kernel) rfl (v := .ref (ad 12)) rfl dX0_bring_16 ?_
  refine bh_iload_n C dX0_bring_19 rfl 2 rfl ?_
  refine bh_dup2 C dX0_bring_20 rfl rfl ?_
  refine bh_iald C 10 0 (f := (upd (mq_at M) ((mq_pl M) k).toNatClampNeg (((mq_at M) ((mq_pl M) k).toNatClampNeg) - 1))) rfl rfl (i := v0) hp (x := ((upd (mq_at M) ((mq_pl M) k).toNatClampNeg (((mq_at M) ((mq_pl M) k).toNatClampNeg) - 1)) v0.toNatClampNeg)) rfl dX0_bring_21 ?_
  refine bh_iconst (v := 1) C dX0_bring_22 (by decide) ?_
  refine bh_iadd C dX0_bring_23 ?_
  refine bh_iast (w' := wh_hallX cI cZ ad (mq_now M) (mq_fc M) (mq_bc M) (mq_sc M) (mq_dep M) (mq_lat M) (mq_brd M) (mq_bf M) (mq_br M) (mq_pu M) (mq_pl M) (mq_ls M) (mq_ca M) (upd (upd (mq_at M) ((mq_pl M) k).toNatClampNeg (((mq_at M) ((mq_pl M) k).toNatClampNeg) - 1)) v0.toNatClampNeg (((upd (mq_at M) ((mq_pl M) k).toNatClampNeg (((mq_at M) ((mq_pl M) k).toNatClampNeg) - 1)) v0.toNatClampNeg) + 1)) (mq_sb M) (mq_sp M) (mq_st M)) C 10 0 rfl rfl hp dX0_bring_24 rfl ?_
  refine bh_aload_n C dX0_bring_25 rfl 0 rfl ?_
  refine bh_get C ct_X0_bring_in 0 rfl rfl 9 (by decide) (by decide +kernel) rfl (v := .ref (ad 9)) rfl dX0_bring_26 ?_
  refine bh_iload_n C dX0_bring_29 rfl 1 rfl ?_
  refine bh_iload_n C dX0_bring_30 rfl 2 rfl ?_
  refine bh_iast (w' := wh_hallX cI cZ ad (mq_now M) (mq_fc M) (mq_bc M) (mq_sc M) (mq_dep M) (mq_lat M) (mq_brd M) (mq_bf M) (mq_br M) (mq_pu M) (upd (mq_pl M) (k) v0) (mq_ls M) (mq_ca M) (upd (upd (mq_at M) ((mq_pl M) k).toNatClampNeg (((mq_at M) ((mq_pl M) k).toNatClampNeg) - 1)) v0.toNatClampNeg (((upd (mq_at M) ((mq_pl M) k).toNatClampNeg (((mq_at M) ((mq_pl M) k).toNatClampNeg) - 1)) v0.toNatClampNeg) + 1)) (mq_sb M) (mq_sp M) (mq_st M)) C 7 0 rfl rfl (vp_in_nI (n := k) (by omega) (by decide)) dX0_bring_31 (by rw [nI_clamp (n := k) (by omega)]; rfl) ?_
  refine bh_aload_n C dX0_bring_32 rfl 0 rfl ?_
  refine bh_get C ct_X0_bring_in 0 rfl rfl 11 (by decide) (by decide +kernel) rfl (v := .ref (ad 11)) rfl dX0_bring_33 ?_
  refine bh_iload_n C dX0_bring_36 rfl 1 rfl ?_
  refine bh_aload_n C dX0_bring_37 rfl 0 rfl ?_
  refine bh_get C ct_X0_bring_in 0 rfl rfl 0 (by decide) (by decide +kernel) rfl (v := .int (nI (mq_now M))) rfl dX0_bring_38 ?_
  refine bh_iast (w' := wh_hallX cI cZ ad (mq_now M) (mq_fc M) (mq_bc M) (mq_sc M) (mq_dep M) (mq_lat M) (mq_brd M) (mq_bf M) (mq_br M) (mq_pu M) (upd (mq_pl M) (k) v0) (mq_ls M) (upd (mq_ca M) (k) (nI (mq_now M))) (upd (upd (mq_at M) ((mq_pl M) k).toNatClampNeg (((mq_at M) ((mq_pl M) k).toNatClampNeg) - 1)) v0.toNatClampNeg (((upd (mq_at M) ((mq_pl M) k).toNatClampNeg (((mq_at M) ((mq_pl M) k).toNatClampNeg) - 1)) v0.toNatClampNeg) + 1)) (mq_sb M) (mq_sp M) (mq_st M)) C 9 0 rfl rfl (vp_in_nI (n := k) (by omega) (by decide)) dX0_bring_41 (by rw [nI_clamp (n := k) (by omega)]; rfl) ?_
  refine bh_aload_n C dX0_bring_42 rfl 0 rfl ?_
  refine bh_get C ct_X0_bring_in 0 rfl rfl 10 (by decide) (by decide +kernel) rfl (v := .ref (ad 10)) rfl dX0_bring_43 ?_
  refine bh_iload_n C dX0_bring_46 rfl 1 rfl ?_
  refine bh_aload_n C dX0_bring_47 rfl 0 rfl ?_
  refine bh_get C ct_X0_bring_in 0 rfl rfl 13 (by decide) (by decide +kernel) rfl (v := .int (nI (mq_sc M))) rfl dX0_bring_48 ?_
  refine bh_iast (w' := wh_hallX cI cZ ad (mq_now M) (mq_fc M) (mq_bc M) (mq_sc M) (mq_dep M) (mq_lat M) (mq_brd M) (mq_bf M) (mq_br M) (mq_pu M) (upd (mq_pl M) (k) v0) (upd (mq_ls M) (k) (nI (mq_sc M))) (upd (mq_ca M) (k) (nI (mq_now M))) (upd (upd (mq_at M) ((mq_pl M) k).toNatClampNeg (((mq_at M) ((mq_pl M) k).toNatClampNeg) - 1)) v0.toNatClampNeg (((upd (mq_at M) ((mq_pl M) k).toNatClampNeg (((mq_at M) ((mq_pl M) k).toNatClampNeg) - 1)) v0.toNatClampNeg) + 1)) (mq_sb M) (mq_sp M) (mq_st M)) C 8 0 rfl rfl (vp_in_nI (n := k) (by omega) (by decide)) dX0_bring_51 (by rw [nI_clamp (n := k) (by omega)]; rfl) ?_
  refine bh_aload_n C dX0_bring_52 rfl 0 rfl ?_
  refine bh_iload_n C dX0_bring_53 rfl 1 rfl ?_
  refine bh_iload_n C dX0_bring_54 rfl 2 rfl ?_
  refine bh_eqw (w' := wh_hall cI cZ ad ((mq_now M), (mq_fc M), (mq_bc M), (mq_sc M), (mq_dep M), (mq_lat M), (mq_brd M), (mq_bf M), (mq_br M), (mq_pu M), (upd (mq_pl M) (k) v0), (upd (mq_ls M) (k) (nI (mq_sc M))), (upd (mq_ca M) (k) (nI (mq_now M))), (upd (upd (mq_at M) ((mq_pl M) k).toNatClampNeg (((mq_at M) ((mq_pl M) k).toNatClampNeg) - 1)) v0.toNatClampNeg (((upd (mq_at M) ((mq_pl M) k).toNatClampNeg (((mq_at M) ((mq_pl M) k).toNatClampNeg) - 1)) v0.toNatClampNeg) + 1)), (mq_sb M), (mq_sp M), (mq_st M))) rfl ?_
  refine bh_callv_0 (As := [.int (nI k), .int v0]) C (ct_X0_scan l D cI cZ cL ad ((mq_now M), (mq_fc M), (mq_bc M), (mq_sc M), (mq_dep M), (mq_lat M), (mq_brd M), (mq_bf M), (mq_br M), (mq_pu M), (upd (mq_pl M) (k) v0), (upd (mq_ls M) (k) (nI (mq_sc M))), (upd (mq_ca M) (k) (nI (mq_now M))), (upd (upd (mq_at M) ((mq_pl M) k).toNatClampNeg (((mq_at M) ((mq_pl M) k).toNatClampNeg) - 1)) v0.toNatClampNeg (((upd (mq_at M) ((mq_pl M) k).toNatClampNeg (((mq_at M) ((mq_pl M) k).toNatClampNeg) - 1)) v0.toNatClampNeg) + 1)), (mq_sb M), (mq_sp M), (mq_st M)) k v0 hsc) (cwV 2 C.1.2.2.2.2 gX0_bring_X0_scan rfl rfl rfl (by decide +kernel) ⟨Nat.le_of_ble_eq_true rfl, Nat.le_of_ble_eq_true rfl⟩) (ci := 0) rfl 0 rfl rfl rfl (Nat.le_of_ble_eq_true rfl) dX0_bring_55 ⟨Nat.le_of_ble_eq_true rfl, Nat.le_of_ble_eq_true rfl⟩ (fun u_55 hp_55 => ?_)
  refine bh_eqw (w' := wh_hallX cI cZ ad (mq_now M) (mq_fc M) (mq_bc M) ((mq_sc M) + 1) (mq_dep M) (mq_lat M) (mq_brd M) (mq_bf M) (mq_br M) (mq_pu M) (upd (mq_pl M) (k) v0) (upd (mq_ls M) (k) (nI (mq_sc M))) (upd (mq_ca M) (k) (nI (mq_now M))) (upd (upd (mq_at M) ((mq_pl M) k).toNatClampNeg (((mq_at M) ((mq_pl M) k).toNatClampNeg) - 1)) v0.toNatClampNeg (((upd (mq_at M) ((mq_pl M) k).toNatClampNeg (((mq_at M) ((mq_pl M) k).toNatClampNeg) - 1)) v0.toNatClampNeg) + 1)) (upd (mq_sb M) (mq_sc M) (nI k)) (upd (mq_sp M) (mq_sc M) v0) (upd (mq_st M) (mq_sc M) (nI (mq_now M)))) rfl ?_
  exact bh_vret C hQ dX0_bring_58 () (w := wh_hallX cI cZ ad (mq_now M) (mq_fc M) (mq_bc M) ((mq_sc M) + 1) (mq_dep M) (mq_lat M) (mq_brd M) (mq_bf M) (mq_br M) (mq_pu M) (upd (mq_pl M) (k) v0) (upd (mq_ls M) (k) (nI (mq_sc M))) (upd (mq_ca M) (k) (nI (mq_now M))) (upd (upd (mq_at M) ((mq_pl M) k).toNatClampNeg (((mq_at M) ((mq_pl M) k).toNatClampNeg) - 1)) v0.toNatClampNeg (((upd (mq_at M) ((mq_pl M) k).toNatClampNeg (((mq_at M) ((mq_pl M) k).toNatClampNeg) - 1)) v0.toNatClampNeg) + 1)) (upd (mq_sb M) (mq_sc M) (nI k)) (upd (mq_sp M) (mq_sc M) v0) (upd (mq_st M) (mq_sc M) (nI (mq_now M)))) rfl (Nat.le_of_ble_eq_true rfl) (Nat.le_of_ble_eq_true rfl) trivial
theorem ct_X0_routeTo_in : ∀ w ∈ wsX00, w ∈ wsX0_routeTo := by decide +kernel
set_option maxRecDepth 100000 in
set_option maxHeartbeats 4000000 in
theorem ct_X0_routeTo (l : Launch) (D : va_G) (cI cZ cL : ClassId) (ad : Nat → Nat) {K T : Nat} (M : MT) (x : Int32) (hI : MI K T M) (hx : vp_in x 10) : bh_Mi l D (wh_tys cI cZ cL) yX0_routeTo wsX0_routeTo ({ frames := 2, cells := 0, slots := 0, locals := 42 } : Room) [.ref (ad 0), .int x] (wh_hall cI cZ ad M) (fun r (_ : Unit) => r = mo_way M x) (fun _ => wh_hall cI cZ ad M) 0 0 := by
  refine bh_ofi (cc := cX0_routeTo) (maxL := 2) (by decide +kernel) rfl (Nat.le_of_ble_eq_true rfl) ?_
  intro p e s m args below meth c A Q _ C hQ
  refine bh_eqlv (lv' := [(0, .ref (ad 0)), (1, .int x)]) rfl ?_
  have hfc := MI_fc hI; have hbc := MI_bc hI; have hsc := MI_sc hI; have hnow := MI_now2 hI
  have hat5 := mo_at_le M 5
  refine bh_aload_n C dX0_routeTo_0 rfl 0 rfl ?_
  refine bh_iload_n C dX0_routeTo_1 rfl 1 rfl ?_
  refine bh_calli_0 (As := [.int x]) C (ct_X0_hasClosed l D cI cZ cL ad M x hx) (cwV 1 C.1.2.2.2.2 gX0_routeTo_X0_hasClosed rfl rfl rfl (by decide +kernel) ⟨Nat.le_of_ble_eq_true rfl, Nat.le_of_ble_eq_true rfl⟩) (ci := 0) rfl 0 rfl rfl rfl (Nat.le_of_ble_eq_true rfl) dX0_routeTo_2 ⟨Nat.le_of_ble_eq_true rfl, Nat.le_of_ble_eq_true rfl⟩ (fun r_2 u_2 hp_2 => ?_)
  subst hp_2
  refine bh_if_ne (tgt := 18) C dX0_routeTo_5 (by decide) (fun c_5 => ?_) (fun c_5 => ?_)
  · skip
    replace c_5 := bh_ne0 c_5
    refine bh_bipush (v := 11) C dX0_routeTo_18 (by decide) ?_
    exact bh_zret C hQ dX0_routeTo_20 () (v := 11) (w := wh_hall cI cZ ad M) rfl rfl (Nat.le_of_ble_eq_true rfl) (Nat.le_of_ble_eq_true rfl) (by first | exact (mo_way_a c_5).symm | exact (mo_way_b c_15).symm)
  · skip
    replace c_5 := bh_eq0 c_5
    refine bh_aload_n C dX0_routeTo_8 rfl 0 rfl ?_
    refine bh_get C ct_X0_routeTo_in 0 rfl rfl 3 (by decide) (by decide +kernel) rfl (v := .ref (ad 3)) rfl dX0_routeTo_9 ?_
    refine bh_iload_n C dX0_routeTo_12 rfl 1 rfl ?_
    refine bh_iald C 2 0 (f := (mq_lat M)) rfl rfl (i := x) hx (x := ((mq_lat M) x.toNatClampNeg)) rfl dX0_routeTo_13 ?_
    refine bh_iconst (v := (-1)) C dX0_routeTo_14 (by decide) ?_
    refine bh_icmp_ne (tgt := 21) C dX0_routeTo_15 (by decide) (fun c_15 => ?_) (fun c_15 => ?_)
    · skip
      refine bh_aload_n C dX0_routeTo_21 rfl 0 rfl ?_
      refine bh_iload_n C dX0_routeTo_22 rfl 1 rfl ?_
      refine bh_calli_0 (As := [.int x]) C (ct_X0_hasOpened l D cI cZ cL ad M x hx) (cwV 1 C.1.2.2.2.2 gX0_routeTo_X0_hasOpened rfl rfl rfl (by decide +kernel) ⟨Nat.le_of_ble_eq_true rfl, Nat.le_of_ble_eq_true rfl⟩) (ci := 0) rfl 0 rfl rfl rfl (Nat.le_of_ble_eq_true rfl) dX0_routeTo_23 ⟨Nat.le_of_ble_eq_true rfl, Nat.le_of_ble_eq_true rfl⟩ (fun r_23 u_23 hp_23 => ?_)
      subst hp_23
      refine bh_if_eq (tgt := 32) C dX0_routeTo_26 (by decide) (fun c_26 => ?_) (fun c_26 => ?_)
      · skip
        replace c_26 := bh_eq0 c_26
        refine bh_aload_n C dX0_routeTo_32 rfl 0 rfl ?_
        refine bh_get C ct_X0_routeTo_in 0 rfl rfl 12 (by decide) (by decide +kernel) rfl (v := .ref (ad 12)) rfl dX0_routeTo_33 ?_
        refine bh_iconst (v := 5) C dX0_routeTo_36 (by decide) ?_
        refine bh_iald C 10 0 (f := (mq_at M)) rfl rfl (i := 5) (vp_in_nI (n := 5) (by decide) (by decide)) (x := (nI (mo_at M 5))) (MI_at5 hI) dX0_routeTo_37 ?_
        refine bh_bipush (v := 8) C dX0_routeTo_38 (by decide) ?_
        refine bh_icmp_ge (tgt := 47) C dX0_routeTo_40 (by decide) (fun c_40 => ?_) (fun c_40 => ?_)
        · skip
          have c_40 := bh_le (a := 8) (by decide) (by omega) c_40
          refine bh_bipush (v := 6) C dX0_routeTo_47 (by decide) ?_
          exact bh_zret C hQ dX0_routeTo_49 () (v := 6) (w := wh_hall cI cZ ad M) rfl rfl (Nat.le_of_ble_eq_true rfl) (Nat.le_of_ble_eq_true rfl) (by first | exact (mo_way_5 c_5 c_15 c_26 c_40).symm | exact (mo_way_6 c_5 c_15 c_26 c_40).symm)
        · skip
          have c_40 := bh_nle2 (a := 8) (by decide) (by omega) c_40
          refine bh_iconst (v := 5) C dX0_routeTo_43 (by decide) ?_
          refine bh_goto (tgt := 49) C dX0_routeTo_44 (by decide) ?_
          exact bh_zret C hQ dX0_routeTo_49 () (v := 5) (w := wh_hall cI cZ ad M) rfl rfl (Nat.le_of_ble_eq_true rfl) (Nat.le_of_ble_eq_true rfl) (by first | exact (mo_way_5 c_5 c_15 c_26 c_40).symm | exact (mo_way_6 c_5 c_15 c_26 c_40).symm)
      · skip
        replace c_26 := bh_ne0 c_26
        refine bh_bipush (v := 7) C dX0_routeTo_29 (by decide) ?_
        exact bh_zret C hQ dX0_routeTo_31 () (v := 7) (w := wh_hall cI cZ ad M) rfl rfl (Nat.le_of_ble_eq_true rfl) (Nat.le_of_ble_eq_true rfl) (mo_way_7 c_5 c_15 c_26).symm
    · skip
      refine bh_bipush (v := 11) C dX0_routeTo_18 (by decide) ?_
      exact bh_zret C hQ dX0_routeTo_20 () (v := 11) (w := wh_hall cI cZ ad M) rfl rfl (Nat.le_of_ble_eq_true rfl) (Nat.le_of_ble_eq_true rfl) (by first | exact (mo_way_a c_5).symm | exact (mo_way_b c_15).symm)
theorem ct_X0_route_in : ∀ w ∈ wsX00, w ∈ wsX0_route := by decide +kernel
set_option maxRecDepth 100000 in
set_option maxHeartbeats 4000000 in
theorem ct_X0_route (l : Launch) (D : va_G) (cI cZ cL : ClassId) (ad : Nat → Nat) {K T : Nat} (M : MT) (k : Nat) (hI : MI K T M) (hk : k < 48) (hsc2 : mq_sc M < 2048) : bh_Mv l D (wh_tys cI cZ cL) yX0_route wsX0_route ({ frames := 3, cells := 0, slots := 0, locals := 63 } : Room) [.ref (ad 0), .int (nI k)] (wh_hall cI cZ ad M) (fun (_ : Unit) => True) (fun _ => wh_hall cI cZ ad (mo_route M k)) 0 0 := by
  refine bh_ofv (cc := cX0_route) (maxL := 3) (by decide +kernel) rfl (Nat.le_of_ble_eq_true rfl) ?_
  intro p e s m args below meth c A Q _ C hQ
  refine bh_eqlv (lv' := [(0, .ref (ad 0)), (1, .int (nI k))]) rfl ?_
  have hfc := MI_fc hI; have hbc := MI_bc hI; have hsc := MI_sc hI; have hnow := MI_now2 hI
  refine bh_aload_n C dX0_route_0 rfl 0 rfl ?_
  refine bh_aload_n C dX0_route_1 rfl 0 rfl ?_
  refine bh_get C ct_X0_route_in 0 rfl rfl 6 (by decide) (by decide +kernel) rfl (v := .ref (ad 6)) rfl dX0_route_2 ?_
  refine bh_iload_n C dX0_route_5 rfl 1 rfl ?_
  refine bh_iald C 4 0 (f := (mq_bf M)) rfl rfl (i := (nI k)) (vp_in_nI (n := k) (by omega) (by decide)) (x := ((mq_bf M) k)) (congrArg (mq_bf M) (nI_clamp (n := k) (by omega))) dX0_route_6 ?_
  refine bh_calli_0 (As := [.int ((mq_bf M) k)]) C (ct_X0_routeTo l D cI cZ cL ad M ((mq_bf M) k) hI (MI_bf hI _)) (cwV 1 C.1.2.2.2.2 gX0_route_X0_routeTo rfl rfl rfl (by decide +kernel) ⟨Nat.le_of_ble_eq_true rfl, Nat.le_of_ble_eq_true rfl⟩) (ci := 0) rfl 0 rfl rfl rfl (Nat.le_of_ble_eq_true rfl) dX0_route_7 ⟨Nat.le_of_ble_eq_true rfl, Nat.le_of_ble_eq_true rfl⟩ (fun r_7 u_7 hp_7 => ?_)
  subst hp_7
  refine bh_istore_n (lv' := [(2, .int (mo_way M ((mq_bf M) k))), (0, .ref (ad 0)), (1, .int (nI k))]) C dX0_route_10 rfl (by decide) rfl ?_
  refine bh_iload_n C dX0_route_11 rfl 0 rfl ?_
  refine bh_bipush (v := 6) C dX0_route_12 (by decide) ?_
  refine bh_icmp_ne (tgt := 29) C dX0_route_14 (by decide) (fun c_14 => ?_) (fun c_14 => ?_)
  · skip
    refine bh_aload_n C dX0_route_29 rfl 1 rfl ?_
    refine bh_iload_n C dX0_route_30 rfl 2 rfl ?_
    refine bh_iload_n C dX0_route_31 rfl 0 rfl ?_
    refine bh_callv_0 (As := [.int (nI k), .int (mo_way M ((mq_bf M) k))]) C (ct_X0_bring l D cI cZ cL ad M k (mo_way M ((mq_bf M) k)) hk (mo_way_in _ _) (MI_pl hI _) hsc2) (cwV 2 C.1.2.2.2.2 gX0_route_X0_bring rfl rfl rfl (by decide +kernel) ⟨Nat.le_of_ble_eq_true rfl, Nat.le_of_ble_eq_true rfl⟩) (ci := 0) rfl 0 rfl rfl rfl (Nat.le_of_ble_eq_true rfl) dX0_route_32 ⟨Nat.le_of_ble_eq_true rfl, Nat.le_of_ble_eq_true rfl⟩ (fun u_32 hp_32 => ?_)
    exact bh_vret C hQ dX0_route_35 () (w := wh_hall cI cZ ad (mo_bring M k (mo_way M ((mq_bf M) k)))) (congrArg (wh_hall cI cZ ad) (show mo_route M k = mo_bring M k (mo_way M (mq_bf M k)) from by first | exact if_neg (fun z => c_14 z.1) | exact if_neg (fun z => c_25 z.2)).symm) (Nat.le_of_ble_eq_true rfl) (Nat.le_of_ble_eq_true rfl) trivial
  · skip
    refine bh_aload_n C dX0_route_17 rfl 1 rfl ?_
    refine bh_get C ct_X0_route_in 0 rfl rfl 9 (by decide) (by decide +kernel) rfl (v := .ref (ad 9)) rfl dX0_route_18 ?_
    refine bh_iload_n C dX0_route_21 rfl 2 rfl ?_
    refine bh_iald C 7 0 (f := (mq_pl M)) rfl rfl (i := (nI k)) (vp_in_nI (n := k) (by omega) (by decide)) (x := ((mq_pl M) k)) (congrArg (mq_pl M) (nI_clamp (n := k) (by omega))) dX0_route_22 ?_
    refine bh_bipush (v := 6) C dX0_route_23 (by decide) ?_
    refine bh_icmp_ne (tgt := 29) C dX0_route_25 (by decide) (fun c_25 => ?_) (fun c_25 => ?_)
    · skip
      refine bh_aload_n C dX0_route_29 rfl 1 rfl ?_
      refine bh_iload_n C dX0_route_30 rfl 2 rfl ?_
      refine bh_iload_n C dX0_route_31 rfl 0 rfl ?_
      refine bh_callv_0 (As := [.int (nI k), .int (mo_way M ((mq_bf M) k))]) C (ct_X0_bring l D cI cZ cL ad M k (mo_way M ((mq_bf M) k)) hk (mo_way_in _ _) (MI_pl hI _) hsc2) (cwV 2 C.1.2.2.2.2 gX0_route_X0_bring rfl rfl rfl (by decide +kernel) ⟨Nat.le_of_ble_eq_true rfl, Nat.le_of_ble_eq_true rfl⟩) (ci := 0) rfl 0 rfl rfl rfl (Nat.le_of_ble_eq_true rfl) dX0_route_32 ⟨Nat.le_of_ble_eq_true rfl, Nat.le_of_ble_eq_true rfl⟩ (fun u_32 hp_32 => ?_)
      exact bh_vret C hQ dX0_route_35 () (w := wh_hall cI cZ ad (mo_bring M k (mo_way M ((mq_bf M) k)))) (congrArg (wh_hall cI cZ ad) (show mo_route M k = mo_bring M k (mo_way M (mq_bf M k)) from by first | exact if_neg (fun z => c_14 z.1) | exact if_neg (fun z => c_25 z.2)).symm) (Nat.le_of_ble_eq_true rfl) (Nat.le_of_ble_eq_true rfl) trivial
    · skip
      exact bh_vret C hQ dX0_route_28 () (w := wh_hall cI cZ ad M) (congrArg (wh_hall cI cZ ad) (show mo_route M k = M from if_pos ⟨c_14, c_25⟩).symm) (Nat.le_of_ble_eq_true rfl) (Nat.le_of_ble_eq_true rfl) trivial
end
section
theorem ct_X0_firstToLeaveStore_in : ∀ w ∈ wsX00, w ∈ wsX0_firstToLeaveStore := by decide +kernel
set_option maxRecDepth 100000 in
set_option maxHeartbeats 4000000 in
theorem ct_X0_firstToLeaveStore (l : Launch) (D : va_G) (cI cZ cL : ClassId) (ad : Nat → Nat) {K T : Nat} (M : MT) (hI : MI K T M) : bh_Mi l D (wh_tys cI cZ cL) yX0_firstToLeaveStore wsX0_firstToLeaveStore ({ frames := 1, cells := 0, slots := 0, locals := 21 } : Room) [.ref (ad 0)] (wh_hall cI cZ ad M) (fun r (_ : Unit) => r = mo_first M (mq_bc M)) (fun _ => wh_hall cI cZ ad M) 0 0 := by
  refine bh_ofi (cc := cX0_firstToLeaveStore) (maxL := 3) (by decide +kernel) rfl (Nat.le_of_ble_eq_true rfl) ?_
  intro p e s m args below meth c A Q _ C hQ
  refine bh_eqlv (lv' := [(0, .ref (ad 0))]) rfl ?_
  have hfc := MI_fc hI; have hbc := MI_bc hI; have hsc := MI_sc hI; have hnow := MI_now2 hI
  have hat5 := mo_at_le M 5
  refine bh_aload_n C dX0_firstToLeaveStore_0 rfl 0 rfl ?_
  refine bh_get C ct_X0_firstToLeaveStore_in 0 rfl rfl 12 (by decide) (by decide +kernel) rfl (v := .ref (ad 12)) rfl dX0_firstToLeaveStore_1 ?_
  refine bh_iconst (v := 5) C dX0_firstToLeaveStore_4 (by decide) ?_
  refine bh_iald C 10 0 (f := (mq_at M)) rfl rfl (i := 5) (vp_in_nI (n := 5) (by decide) (by decide)) (x := (nI (mo_at M 5))) (MI_at5 hI) dX0_firstToLeaveStore_5 ?_
  refine bh_if_ne (tgt := 11) C dX0_firstToLeaveStore_6 (by decide) (fun c_6 => ?_) (fun c_6 => ?_)
  · skip
    refine bh_iconst (v := (-1)) C dX0_firstToLeaveStore_11 (by decide) ?_
    refine bh_istore_n (lv' := [(1, .int (-1)), (0, .ref (ad 0))]) C dX0_firstToLeaveStore_12 rfl (by decide) rfl ?_
    refine bh_iconst (v := 0) C dX0_firstToLeaveStore_13 (by decide) ?_
    refine bh_istore_n (lv' := [(2, .int 0), (1, .int (-1)), (0, .ref (ad 0))]) C dX0_firstToLeaveStore_14 rfl (by decide) rfl ?_
    have loop : ∀ (n : Nat) (k : Nat), mq_bc M + 1 ≤ k + n → k ≤ mq_bc M → bh_W p l e ({ frames := 1, cells := 0, slots := 0, locals := 21 } : Room) s m args below meth c 3 D A 0 0 Q (wh_hall cI cZ ad M) ([(2, .int (nI k)), (1, .int (mo_first M k)), (0, .ref (ad 0))]) 15 [] := by
      intro n
      induction n with
      | zero => intro k h1 h2; exact absurd h1 (by omega)
      | succ n ih =>
        intro k h1 h2
        refine bh_iload_n C dX0_firstToLeaveStore_15 rfl 0 rfl ?_
        refine bh_aload_n C dX0_firstToLeaveStore_16 rfl 2 rfl ?_
        refine bh_get C ct_X0_firstToLeaveStore_in 0 rfl rfl 5 (by decide) (by decide +kernel) rfl (v := .int (nI (mq_bc M))) rfl dX0_firstToLeaveStore_17 ?_
        refine bh_icmp_ge (tgt := 74) C dX0_firstToLeaveStore_20 (by decide) (fun c_20 => ?_) (fun c_20 => ?_)
        · skip
          have c_20 := bh_le (by omega) (by omega) c_20
          have hkb : k = mq_bc M := by omega
          refine bh_iload_n C dX0_firstToLeaveStore_74 rfl 1 rfl ?_
          exact bh_zret C hQ dX0_firstToLeaveStore_75 () (v := (mo_first M k)) (w := wh_hall cI cZ ad M) rfl rfl (Nat.le_of_ble_eq_true rfl) (Nat.le_of_ble_eq_true rfl) (by rw [hkb])
        · skip
          have c_20 := bh_nle2 (by omega) (by omega) c_20
          refine bh_aload_n C dX0_firstToLeaveStore_23 rfl 2 rfl ?_
          refine bh_get C ct_X0_firstToLeaveStore_in 0 rfl rfl 9 (by decide) (by decide +kernel) rfl (v := .ref (ad 9)) rfl dX0_firstToLeaveStore_24 ?_
          refine bh_iload_n C dX0_firstToLeaveStore_27 rfl 0 rfl ?_
          refine bh_iald C 7 0 (f := (mq_pl M)) rfl rfl (i := (nI k)) (vp_in_nI (n := k) (by omega) (by decide)) (x := ((mq_pl M) k)) (congrArg (mq_pl M) (nI_clamp (n := k) (by omega))) dX0_firstToLeaveStore_28 ?_
          refine bh_iconst (v := 5) C dX0_firstToLeaveStore_29 (by decide) ?_
          refine bh_icmp_ne (tgt := 68) C dX0_firstToLeaveStore_30 (by decide) (fun c_30 => ?_) (fun c_30 => ?_)
          · skip
            refine bh_iinc (v := (nI (k + 1))) (lv' := [(2, .int (nI (k + 1))), (1, .int (mo_first M k)), (0, .ref (ad 0))]) C dX0_firstToLeaveStore_68 (k := 0) rfl (nI_1 _) (by decide) rfl ?_
            refine bh_goto (tgt := 15) C dX0_firstToLeaveStore_71 (by decide) ?_
            refine bh_eqlv (lv' := [(2, .int (nI (k + 1))), (1, .int (mo_first M (k + 1))), (0, .ref (ad 0))]) (by rw [(show mo_first M (k + 1) = mo_first M k from if_neg (by first | exact fun z => c_30 z.1.1 | exact fun z => c_43 z.1.2 | exact fun z => z.2.elim c_48 (fun q => absurd c_63 (Int32.not_le.mpr q))))]) ?_
            exact bh_lv [0, 1, 2] rfl (ih (k + 1) (by omega) (by omega))
          · skip
            refine bh_aload_n C dX0_firstToLeaveStore_33 rfl 2 rfl ?_
            refine bh_aload_n C dX0_firstToLeaveStore_34 rfl 2 rfl ?_
            refine bh_get C ct_X0_firstToLeaveStore_in 0 rfl rfl 6 (by decide) (by decide +kernel) rfl (v := .ref (ad 6)) rfl dX0_firstToLeaveStore_35 ?_
            refine bh_iload_n C dX0_firstToLeaveStore_38 rfl 0 rfl ?_
            refine bh_iald C 4 0 (f := (mq_bf M)) rfl rfl (i := (nI k)) (vp_in_nI (n := k) (by omega) (by decide)) (x := ((mq_bf M) k)) (congrArg (mq_bf M) (nI_clamp (n := k) (by omega))) dX0_firstToLeaveStore_39 ?_
            refine bh_calli_0 (As := [.int ((mq_bf M) k)]) C (ct_X0_hasOpened l D cI cZ cL ad M ((mq_bf M) k) (MI_bf hI _)) (cwV 1 C.1.2.2.2.2 gX0_firstToLeaveStore_X0_hasOpened rfl rfl rfl (by decide +kernel) ⟨Nat.le_of_ble_eq_true rfl, Nat.le_of_ble_eq_true rfl⟩) (ci := 0) rfl 0 rfl rfl rfl (Nat.le_of_ble_eq_true rfl) dX0_firstToLeaveStore_40 ⟨Nat.le_of_ble_eq_true rfl, Nat.le_of_ble_eq_true rfl⟩ (fun r_40 u_40 hp_40 => ?_)
            subst hp_40
            refine bh_if_eq (tgt := 68) C dX0_firstToLeaveStore_43 (by decide) (fun c_43 => ?_) (fun c_43 => ?_)
            · skip
              replace c_43 := bh_eq0 c_43
              refine bh_iinc (v := (nI (k + 1))) (lv' := [(2, .int (nI (k + 1))), (1, .int (mo_first M k)), (0, .ref (ad 0))]) C dX0_firstToLeaveStore_68 (k := 0) rfl (nI_1 _) (by decide) rfl ?_
              refine bh_goto (tgt := 15) C dX0_firstToLeaveStore_71 (by decide) ?_
              refine bh_eqlv (lv' := [(2, .int (nI (k + 1))), (1, .int (mo_first M (k + 1))), (0, .ref (ad 0))]) (by rw [(show mo_first M (k + 1) = mo_first M k from if_neg (by first | exact fun z => c_30 z.1.1 | exact fun z => c_43 z.1.2 | exact fun z => z.2.elim c_48 (fun q => absurd c_63 (Int32.not_le.mpr q))))]) ?_
              exact bh_lv [0, 1, 2] rfl (ih (k + 1) (by omega) (by omega))
            · skip
              replace c_43 := bh_ne0 c_43
              refine bh_iload_n C dX0_firstToLeaveStore_46 rfl 1 rfl ?_
              refine bh_iconst (v := (-1)) C dX0_firstToLeaveStore_47 (by decide) ?_
              refine bh_icmp_eq (tgt := 66) C dX0_firstToLeaveStore_48 (by decide) (fun c_48 => ?_) (fun c_48 => ?_)
              · skip
                refine bh_iload_n C dX0_firstToLeaveStore_66 rfl 0 rfl ?_
                refine bh_istore_n (lv' := [(1, .int (nI k)), (2, .int (nI k)), (0, .ref (ad 0))]) C dX0_firstToLeaveStore_67 rfl (by decide) rfl ?_
                refine bh_iinc (v := (nI (k + 1))) (lv' := [(2, .int (nI (k + 1))), (1, .int (nI k)), (0, .ref (ad 0))]) C dX0_firstToLeaveStore_68 (k := 1) rfl (nI_1 _) (by decide) rfl ?_
                refine bh_goto (tgt := 15) C dX0_firstToLeaveStore_71 (by decide) ?_
                refine bh_eqlv (lv' := [(2, .int (nI (k + 1))), (1, .int (mo_first M (k + 1))), (0, .ref (ad 0))]) (by rw [(show mo_first M (k + 1) = nI k from if_pos ⟨⟨c_30, c_43⟩, by first | exact Or.inl c_48 | exact Or.inr (bh_nle3 c_63)⟩)]) ?_
                exact bh_lv [0, 1, 2] rfl (ih (k + 1) (by omega) (by omega))
              · skip
                refine bh_aload_n C dX0_firstToLeaveStore_51 rfl 2 rfl ?_
                refine bh_get C ct_X0_firstToLeaveStore_in 0 rfl rfl 10 (by decide) (by decide +kernel) rfl (v := .ref (ad 10)) rfl dX0_firstToLeaveStore_52 ?_
                refine bh_iload_n C dX0_firstToLeaveStore_55 rfl 0 rfl ?_
                refine bh_iald C 8 0 (f := (mq_ls M)) rfl rfl (i := (nI k)) (vp_in_nI (n := k) (by omega) (by decide)) (x := ((mq_ls M) k)) (congrArg (mq_ls M) (nI_clamp (n := k) (by omega))) dX0_firstToLeaveStore_56 ?_
                refine bh_aload_n C dX0_firstToLeaveStore_57 rfl 2 rfl ?_
                refine bh_get C ct_X0_firstToLeaveStore_in 0 rfl rfl 10 (by decide) (by decide +kernel) rfl (v := .ref (ad 10)) rfl dX0_firstToLeaveStore_58 ?_
                refine bh_iload_n C dX0_firstToLeaveStore_61 rfl 1 rfl ?_
                refine bh_iald C 8 0 (f := (mq_ls M)) rfl rfl (i := (mo_first M k)) (mo_first_in M k c_48 (by omega)) (x := ((mq_ls M) (mo_first M k).toNatClampNeg)) rfl dX0_firstToLeaveStore_62 ?_
                refine bh_icmp_ge (tgt := 68) C dX0_firstToLeaveStore_63 (by decide) (fun c_63 => ?_) (fun c_63 => ?_)
                · skip
                  refine bh_iinc (v := (nI (k + 1))) (lv' := [(2, .int (nI (k + 1))), (1, .int (mo_first M k)), (0, .ref (ad 0))]) C dX0_firstToLeaveStore_68 (k := 0) rfl (nI_1 _) (by decide) rfl ?_
                  refine bh_goto (tgt := 15) C dX0_firstToLeaveStore_71 (by decide) ?_
                  refine bh_eqlv (lv' := [(2, .int (nI (k + 1))), (1, .int (mo_first M (k + 1))), (0, .ref (ad 0))]) (by rw [(show mo_first M (k + 1) = mo_first M k from if_neg (by first | exact fun z => c_30 z.1.1 | exact fun z => c_43 z.1.2 | exact fun z => z.2.elim c_48 (fun q => absurd c_63 (Int32.not_le.mpr q))))]) ?_
                  exact bh_lv [0, 1, 2] rfl (ih (k + 1) (by omega) (by omega))
                · skip
                  refine bh_iload_n C dX0_firstToLeaveStore_66 rfl 0 rfl ?_
                  refine bh_istore_n (lv' := [(1, .int (nI k)), (2, .int (nI k)), (0, .ref (ad 0))]) C dX0_firstToLeaveStore_67 rfl (by decide) rfl ?_
                  refine bh_iinc (v := (nI (k + 1))) (lv' := [(2, .int (nI (k + 1))), (1, .int (nI k)), (0, .ref (ad 0))]) C dX0_firstToLeaveStore_68 (k := 1) rfl (nI_1 _) (by decide) rfl ?_
                  refine bh_goto (tgt := 15) C dX0_firstToLeaveStore_71 (by decide) ?_
                  refine bh_eqlv (lv' := [(2, .int (nI (k + 1))), (1, .int (mo_first M (k + 1))), (0, .ref (ad 0))]) (by rw [(show mo_first M (k + 1) = nI k from if_pos ⟨⟨c_30, c_43⟩, by first | exact Or.inl c_48 | exact Or.inr (bh_nle3 c_63)⟩)]) ?_
                  exact bh_lv [0, 1, 2] rfl (ih (k + 1) (by omega) (by omega))
    exact bh_lv [0, 1, 2] rfl (loop (mq_bc M + 1) 0 (by omega) (by omega))
  · skip
    refine bh_iconst (v := (-1)) C dX0_firstToLeaveStore_9 (by decide) ?_
    exact bh_zret C hQ dX0_firstToLeaveStore_10 () (v := (-1)) (w := wh_hall cI cZ ad M) rfl rfl (Nat.le_of_ble_eq_true rfl) (Nat.le_of_ble_eq_true rfl) (mo_first_none hI (bh_nI0 (by omega) c_6)).symm
set_option maxRecDepth 100000 in
set_option maxHeartbeats 4000000 in
theorem ct_X0_emptyStore (l : Launch) (D : va_G) (cI cZ cL : ClassId) (ad : Nat → Nat) {K T : Nat} (M : MT) (hI : MI K T M) : bh_Mv l D (wh_tys cI cZ cL) yX0_emptyStore wsX0_emptyStore ({ frames := 2, cells := 0, slots := 0, locals := 44 } : Room) [.ref (ad 0)] (wh_hall cI cZ ad M) (fun (_ : Unit) => True) (fun _ => wh_hall cI cZ ad (mo_empt M)) 0 0 := by
  refine bh_ofv (cc := cX0_emptyStore) (maxL := 3) (by decide +kernel) rfl (Nat.le_of_ble_eq_true rfl) ?_
  intro p e s m args below meth c A Q _ C hQ
  refine bh_eqlv (lv' := [(0, .ref (ad 0))]) rfl ?_
  have hfc := MI_fc hI; have hbc := MI_bc hI; have hsc := MI_sc hI; have hnow := MI_now2 hI
  refine bh_iconst (v := 0) C dX0_emptyStore_0 (by decide) ?_
  refine bh_istore_n (lv' := [(1, .int 0), (0, .ref (ad 0))]) C dX0_emptyStore_1 rfl (by decide) rfl ?_
  have hI0 := hI
  refine bh_iload_n C dX0_emptyStore_2 rfl 0 rfl ?_
  refine bh_iconst (v := 3) C dX0_emptyStore_3 (by decide) ?_
  refine bh_icmp_ge (tgt := 31) C dX0_emptyStore_4 (by decide) (fun c_4 => absurd c_4 (by decide)) (fun c_4 => ?_)
  refine bh_aload_n C dX0_emptyStore_7 rfl 1 rfl ?_
  refine bh_calli_0 (As := []) C (ct_X0_firstToLeaveStore l D cI cZ cL ad M hI0) (cwV 0 C.1.2.2.2.2 gX0_emptyStore_X0_firstToLeaveStore rfl rfl rfl (by decide +kernel) ⟨Nat.le_of_ble_eq_true rfl, Nat.le_of_ble_eq_true rfl⟩) (ci := 0) rfl 0 rfl rfl rfl (Nat.le_of_ble_eq_true rfl) dX0_emptyStore_8 ⟨Nat.le_of_ble_eq_true rfl, Nat.le_of_ble_eq_true rfl⟩ (fun r_8 u_8 hp_8 => ?_)
  subst hp_8
  rcases mo_first_or M (mq_bc M) with q_0 | ⟨j_0, hj_0, q_0, -⟩
  · refine bh_topi q_0 ?_
    refine bh_istore_n (lv' := [(2, .int (-1)), (1, .int 0), (0, .ref (ad 0))]) C dX0_emptyStore_11 rfl (by decide) rfl ?_
    refine bh_iload_n C dX0_emptyStore_12 rfl 0 rfl ?_
    refine bh_iconst (v := (-1)) C dX0_emptyStore_13 (by decide) ?_
    refine bh_icmp_ne (tgt := 18) C dX0_emptyStore_14 (by decide) (fun c_14 => absurd c_14 (by decide)) (fun c_14 => ?_)
    exact bh_vret C hQ dX0_emptyStore_17 () (w := wh_hall cI cZ ad M) (by rw [mo_empt, mo_emp_none q_0, mo_emp_none q_0, mo_emp_none q_0]) (Nat.le_of_ble_eq_true rfl) (Nat.le_of_ble_eq_true rfl) trivial
  · refine bh_topi q_0 ?_
    refine bh_istore_n (lv' := [(2, .int (nI j_0)), (1, .int 0), (0, .ref (ad 0))]) C dX0_emptyStore_11 rfl (by decide) rfl ?_
    have hb_0 := MI_bc hI0
    refine bh_iload_n C dX0_emptyStore_12 rfl 0 rfl ?_
    refine bh_iconst (v := (-1)) C dX0_emptyStore_13 (by decide) ?_
    refine bh_icmp_ne (tgt := 18) C dX0_emptyStore_14 (by decide) (fun c_14 => ?_) (fun c_14 => absurd c_14 (bh_nm1 (by omega)))
    refine bh_aload_n C dX0_emptyStore_18 rfl 2 rfl ?_
    refine bh_iload_n C dX0_emptyStore_19 rfl 0 rfl ?_
    refine bh_bipush (v := 7) C dX0_emptyStore_20 (by decide) ?_
    refine bh_callv_0 (As := [.int (nI j_0), .int 7]) C (ct_X0_bring l D cI cZ cL ad M j_0 7 (by omega) (vp_in_nI (n := 7) (by decide) (by decide)) (MI_pl hI0 _) (MI_room hI0 (by omega) (mo_first_phi q_0 (by omega) (by omega)))) (cwV 2 C.1.2.2.2.2 gX0_emptyStore_X0_bring rfl rfl rfl (by decide +kernel) ⟨Nat.le_of_ble_eq_true rfl, Nat.le_of_ble_eq_true rfl⟩) (ci := 0) rfl 0 rfl rfl rfl (Nat.le_of_ble_eq_true rfl) dX0_emptyStore_22 ⟨Nat.le_of_ble_eq_true rfl, Nat.le_of_ble_eq_true rfl⟩ (fun u_22 hp_22 => ?_)
    refine bh_eqw (w' := wh_hall cI cZ ad (mo_emp M)) (by rw [mo_emp_some (by omega) q_0]) ?_
    refine bh_iinc (v := (0 + 1)) (lv' := [(1, .int (0 + 1)), (2, .int (nI j_0)), (0, .ref (ad 0))]) C dX0_emptyStore_25 (k := 1) rfl rfl (by decide) rfl ?_
    refine bh_goto (tgt := 2) C dX0_emptyStore_28 (by decide) ?_
    have hI1 := MI_emp hI0
    refine bh_lv (lv' := [(1, .int 1), (0, .ref (ad 0))]) [0, 2] rfl ?_
    refine bh_iload_n C dX0_emptyStore_2 rfl 0 rfl ?_
    refine bh_iconst (v := 3) C dX0_emptyStore_3 (by decide) ?_
    refine bh_icmp_ge (tgt := 31) C dX0_emptyStore_4 (by decide) (fun c_4 => absurd c_4 (by decide)) (fun c_4 => ?_)
    refine bh_aload_n C dX0_emptyStore_7 rfl 1 rfl ?_
    refine bh_calli_0 (As := []) C (ct_X0_firstToLeaveStore l D cI cZ cL ad (mo_emp M) hI1) (cwV 0 C.1.2.2.2.2 gX0_emptyStore_X0_firstToLeaveStore rfl rfl rfl (by decide +kernel) ⟨Nat.le_of_ble_eq_true rfl, Nat.le_of_ble_eq_true rfl⟩) (ci := 0) rfl 0 rfl rfl rfl (Nat.le_of_ble_eq_true rfl) dX0_emptyStore_8 ⟨Nat.le_of_ble_eq_true rfl, Nat.le_of_ble_eq_true rfl⟩ (fun r_8 u_8 hp_8 => ?_)
    subst hp_8
    rcases mo_first_or (mo_emp M) (mq_bc (mo_emp M)) with q_1 | ⟨j_1, hj_1, q_1, -⟩
    · refine bh_topi q_1 ?_
      refine bh_istore_n (lv' := [(2, .int (-1)), (1, .int 1), (0, .ref (ad 0))]) C dX0_emptyStore_11 rfl (by decide) rfl ?_
      refine bh_iload_n C dX0_emptyStore_12 rfl 0 rfl ?_
      refine bh_iconst (v := (-1)) C dX0_emptyStore_13 (by decide) ?_
      refine bh_icmp_ne (tgt := 18) C dX0_emptyStore_14 (by decide) (fun c_14 => absurd c_14 (by decide)) (fun c_14 => ?_)
      exact bh_vret C hQ dX0_emptyStore_17 () (w := wh_hall cI cZ ad (mo_emp M)) (by rw [mo_empt, mo_emp_none q_1, mo_emp_none q_1]) (Nat.le_of_ble_eq_true rfl) (Nat.le_of_ble_eq_true rfl) trivial
    · refine bh_topi q_1 ?_
      refine bh_istore_n (lv' := [(2, .int (nI j_1)), (1, .int 1), (0, .ref (ad 0))]) C dX0_emptyStore_11 rfl (by decide) rfl ?_
      have hb_1 := MI_bc hI1
      refine bh_iload_n C dX0_emptyStore_12 rfl 0 rfl ?_
      refine bh_iconst (v := (-1)) C dX0_emptyStore_13 (by decide) ?_
      refine bh_icmp_ne (tgt := 18) C dX0_emptyStore_14 (by decide) (fun c_14 => ?_) (fun c_14 => absurd c_14 (bh_nm1 (by omega)))
      refine bh_aload_n C dX0_emptyStore_18 rfl 2 rfl ?_
      refine bh_iload_n C dX0_emptyStore_19 rfl 0 rfl ?_
      refine bh_bipush (v := 7) C dX0_emptyStore_20 (by decide) ?_
      refine bh_callv_0 (As := [.int (nI j_1), .int 7]) C (ct_X0_bring l D cI cZ cL ad (mo_emp M) j_1 7 (by omega) (vp_in_nI (n := 7) (by decide) (by decide)) (MI_pl hI1 _) (MI_room hI1 (by omega) (mo_first_phi q_1 (by omega) (by omega)))) (cwV 2 C.1.2.2.2.2 gX0_emptyStore_X0_bring rfl rfl rfl (by decide +kernel) ⟨Nat.le_of_ble_eq_true rfl, Nat.le_of_ble_eq_true rfl⟩) (ci := 0) rfl 0 rfl rfl rfl (Nat.le_of_ble_eq_true rfl) dX0_emptyStore_22 ⟨Nat.le_of_ble_eq_true rfl, Nat.le_of_ble_eq_true rfl⟩ (fun u_22 hp_22 => ?_)
      refine bh_eqw (w' := wh_hall cI cZ ad (mo_emp (mo_emp M))) (by rw [mo_emp_some (by omega) q_1]) ?_
      refine bh_iinc (v := (1 + 1)) (lv' := [(1, .int (1 + 1)), (2, .int (nI j_1)), (0, .ref (ad 0))]) C dX0_emptyStore_25 (k := 1) rfl rfl (by decide) rfl ?_
      refine bh_goto (tgt := 2) C dX0_emptyStore_28 (by decide) ?_
      have hI2 := MI_emp hI1
      refine bh_lv (lv' := [(1, .int 2), (0, .ref (ad 0))]) [0, 2] rfl ?_
      refine bh_iload_n C dX0_emptyStore_2 rfl 0 rfl ?_
      refine bh_iconst (v := 3) C dX0_emptyStore_3 (by decide) ?_
      refine bh_icmp_ge (tgt := 31) C dX0_emptyStore_4 (by decide) (fun c_4 => absurd c_4 (by decide)) (fun c_4 => ?_)
      refine bh_aload_n C dX0_emptyStore_7 rfl 1 rfl ?_
      refine bh_calli_0 (As := []) C (ct_X0_firstToLeaveStore l D cI cZ cL ad (mo_emp (mo_emp M)) hI2) (cwV 0 C.1.2.2.2.2 gX0_emptyStore_X0_firstToLeaveStore rfl rfl rfl (by decide +kernel) ⟨Nat.le_of_ble_eq_true rfl, Nat.le_of_ble_eq_true rfl⟩) (ci := 0) rfl 0 rfl rfl rfl (Nat.le_of_ble_eq_true rfl) dX0_emptyStore_8 ⟨Nat.le_of_ble_eq_true rfl, Nat.le_of_ble_eq_true rfl⟩ (fun r_8 u_8 hp_8 => ?_)
      subst hp_8
      rcases mo_first_or (mo_emp (mo_emp M)) (mq_bc (mo_emp (mo_emp M))) with q_2 | ⟨j_2, hj_2, q_2, -⟩
      · refine bh_topi q_2 ?_
        refine bh_istore_n (lv' := [(2, .int (-1)), (1, .int 2), (0, .ref (ad 0))]) C dX0_emptyStore_11 rfl (by decide) rfl ?_
        refine bh_iload_n C dX0_emptyStore_12 rfl 0 rfl ?_
        refine bh_iconst (v := (-1)) C dX0_emptyStore_13 (by decide) ?_
        refine bh_icmp_ne (tgt := 18) C dX0_emptyStore_14 (by decide) (fun c_14 => absurd c_14 (by decide)) (fun c_14 => ?_)
        exact bh_vret C hQ dX0_emptyStore_17 () (w := wh_hall cI cZ ad (mo_emp (mo_emp M))) (by rw [mo_empt, mo_emp_none q_2]) (Nat.le_of_ble_eq_true rfl) (Nat.le_of_ble_eq_true rfl) trivial
      · refine bh_topi q_2 ?_
        refine bh_istore_n (lv' := [(2, .int (nI j_2)), (1, .int 2), (0, .ref (ad 0))]) C dX0_emptyStore_11 rfl (by decide) rfl ?_
        have hb_2 := MI_bc hI2
        refine bh_iload_n C dX0_emptyStore_12 rfl 0 rfl ?_
        refine bh_iconst (v := (-1)) C dX0_emptyStore_13 (by decide) ?_
        refine bh_icmp_ne (tgt := 18) C dX0_emptyStore_14 (by decide) (fun c_14 => ?_) (fun c_14 => absurd c_14 (bh_nm1 (by omega)))
        refine bh_aload_n C dX0_emptyStore_18 rfl 2 rfl ?_
        refine bh_iload_n C dX0_emptyStore_19 rfl 0 rfl ?_
        refine bh_bipush (v := 7) C dX0_emptyStore_20 (by decide) ?_
        refine bh_callv_0 (As := [.int (nI j_2), .int 7]) C (ct_X0_bring l D cI cZ cL ad (mo_emp (mo_emp M)) j_2 7 (by omega) (vp_in_nI (n := 7) (by decide) (by decide)) (MI_pl hI2 _) (MI_room hI2 (by omega) (mo_first_phi q_2 (by omega) (by omega)))) (cwV 2 C.1.2.2.2.2 gX0_emptyStore_X0_bring rfl rfl rfl (by decide +kernel) ⟨Nat.le_of_ble_eq_true rfl, Nat.le_of_ble_eq_true rfl⟩) (ci := 0) rfl 0 rfl rfl rfl (Nat.le_of_ble_eq_true rfl) dX0_emptyStore_22 ⟨Nat.le_of_ble_eq_true rfl, Nat.le_of_ble_eq_true rfl⟩ (fun u_22 hp_22 => ?_)
        refine bh_eqw (w' := wh_hall cI cZ ad (mo_emp (mo_emp (mo_emp M)))) (by rw [mo_emp_some (by omega) q_2]) ?_
        refine bh_iinc (v := (2 + 1)) (lv' := [(1, .int (2 + 1)), (2, .int (nI j_2)), (0, .ref (ad 0))]) C dX0_emptyStore_25 (k := 1) rfl rfl (by decide) rfl ?_
        refine bh_goto (tgt := 2) C dX0_emptyStore_28 (by decide) ?_
        have hI3 := MI_emp hI2
        refine bh_lv (lv' := [(1, .int 3), (0, .ref (ad 0))]) [0, 2] rfl ?_
        refine bh_iload_n C dX0_emptyStore_2 rfl 0 rfl ?_
        refine bh_iconst (v := 3) C dX0_emptyStore_3 (by decide) ?_
        refine bh_icmp_ge (tgt := 31) C dX0_emptyStore_4 (by decide) (fun c_4 => ?_) (fun c_4 => absurd c_4 (by decide))
        exact bh_vret C hQ dX0_emptyStore_31 () (w := wh_hall cI cZ ad (mo_emp (mo_emp (mo_emp M)))) rfl (Nat.le_of_ble_eq_true rfl) (Nat.le_of_ble_eq_true rfl) trivial
theorem ct_X0_routeLoop_in : ∀ w ∈ wsX00, w ∈ wsX0_routeLoop := by decide +kernel
set_option maxRecDepth 100000 in
set_option maxHeartbeats 4000000 in
theorem ct_X0_routeLoop (l : Launch) (D : va_G) (cI cZ cL : ClassId) (ad : Nat → Nat) {K T : Nat} (M : MT) (hI : MI K T M) : bh_Mv l D (wh_tys cI cZ cL) yX0_routeLoop wsX0_routeLoop ({ frames := 4, cells := 0, slots := 0, locals := 85 } : Room) [.ref (ad 0)] (wh_hall cI cZ ad M) (fun (_ : Unit) => True) (fun _ => wh_hall cI cZ ad (mo_loop M)) 0 0 := by
  refine bh_ofv (cc := cX0_routeLoop) (maxL := 2) (by decide +kernel) rfl (Nat.le_of_ble_eq_true rfl) ?_
  intro p e s m args below meth c A Q _ C hQ
  refine bh_eqlv (lv' := [(0, .ref (ad 0))]) rfl ?_
  have hfc := MI_fc hI; have hbc := MI_bc hI; have hsc := MI_sc hI; have hnow := MI_now2 hI
  have hat6 := mo_at_le M 6
  refine bh_aload_n C dX0_routeLoop_0 rfl 0 rfl ?_
  refine bh_get C ct_X0_routeLoop_in 0 rfl rfl 12 (by decide) (by decide +kernel) rfl (v := .ref (ad 12)) rfl dX0_routeLoop_1 ?_
  refine bh_bipush (v := 6) C dX0_routeLoop_4 (by decide) ?_
  refine bh_iald C 10 0 (f := (mq_at M)) rfl rfl (i := 6) (vp_in_nI (n := 6) (by decide) (by decide)) (x := (nI (mo_at M 6))) (MI_at6 hI) dX0_routeLoop_6 ?_
  refine bh_if_ne (tgt := 11) C dX0_routeLoop_7 (by decide) (fun c_7 => ?_) (fun c_7 => ?_)
  · skip
    refine bh_iconst (v := 0) C dX0_routeLoop_11 (by decide) ?_
    refine bh_istore_n (lv' := [(1, .int 0), (0, .ref (ad 0))]) C dX0_routeLoop_12 rfl (by decide) rfl ?_
    have loop : ∀ (n : Nat) (k : Nat), mq_bc M + 1 ≤ k + n → k ≤ mq_bc M → bh_W p l e ({ frames := 4, cells := 0, slots := 0, locals := 85 } : Room) s m args below meth c 2 D A 0 0 Q (wh_hall cI cZ ad (mo_it mo_loop1 M k)) ([(1, .int (nI k)), (0, .ref (ad 0))]) 13 [] := by
      intro n
      induction n with
      | zero => intro k h1 h2; exact absurd h1 (by omega)
      | succ n ih =>
        intro k h1 h2
        have hI9 := MI_loop hI h2
        refine bh_iload_n C dX0_routeLoop_13 rfl 0 rfl ?_
        refine bh_aload_n C dX0_routeLoop_14 rfl 1 rfl ?_
        refine bh_get C ct_X0_routeLoop_in 0 rfl rfl 5 (by decide) (by decide +kernel) rfl (v := .int (nI (mq_bc (mo_it mo_loop1 M k)))) rfl dX0_routeLoop_15 ?_
        refine bh_icmp_ge (tgt := 43) C dX0_routeLoop_18 (by decide) (fun c_18 => ?_) (fun c_18 => ?_)
        · skip
          rw [bc_loop] at c_18
          have c_18 := bh_le (by omega) (by omega) c_18
          have hkb : k = mq_bc M := by omega
          exact bh_vret C hQ dX0_routeLoop_43 () (w := wh_hall cI cZ ad (mo_it mo_loop1 M k)) (by rw [hkb]; rfl) (Nat.le_of_ble_eq_true rfl) (Nat.le_of_ble_eq_true rfl) trivial
        · skip
          rw [bc_loop] at c_18
          have c_18 := bh_nle2 (by omega) (by omega) c_18
          refine bh_aload_n C dX0_routeLoop_21 rfl 1 rfl ?_
          refine bh_get C ct_X0_routeLoop_in 0 rfl rfl 9 (by decide) (by decide +kernel) rfl (v := .ref (ad 9)) rfl dX0_routeLoop_22 ?_
          refine bh_iload_n C dX0_routeLoop_25 rfl 0 rfl ?_
          refine bh_iald C 7 0 (f := (mq_pl (mo_it mo_loop1 M k))) rfl rfl (i := (nI k)) (vp_in_nI (n := k) (by omega) (by decide)) (x := ((mq_pl (mo_it mo_loop1 M k)) k)) (congrArg (mq_pl (mo_it mo_loop1 M k)) (nI_clamp (n := k) (by omega))) dX0_routeLoop_26 ?_
          refine bh_bipush (v := 6) C dX0_routeLoop_27 (by decide) ?_
          refine bh_icmp_ne (tgt := 37) C dX0_routeLoop_29 (by decide) (fun c_29 => ?_) (fun c_29 => ?_)
          · skip
            refine bh_iinc (v := (nI (k + 1))) (lv' := [(1, .int (nI (k + 1))), (0, .ref (ad 0))]) C dX0_routeLoop_37 (k := 0) rfl (nI_1 _) (by decide) rfl ?_
            refine bh_goto (tgt := 13) C dX0_routeLoop_40 (by decide) ?_
            refine bh_eqw (w' := wh_hall cI cZ ad (mo_it mo_loop1 M (k + 1))) (by rw [mo_loop_f c_29]) ?_
            exact bh_lv [0, 1] rfl (ih (k + 1) (by omega) (by omega))
          · skip
            refine bh_aload_n C dX0_routeLoop_32 rfl 1 rfl ?_
            refine bh_iload_n C dX0_routeLoop_33 rfl 0 rfl ?_
            refine bh_callv_0 (As := [.int (nI k)]) C (ct_X0_route l D cI cZ cL ad (mo_it mo_loop1 M k) k hI9 (by omega) (MI_room hI9 (k := k) (by omega) (by rw [c_29]; decide))) (cwV 1 C.1.2.2.2.2 gX0_routeLoop_X0_route rfl rfl rfl (by decide +kernel) ⟨Nat.le_of_ble_eq_true rfl, Nat.le_of_ble_eq_true rfl⟩) (ci := 0) rfl 0 rfl rfl rfl (Nat.le_of_ble_eq_true rfl) dX0_routeLoop_34 ⟨Nat.le_of_ble_eq_true rfl, Nat.le_of_ble_eq_true rfl⟩ (fun u_34 hp_34 => ?_)
            refine bh_eqw (w' := wh_hall cI cZ ad (mo_it mo_loop1 M (k + 1))) (by rw [mo_loop_t c_29]) ?_
            refine bh_iinc (v := (nI (k + 1))) (lv' := [(1, .int (nI (k + 1))), (0, .ref (ad 0))]) C dX0_routeLoop_37 (k := 0) rfl (nI_1 _) (by decide) rfl ?_
            refine bh_goto (tgt := 13) C dX0_routeLoop_40 (by decide) ?_
            exact bh_lv [0, 1] rfl (ih (k + 1) (by omega) (by omega))
    exact bh_lv [0, 1] rfl (loop (mq_bc M + 1) 0 (by omega) (by omega))
  · skip
    exact bh_vret C hQ dX0_routeLoop_10 () (w := wh_hall cI cZ ad M) (by rw [mo_loop_none hI (bh_nI0 (by omega) c_7)]) (Nat.le_of_ble_eq_true rfl) (Nat.le_of_ble_eq_true rfl) trivial
theorem ct_X0_settle_in : ∀ w ∈ wsX00, w ∈ wsX0_settle := by decide +kernel
set_option maxRecDepth 100000 in
set_option maxHeartbeats 4000000 in
theorem ct_X0_settle (l : Launch) (D : va_G) (cI cZ cL : ClassId) (ad : Nat → Nat) {K T : Nat} (M : MT) (k : Nat) (hI : MI K T M) (hk : k < 48) : bh_Mv l D (wh_tys cI cZ cL) yX0_settle wsX0_settle ({ frames := 2, cells := 0, slots := 0, locals := 44 } : Room) [.ref (ad 0), .int (nI k)] (wh_hall cI cZ ad M) (fun (_ : Unit) => True) (fun _ => wh_hall cI cZ ad (mo_settle M k)) 0 0 := by
  refine bh_ofv (cc := cX0_settle) (maxL := 3) (by decide +kernel) rfl (Nat.le_of_ble_eq_true rfl) ?_
  intro p e s m args below meth c A Q _ C hQ
  refine bh_eqlv (lv' := [(0, .ref (ad 0)), (1, .int (nI k))]) rfl ?_
  have hfc := MI_fc hI; have hbc := MI_bc hI; have hsc := MI_sc hI; have hnow := MI_now2 hI
  refine bh_aload_n C dX0_settle_0 rfl 0 rfl ?_
  refine bh_get C ct_X0_settle_in 0 rfl rfl 9 (by decide) (by decide +kernel) rfl (v := .ref (ad 9)) rfl dX0_settle_1 ?_
  refine bh_iload_n C dX0_settle_4 rfl 1 rfl ?_
  refine bh_iald C 7 0 (f := (mq_pl M)) rfl rfl (i := (nI k)) (vp_in_nI (n := k) (by omega) (by decide)) (x := ((mq_pl M) k)) (congrArg (mq_pl M) (nI_clamp (n := k) (by omega))) dX0_settle_5 ?_
  refine bh_istore_n (lv' := [(2, .int ((mq_pl M) k)), (0, .ref (ad 0)), (1, .int (nI k))]) C dX0_settle_6 rfl (by decide) rfl ?_
  refine bh_iload_n C dX0_settle_7 rfl 0 rfl ?_
  refine bh_bipush (v := 8) C dX0_settle_8 (by decide) ?_
  refine bh_icmp_ne (tgt := 36) C dX0_settle_10 (by decide) (fun c_10 => ?_) (fun c_10 => ?_)
  · skip
    refine bh_iload_n C dX0_settle_36 rfl 0 rfl ?_
    refine bh_iconst (v := 5) C dX0_settle_37 (by decide) ?_
    refine bh_icmp_eq (tgt := 53) C dX0_settle_38 (by decide) (fun c_38 => ?_) (fun c_38 => ?_)
    · skip
      refine bh_aload_n C dX0_settle_53 rfl 1 rfl ?_
      refine bh_iload_n C dX0_settle_54 rfl 2 rfl ?_
      refine bh_bipush (v := 11) C dX0_settle_55 (by decide) ?_
      refine bh_callv_0 (As := [.int (nI k), .int 11]) C (ct_X0_bring l D cI cZ cL ad M k 11 hk (vp_in_nI (n := 11) (by decide) (by decide)) (MI_pl hI _) (MI_room hI hk (by first | (rw [c_38]; decide) | (rw [c_44]; decide) | (rw [c_50]; decide)))) (cwV 2 C.1.2.2.2.2 gX0_settle_X0_bring rfl rfl rfl (by decide +kernel) ⟨Nat.le_of_ble_eq_true rfl, Nat.le_of_ble_eq_true rfl⟩) (ci := 0) rfl 0 rfl rfl rfl (Nat.le_of_ble_eq_true rfl) dX0_settle_57 ⟨Nat.le_of_ble_eq_true rfl, Nat.le_of_ble_eq_true rfl⟩ (fun u_57 hp_57 => ?_)
      exact bh_vret C hQ dX0_settle_60 () (w := wh_hall cI cZ ad (mo_bring M k 11)) (congrArg (wh_hall cI cZ ad) (by first | exact (mo_settle_9 c_10 c_20).symm | exact (mo_settle_10 c_10 c_20).symm | exact (mo_settle_11 c_10 (Or.inl c_38)).symm | exact (mo_settle_11 c_10 (Or.inr (Or.inl c_44))).symm | exact (mo_settle_11 c_10 (Or.inr (Or.inr c_50))).symm | exact (mo_settle_0 c_10 (fun z => z.elim c_38 (fun z => z.elim c_44 c_50))).symm)) (Nat.le_of_ble_eq_true rfl) (Nat.le_of_ble_eq_true rfl) trivial
    · skip
      refine bh_iload_n C dX0_settle_41 rfl 0 rfl ?_
      refine bh_bipush (v := 6) C dX0_settle_42 (by decide) ?_
      refine bh_icmp_eq (tgt := 53) C dX0_settle_44 (by decide) (fun c_44 => ?_) (fun c_44 => ?_)
      · skip
        refine bh_aload_n C dX0_settle_53 rfl 1 rfl ?_
        refine bh_iload_n C dX0_settle_54 rfl 2 rfl ?_
        refine bh_bipush (v := 11) C dX0_settle_55 (by decide) ?_
        refine bh_callv_0 (As := [.int (nI k), .int 11]) C (ct_X0_bring l D cI cZ cL ad M k 11 hk (vp_in_nI (n := 11) (by decide) (by decide)) (MI_pl hI _) (MI_room hI hk (by first | (rw [c_38]; decide) | (rw [c_44]; decide) | (rw [c_50]; decide)))) (cwV 2 C.1.2.2.2.2 gX0_settle_X0_bring rfl rfl rfl (by decide +kernel) ⟨Nat.le_of_ble_eq_true rfl, Nat.le_of_ble_eq_true rfl⟩) (ci := 0) rfl 0 rfl rfl rfl (Nat.le_of_ble_eq_true rfl) dX0_settle_57 ⟨Nat.le_of_ble_eq_true rfl, Nat.le_of_ble_eq_true rfl⟩ (fun u_57 hp_57 => ?_)
        exact bh_vret C hQ dX0_settle_60 () (w := wh_hall cI cZ ad (mo_bring M k 11)) (congrArg (wh_hall cI cZ ad) (by first | exact (mo_settle_9 c_10 c_20).symm | exact (mo_settle_10 c_10 c_20).symm | exact (mo_settle_11 c_10 (Or.inl c_38)).symm | exact (mo_settle_11 c_10 (Or.inr (Or.inl c_44))).symm | exact (mo_settle_11 c_10 (Or.inr (Or.inr c_50))).symm | exact (mo_settle_0 c_10 (fun z => z.elim c_38 (fun z => z.elim c_44 c_50))).symm)) (Nat.le_of_ble_eq_true rfl) (Nat.le_of_ble_eq_true rfl) trivial
      · skip
        refine bh_iload_n C dX0_settle_47 rfl 0 rfl ?_
        refine bh_bipush (v := 7) C dX0_settle_48 (by decide) ?_
        refine bh_icmp_ne (tgt := 60) C dX0_settle_50 (by decide) (fun c_50 => ?_) (fun c_50 => ?_)
        · skip
          exact bh_vret C hQ dX0_settle_60 () (w := wh_hall cI cZ ad M) (congrArg (wh_hall cI cZ ad) (by first | exact (mo_settle_9 c_10 c_20).symm | exact (mo_settle_10 c_10 c_20).symm | exact (mo_settle_11 c_10 (Or.inl c_38)).symm | exact (mo_settle_11 c_10 (Or.inr (Or.inl c_44))).symm | exact (mo_settle_11 c_10 (Or.inr (Or.inr c_50))).symm | exact (mo_settle_0 c_10 (fun z => z.elim c_38 (fun z => z.elim c_44 c_50))).symm)) (Nat.le_of_ble_eq_true rfl) (Nat.le_of_ble_eq_true rfl) trivial
        · skip
          refine bh_aload_n C dX0_settle_53 rfl 1 rfl ?_
          refine bh_iload_n C dX0_settle_54 rfl 2 rfl ?_
          refine bh_bipush (v := 11) C dX0_settle_55 (by decide) ?_
          refine bh_callv_0 (As := [.int (nI k), .int 11]) C (ct_X0_bring l D cI cZ cL ad M k 11 hk (vp_in_nI (n := 11) (by decide) (by decide)) (MI_pl hI _) (MI_room hI hk (by first | (rw [c_38]; decide) | (rw [c_44]; decide) | (rw [c_50]; decide)))) (cwV 2 C.1.2.2.2.2 gX0_settle_X0_bring rfl rfl rfl (by decide +kernel) ⟨Nat.le_of_ble_eq_true rfl, Nat.le_of_ble_eq_true rfl⟩) (ci := 0) rfl 0 rfl rfl rfl (Nat.le_of_ble_eq_true rfl) dX0_settle_57 ⟨Nat.le_of_ble_eq_true rfl, Nat.le_of_ble_eq_true rfl⟩ (fun u_57 hp_57 => ?_)
          exact bh_vret C hQ dX0_settle_60 () (w := wh_hall cI cZ ad (mo_bring M k 11)) (congrArg (wh_hall cI cZ ad) (by first | exact (mo_settle_9 c_10 c_20).symm | exact (mo_settle_10 c_10 c_20).symm | exact (mo_settle_11 c_10 (Or.inl c_38)).symm | exact (mo_settle_11 c_10 (Or.inr (Or.inl c_44))).symm | exact (mo_settle_11 c_10 (Or.inr (Or.inr c_50))).symm | exact (mo_settle_0 c_10 (fun z => z.elim c_38 (fun z => z.elim c_44 c_50))).symm)) (Nat.le_of_ble_eq_true rfl) (Nat.le_of_ble_eq_true rfl) trivial
  · skip
    refine bh_aload_n C dX0_settle_13 rfl 1 rfl ?_
    refine bh_iload_n C dX0_settle_14 rfl 2 rfl ?_
    refine bh_aload_n C dX0_settle_15 rfl 1 rfl ?_
    refine bh_iload_n C dX0_settle_16 rfl 2 rfl ?_
    refine bh_calli_0 (As := [.int (nI k)]) C (ct_X0_mayFly l D cI cZ cL ad M k hI (by omega)) (cwV 1 C.1.2.2.2.2 gX0_settle_X0_mayFly rfl rfl rfl (by decide +kernel) ⟨Nat.le_of_ble_eq_true rfl, Nat.le_of_ble_eq_true rfl⟩) (ci := 0) rfl 0 rfl rfl rfl (Nat.le_of_ble_eq_true rfl) dX0_settle_17 ⟨Nat.le_of_ble_eq_true rfl, Nat.le_of_ble_eq_true rfl⟩ (fun r_17 u_17 hp_17 => ?_)
    subst hp_17
    refine bh_if_eq (tgt := 28) C dX0_settle_20 (by decide) (fun c_20 => ?_) (fun c_20 => ?_)
    · skip
      replace c_20 := bh_eq0 c_20
      have hq9 : vp_in (10 : Int32) 12 := (vp_in_nI (n := 10) (by decide) (by decide))
      refine bh_bipush (v := 10) C dX0_settle_28 (by decide) ?_
      refine bh_callv_0 (As := [.int (nI k), .int 10]) C (ct_X0_bring l D cI cZ cL ad M k 10 hk hq9 (MI_pl hI _) (MI_room hI hk (by rw [c_10]; decide))) (cwV 2 C.1.2.2.2.2 gX0_settle_X0_bring rfl rfl rfl (by decide +kernel) ⟨Nat.le_of_ble_eq_true rfl, Nat.le_of_ble_eq_true rfl⟩) (ci := 0) rfl 0 rfl rfl rfl (Nat.le_of_ble_eq_true rfl) dX0_settle_30 ⟨Nat.le_of_ble_eq_true rfl, Nat.le_of_ble_eq_true rfl⟩ (fun u_30 hp_30 => ?_)
      refine bh_goto (tgt := 60) C dX0_settle_33 (by decide) ?_
      exact bh_vret C hQ dX0_settle_60 () (w := wh_hall cI cZ ad (mo_bring M k 10)) (congrArg (wh_hall cI cZ ad) (by first | exact (mo_settle_9 c_10 c_20).symm | exact (mo_settle_10 c_10 c_20).symm | exact (mo_settle_11 c_10 (Or.inl c_38)).symm | exact (mo_settle_11 c_10 (Or.inr (Or.inl c_44))).symm | exact (mo_settle_11 c_10 (Or.inr (Or.inr c_50))).symm | exact (mo_settle_0 c_10 (fun z => z.elim c_38 (fun z => z.elim c_44 c_50))).symm)) (Nat.le_of_ble_eq_true rfl) (Nat.le_of_ble_eq_true rfl) trivial
    · skip
      replace c_20 := bh_ne0 c_20
      have hq9 : vp_in (9 : Int32) 12 := (vp_in_nI (n := 9) (by decide) (by decide))
      refine bh_bipush (v := 9) C dX0_settle_23 (by decide) ?_
      refine bh_goto (tgt := 30) C dX0_settle_25 (by decide) ?_
      refine bh_callv_0 (As := [.int (nI k), .int 9]) C (ct_X0_bring l D cI cZ cL ad M k 9 hk hq9 (MI_pl hI _) (MI_room hI hk (by rw [c_10]; decide))) (cwV 2 C.1.2.2.2.2 gX0_settle_X0_bring rfl rfl rfl (by decide +kernel) ⟨Nat.le_of_ble_eq_true rfl, Nat.le_of_ble_eq_true rfl⟩) (ci := 0) rfl 0 rfl rfl rfl (Nat.le_of_ble_eq_true rfl) dX0_settle_30 ⟨Nat.le_of_ble_eq_true rfl, Nat.le_of_ble_eq_true rfl⟩ (fun u_30 hp_30 => ?_)
      refine bh_goto (tgt := 60) C dX0_settle_33 (by decide) ?_
      exact bh_vret C hQ dX0_settle_60 () (w := wh_hall cI cZ ad (mo_bring M k 9)) (congrArg (wh_hall cI cZ ad) (by first | exact (mo_settle_9 c_10 c_20).symm | exact (mo_settle_10 c_10 c_20).symm | exact (mo_settle_11 c_10 (Or.inl c_38)).symm | exact (mo_settle_11 c_10 (Or.inr (Or.inl c_44))).symm | exact (mo_settle_11 c_10 (Or.inr (Or.inr c_50))).symm | exact (mo_settle_0 c_10 (fun z => z.elim c_38 (fun z => z.elim c_44 c_50))).symm)) (Nat.le_of_ble_eq_true rfl) (Nat.le_of_ble_eq_true rfl) trivial
theorem ct_X0_settleBags_in : ∀ w ∈ wsX00, w ∈ wsX0_settleBags := by decide +kernel
set_option maxRecDepth 100000 in
set_option maxHeartbeats 4000000 in
theorem ct_X0_settleBags (l : Launch) (D : va_G) (cI cZ cL : ClassId) (ad : Nat → Nat) {K T : Nat} (M : MT) (f : Int32) (hI : MI K T M) : bh_Mv l D (wh_tys cI cZ cL) yX0_settleBags wsX0_settleBags ({ frames := 3, cells := 0, slots := 0, locals := 66 } : Room) [.ref (ad 0), .int f] (wh_hall cI cZ ad M) (fun (_ : Unit) => True) (fun _ => wh_hall cI cZ ad (mo_it (mo_sbag f) M (mq_bc M))) 0 0 := by
  refine bh_ofv (cc := cX0_settleBags) (maxL := 3) (by decide +kernel) rfl (Nat.le_of_ble_eq_true rfl) ?_
  intro p e s m args below meth c A Q _ C hQ
  refine bh_eqlv (lv' := [(0, .ref (ad 0)), (1, .int f)]) rfl ?_
  have hfc := MI_fc hI; have hbc := MI_bc hI; have hsc := MI_sc hI; have hnow := MI_now2 hI
  refine bh_iconst (v := 0) C dX0_settleBags_0 (by decide) ?_
  refine bh_istore_n (lv' := [(2, .int 0), (0, .ref (ad 0)), (1, .int f)]) C dX0_settleBags_1 rfl (by decide) rfl ?_
  have loop : ∀ (n : Nat) (k : Nat), mq_bc M + 1 ≤ k + n → k ≤ mq_bc M → bh_W p l e ({ frames := 3, cells := 0, slots := 0, locals := 66 } : Room) s m args below meth c 3 D A 0 0 Q (wh_hall cI cZ ad (mo_it (mo_sbag f) M k)) ([(2, .int (nI k)), (0, .ref (ad 0)), (1, .int f)]) 2 [] := by
    intro n
    induction n with
    | zero => intro k h1 h2; exact absurd h1 (by omega)
    | succ n ih =>
      intro k h1 h2
      have hI9 := MI_sbags hI f h2
      refine bh_iload_n C dX0_settleBags_2 rfl 0 rfl ?_
      refine bh_aload_n C dX0_settleBags_3 rfl 1 rfl ?_
      refine bh_get C ct_X0_settleBags_in 0 rfl rfl 5 (by decide) (by decide +kernel) rfl (v := .int (nI (mq_bc (mo_it (mo_sbag f) M k)))) rfl dX0_settleBags_4 ?_
      refine bh_icmp_ge (tgt := 31) C dX0_settleBags_7 (by decide) (fun c_7 => ?_) (fun c_7 => ?_)
      · skip
        rw [bc_sbags] at c_7
        have c_7 := bh_le (by omega) (by omega) c_7
        have hkb : k = mq_bc M := by omega
        exact bh_vret C hQ dX0_settleBags_31 () (w := wh_hall cI cZ ad (mo_it (mo_sbag f) M k)) (by rw [hkb]) (Nat.le_of_ble_eq_true rfl) (Nat.le_of_ble_eq_true rfl) trivial
      · skip
        rw [bc_sbags] at c_7
        have c_7 := bh_nle2 (by omega) (by omega) c_7
        refine bh_aload_n C dX0_settleBags_10 rfl 1 rfl ?_
        refine bh_get C ct_X0_settleBags_in 0 rfl rfl 6 (by decide) (by decide +kernel) rfl (v := .ref (ad 6)) rfl dX0_settleBags_11 ?_
        refine bh_iload_n C dX0_settleBags_14 rfl 0 rfl ?_
        refine bh_iald C 4 0 (f := (mq_bf (mo_it (mo_sbag f) M k))) rfl rfl (i := (nI k)) (vp_in_nI (n := k) (by omega) (by decide)) (x := ((mq_bf (mo_it (mo_sbag f) M k)) k)) (congrArg (mq_bf (mo_it (mo_sbag f) M k)) (nI_clamp (n := k) (by omega))) dX0_settleBags_15 ?_
        refine bh_iload_n C dX0_settleBags_16 rfl 2 rfl ?_
        refine bh_icmp_ne (tgt := 25) C dX0_settleBags_17 (by decide) (fun c_17 => ?_) (fun c_17 => ?_)
        · skip
          refine bh_iinc (v := (nI (k + 1))) (lv' := [(2, .int (nI (k + 1))), (0, .ref (ad 0)), (1, .int f)]) C dX0_settleBags_25 (k := 0) rfl (nI_1 _) (by decide) rfl ?_
          refine bh_goto (tgt := 2) C dX0_settleBags_28 (by decide) ?_
          refine bh_eqw (w' := wh_hall cI cZ ad (mo_it (mo_sbag f) M (k + 1))) (by rw [mo_sbag_f c_17]) ?_
          exact bh_lv [0, 1, 2] rfl (ih (k + 1) (by omega) (by omega))
        · skip
          refine bh_aload_n C dX0_settleBags_20 rfl 1 rfl ?_
          refine bh_iload_n C dX0_settleBags_21 rfl 0 rfl ?_
          refine bh_callv_0 (As := [.int (nI k)]) C (ct_X0_settle l D cI cZ cL ad (mo_it (mo_sbag f) M k) k hI9 (by omega)) (cwV 1 C.1.2.2.2.2 gX0_settleBags_X0_settle rfl rfl rfl (by decide +kernel) ⟨Nat.le_of_ble_eq_true rfl, Nat.le_of_ble_eq_true rfl⟩) (ci := 0) rfl 0 rfl rfl rfl (Nat.le_of_ble_eq_true rfl) dX0_settleBags_22 ⟨Nat.le_of_ble_eq_true rfl, Nat.le_of_ble_eq_true rfl⟩ (fun u_22 hp_22 => ?_)
          refine bh_eqw (w' := wh_hall cI cZ ad (mo_it (mo_sbag f) M (k + 1))) (by rw [mo_sbag_t c_17]) ?_
          refine bh_iinc (v := (nI (k + 1))) (lv' := [(2, .int (nI (k + 1))), (0, .ref (ad 0)), (1, .int f)]) C dX0_settleBags_25 (k := 0) rfl (nI_1 _) (by decide) rfl ?_
          refine bh_goto (tgt := 2) C dX0_settleBags_28 (by decide) ?_
          exact bh_lv [0, 1, 2] rfl (ih (k + 1) (by omega) (by omega))
  exact bh_lv [0, 1, 2] rfl (loop (mq_bc M + 1) 0 (by omega) (by omega))
theorem ct_X0_depart_in : ∀ w ∈ wsX00, w ∈ wsX0_depart := by decide +kernel
set_option maxRecDepth 100000 in
set_option maxHeartbeats 4000000 in
theorem ct_X0_depart (l : Launch) (D : va_G) (cI cZ cL : ClassId) (ad : Nat → Nat) {K T : Nat} (M : MT) (hI : MI K T M) : bh_Mv l D (wh_tys cI cZ cL) yX0_depart wsX0_depart ({ frames := 4, cells := 0, slots := 0, locals := 88 } : Room) [.ref (ad 0)] (wh_hall cI cZ ad M) (fun (_ : Unit) => True) (fun _ => wh_hall cI cZ ad (mo_depart M)) 0 0 := by
  refine bh_ofv (cc := cX0_depart) (maxL := 2) (by decide +kernel) rfl (Nat.le_of_ble_eq_true rfl) ?_
  intro p e s m args below meth c A Q _ C hQ
  refine bh_eqlv (lv' := [(0, .ref (ad 0))]) rfl ?_
  have hfc := MI_fc hI; have hbc := MI_bc hI; have hsc := MI_sc hI; have hnow := MI_now2 hI
  refine bh_iconst (v := 0) C dX0_depart_0 (by decide) ?_
  refine bh_istore_n (lv' := [(1, .int 0), (0, .ref (ad 0))]) C dX0_depart_1 rfl (by decide) rfl ?_
  have loop : ∀ (n : Nat) (k : Nat), mq_fc M + 1 ≤ k + n → k ≤ mq_fc M → bh_W p l e ({ frames := 4, cells := 0, slots := 0, locals := 88 } : Room) s m args below meth c 2 D A 0 0 Q (wh_hall cI cZ ad (mo_it mo_dep1 M k)) ([(1, .int (nI k)), (0, .ref (ad 0))]) 2 [] := by
    intro n
    induction n with
    | zero => intro k h1 h2; exact absurd h1 (by omega)
    | succ n ih =>
      intro k h1 h2
      have hI9 := MI_dep1 hI k
      refine bh_iload_n C dX0_depart_2 rfl 0 rfl ?_
      refine bh_aload_n C dX0_depart_3 rfl 1 rfl ?_
      refine bh_get C ct_X0_depart_in 0 rfl rfl 1 (by decide) (by decide +kernel) rfl (v := .int (nI (mq_fc (mo_it mo_dep1 M k)))) rfl dX0_depart_4 ?_
      refine bh_icmp_ge (tgt := 34) C dX0_depart_7 (by decide) (fun c_7 => ?_) (fun c_7 => ?_)
      · skip
        rw [fc_dep1] at c_7
        have c_7 := bh_le (by omega) (by omega) c_7
        have hkb : k = mq_fc M := by omega
        exact bh_vret C hQ dX0_depart_34 () (w := wh_hall cI cZ ad (mo_it mo_dep1 M k)) (by rw [hkb]; rfl) (Nat.le_of_ble_eq_true rfl) (Nat.le_of_ble_eq_true rfl) trivial
      · skip
        rw [fc_dep1] at c_7
        have c_7 := bh_nle2 (by omega) (by omega) c_7
        refine bh_aload_n C dX0_depart_10 rfl 1 rfl ?_
        refine bh_get C ct_X0_depart_in 0 rfl rfl 2 (by decide) (by decide +kernel) rfl (v := .ref (ad 2)) rfl dX0_depart_11 ?_
        refine bh_iload_n C dX0_depart_14 rfl 0 rfl ?_
        refine bh_iald C 1 0 (f := (mq_dep (mo_it mo_dep1 M k))) rfl rfl (i := (nI k)) (vp_in_nI (n := k) (by omega) (by decide)) (x := ((mq_dep (mo_it mo_dep1 M k)) k)) (congrArg (mq_dep (mo_it mo_dep1 M k)) (nI_clamp (n := k) (by omega))) dX0_depart_15 ?_
        refine bh_aload_n C dX0_depart_16 rfl 1 rfl ?_
        refine bh_get C ct_X0_depart_in 0 rfl rfl 0 (by decide) (by decide +kernel) rfl (v := .int (nI (mq_now (mo_it mo_dep1 M k)))) rfl dX0_depart_17 ?_
        refine bh_icmp_ne (tgt := 28) C dX0_depart_20 (by decide) (fun c_20 => ?_) (fun c_20 => ?_)
        · skip
          refine bh_iinc (v := (nI (k + 1))) (lv' := [(1, .int (nI (k + 1))), (0, .ref (ad 0))]) C dX0_depart_28 (k := 0) rfl (nI_1 _) (by decide) rfl ?_
          refine bh_goto (tgt := 2) C dX0_depart_31 (by decide) ?_
          refine bh_eqw (w' := wh_hall cI cZ ad (mo_it mo_dep1 M (k + 1))) (by rw [mo_dep_f c_20]) ?_
          exact bh_lv [0, 1] rfl (ih (k + 1) (by omega) (by omega))
        · skip
          refine bh_aload_n C dX0_depart_23 rfl 1 rfl ?_
          refine bh_iload_n C dX0_depart_24 rfl 0 rfl ?_
          refine bh_callv_0 (As := [.int (nI k)]) C (ct_X0_settleBags l D cI cZ cL ad (mo_it mo_dep1 M k) (nI k) hI9) (cwV 1 C.1.2.2.2.2 gX0_depart_X0_settleBags rfl rfl rfl (by decide +kernel) ⟨Nat.le_of_ble_eq_true rfl, Nat.le_of_ble_eq_true rfl⟩) (ci := 0) rfl 0 rfl rfl rfl (Nat.le_of_ble_eq_true rfl) dX0_depart_25 ⟨Nat.le_of_ble_eq_true rfl, Nat.le_of_ble_eq_true rfl⟩ (fun u_25 hp_25 => ?_)
          refine bh_eqw (w' := wh_hall cI cZ ad (mo_it mo_dep1 M (k + 1))) (by rw [mo_dep_t c_20]) ?_
          refine bh_iinc (v := (nI (k + 1))) (lv' := [(1, .int (nI (k + 1))), (0, .ref (ad 0))]) C dX0_depart_28 (k := 0) rfl (nI_1 _) (by decide) rfl ?_
          refine bh_goto (tgt := 2) C dX0_depart_31 (by decide) ?_
          exact bh_lv [0, 1] rfl (ih (k + 1) (by omega) (by omega))
  exact bh_lv [0, 1] rfl (loop (mq_fc M + 1) 0 (by omega) (by omega))
theorem ct_X0_passOneMinute_in : ∀ w ∈ wsX00, w ∈ wsX0_passOneMinute := by decide +kernel
set_option maxRecDepth 100000 in
set_option maxHeartbeats 4000000 in
theorem ct_X0_passOneMinute (l : Launch) (D : va_G) (cI cZ cL : ClassId) (ad : Nat → Nat) {K T : Nat} (M : MT) (hI : MI K T M) (hT : T + 1 ≤ 102400) : bh_Mv l D (wh_tys cI cZ cL) yX0_passOneMinute wsX0_passOneMinute ({ frames := 5, cells := 0, slots := 0, locals := 109 } : Room) [.ref (ad 0)] (wh_hall cI cZ ad M) (fun (_ : Unit) => True) (fun _ => wh_hall cI cZ ad (mo_minute M)) 0 0 := by
  refine bh_ofv (cc := cX0_passOneMinute) (maxL := 1) (by decide +kernel) rfl (Nat.le_of_ble_eq_true rfl) ?_
  intro p e s m args below meth c A Q _ C hQ
  refine bh_eqlv (lv' := [(0, .ref (ad 0))]) rfl ?_
  have hfc := MI_fc hI; have hbc := MI_bc hI; have hsc := MI_sc hI; have hnow := MI_now2 hI
  refine bh_aload_n C dX0_passOneMinute_0 rfl 0 rfl ?_
  refine bh_dup C dX0_passOneMinute_1 rfl ?_
  refine bh_get C ct_X0_passOneMinute_in 0 rfl rfl 0 (by decide) (by decide +kernel) rfl (v := .int (nI (mq_now M))) rfl dX0_passOneMinute_2 ?_
  refine bh_iconst (v := 1) C dX0_passOneMinute_5 (by decide) ?_
  refine bh_iadd C dX0_passOneMinute_6 ?_
  refine bh_topi (nI_1 _) ?_
  refine bh_eqw (w' := wh_hallX cI cZ ad (mq_now M) (mq_fc M) (mq_bc M) (mq_sc M) (mq_dep M) (mq_lat M) (mq_brd M) (mq_bf M) (mq_br M) (mq_pu M) (mq_pl M) (mq_ls M) (mq_ca M) (mq_at M) (mq_sb M) (mq_sp M) (mq_st M)) rfl ?_
  refine bh_put (ty := .int) (v := .int (nI ((mq_now M) + 1))) (w' := wh_hallX cI cZ ad (((mq_now M) + 1)) (mq_fc M) (mq_bc M) (mq_sc M) (mq_dep M) (mq_lat M) (mq_brd M) (mq_bf M) (mq_br M) (mq_pu M) (mq_pl M) (mq_ls M) (mq_ca M) (mq_at M) (mq_sb M) (mq_sp M) (mq_st M)) C ct_X0_passOneMinute_in tyX0 tyX0_ok nmX0 0 rfl rfl 0 (by decide) (by decide +kernel) rfl rfl (by decide +kernel) rfl rfl (Nat.le_of_ble_eq_true rfl) dX0_passOneMinute_7 rfl ?_
  refine bh_aload_n C dX0_passOneMinute_10 rfl 0 rfl ?_
  refine bh_eqw (w' := wh_hall cI cZ ad ((((mq_now M) + 1)), (mq_fc M), (mq_bc M), (mq_sc M), (mq_dep M), (mq_lat M), (mq_brd M), (mq_bf M), (mq_br M), (mq_pu M), (mq_pl M), (mq_ls M), (mq_ca M), (mq_at M), (mq_sb M), (mq_sp M), (mq_st M))) rfl ?_
  refine bh_callv_0 (As := []) C (ct_X0_emptyStore l D cI cZ cL ad ((((mq_now M) + 1)), (mq_fc M), (mq_bc M), (mq_sc M), (mq_dep M), (mq_lat M), (mq_brd M), (mq_bf M), (mq_br M), (mq_pu M), (mq_pl M), (mq_ls M), (mq_ca M), (mq_at M), (mq_sb M), (mq_sp M), (mq_st M)) (MI_tick hI hT)) (cwV 0 C.1.2.2.2.2 gX0_passOneMinute_X0_emptyStore rfl rfl rfl (by decide +kernel) ⟨Nat.le_of_ble_eq_true rfl, Nat.le_of_ble_eq_true rfl⟩) (ci := 0) rfl 0 rfl rfl rfl (Nat.le_of_ble_eq_true rfl) dX0_passOneMinute_11 ⟨Nat.le_of_ble_eq_true rfl, Nat.le_of_ble_eq_true rfl⟩ (fun u_11 hp_11 => ?_)
  refine bh_aload_n C dX0_passOneMinute_14 rfl 0 rfl ?_
  refine bh_callv_0 (As := []) C (ct_X0_routeLoop l D cI cZ cL ad (mo_empt ((((mq_now M) + 1)), (mq_fc M), (mq_bc M), (mq_sc M), (mq_dep M), (mq_lat M), (mq_brd M), (mq_bf M), (mq_br M), (mq_pu M), (mq_pl M), (mq_ls M), (mq_ca M), (mq_at M), (mq_sb M), (mq_sp M), (mq_st M))) (MI_empt (MI_tick hI hT))) (cwV 0 C.1.2.2.2.2 gX0_passOneMinute_X0_routeLoop rfl rfl rfl (by decide +kernel) ⟨Nat.le_of_ble_eq_true rfl, Nat.le_of_ble_eq_true rfl⟩) (ci := 0) rfl 0 rfl rfl rfl (Nat.le_of_ble_eq_true rfl) dX0_passOneMinute_15 ⟨Nat.le_of_ble_eq_true rfl, Nat.le_of_ble_eq_true rfl⟩ (fun u_15 hp_15 => ?_)
  refine bh_aload_n C dX0_passOneMinute_18 rfl 0 rfl ?_
  refine bh_callv_0 (As := []) C (ct_X0_depart l D cI cZ cL ad (mo_loop (mo_empt ((((mq_now M) + 1)), (mq_fc M), (mq_bc M), (mq_sc M), (mq_dep M), (mq_lat M), (mq_brd M), (mq_bf M), (mq_br M), (mq_pu M), (mq_pl M), (mq_ls M), (mq_ca M), (mq_at M), (mq_sb M), (mq_sp M), (mq_st M)))) (MI_loopA (MI_empt (MI_tick hI hT)))) (cwV 0 C.1.2.2.2.2 gX0_passOneMinute_X0_depart rfl rfl rfl (by decide +kernel) ⟨Nat.le_of_ble_eq_true rfl, Nat.le_of_ble_eq_true rfl⟩) (ci := 0) rfl 0 rfl rfl rfl (Nat.le_of_ble_eq_true rfl) dX0_passOneMinute_19 ⟨Nat.le_of_ble_eq_true rfl, Nat.le_of_ble_eq_true rfl⟩ (fun u_19 hp_19 => ?_)
  exact bh_vret C hQ dX0_passOneMinute_22 () (w := wh_hall cI cZ ad (mo_depart (mo_loop (mo_empt ((((mq_now M) + 1)), (mq_fc M), (mq_bc M), (mq_sc M), (mq_dep M), (mq_lat M), (mq_brd M), (mq_bf M), (mq_br M), (mq_pu M), (mq_pl M), (mq_ls M), (mq_ca M), (mq_at M), (mq_sb M), (mq_sp M), (mq_st M)))))) rfl (Nat.le_of_ble_eq_true rfl) (Nat.le_of_ble_eq_true rfl) trivial
end
section
theorem ct_X0_placeOf_in : ∀ w ∈ wsX00, w ∈ wsX0_placeOf := by decide +kernel
set_option maxRecDepth 100000 in
set_option maxHeartbeats 4000000 in
theorem ct_X0_placeOf (l : Launch) (hl : l.stackTraces = false) (D : va_G) (cI cZ cL : ClassId) (ad : Nat → Nat) {K T : Nat} (M : MT) (b : Int32) (hI : MI K T M) : bh_Xi l D (wh_tys cI cZ cL) yX0_placeOf wsX0_placeOf ({ frames := 7, cells := 1, slots := 6, locals := 111 } : Room) [.ref (ad 0), .int b] (wh_hall cI cZ ad M) (fun r (_ : Unit) => co_in b (mq_bc M) = 0 ∧ r = mq_pl M b.toNatClampNeg) (fun _ => wh_hall cI cZ ad M) (mo_px xe_I xe_S (co_in b (mq_bc M))) 1 6 := by
  refine bh_ofXi (cc := cX0_placeOf) (maxL := 2) (by decide +kernel) rfl (Nat.le_of_ble_eq_true rfl) ?_
  intro p e s m args below meth c A Q C hQ hE hno
  refine bh_eqlv (lv' := [(0, .ref (ad 0)), (1, .int b)]) rfl ?_
  have hfc := MI_fc hI; have hbc := MI_bc hI; have hsc := MI_sc hI; have hnow := MI_now2 hI
  refine bh_aload_n C dX0_placeOf_0 rfl 0 rfl ?_
  refine bh_iload_n C dX0_placeOf_1 rfl 1 rfl ?_
  refine bh_xcallv (As := [.int b]) C hQ hE hno (ct_X0_requireBag l hl D cI cZ cL ad M b hI) (cwV 1 C.1.2.2.2.2 gX0_placeOf_X0_requireBag rfl rfl rfl (by decide +kernel) ⟨Nat.le_of_ble_eq_true rfl, Nat.le_of_ble_eq_true rfl⟩) (ci := 0) rfl 0 rfl rfl rfl (Nat.le_of_ble_eq_true rfl) dX0_placeOf_2 ⟨Nat.le_of_ble_eq_true rfl, Nat.le_of_ble_eq_true rfl⟩ (Nat.le_of_ble_eq_true rfl) (Nat.le_of_ble_eq_true rfl) (fun E h9 => Or.inl ⟨h9.1, co_in1 h9.2⟩) (fun u_2 hp_2 => ?_)
  have hb9 := hp_2
  obtain ⟨k, hk, rfl⟩ := vp_in_of hp_2 (by omega)
  have hk9 : (nI k).toNatClampNeg = k := nI_clamp (by omega)
  refine bh_aload_n C dX0_placeOf_5 rfl 0 rfl ?_
  refine bh_get C ct_X0_placeOf_in 0 rfl rfl 9 (by decide) (by decide +kernel) rfl (v := .ref (ad 9)) rfl dX0_placeOf_6 ?_
  refine bh_iload_n C dX0_placeOf_9 rfl 1 rfl ?_
  refine bh_iald C 7 0 (f := (mq_pl M)) rfl rfl (i := (nI k)) (vp_in_nI (n := k) (by omega) (by decide)) (x := ((mq_pl M) k)) (congrArg (mq_pl M) (nI_clamp (n := k) (by omega))) dX0_placeOf_10 ?_
  exact bh_xzret C hQ dX0_placeOf_11 () (v := ((mq_pl M) k)) (w := wh_hall cI cZ ad M) rfl rfl (Nat.le_of_ble_eq_true rfl) (Nat.le_of_ble_eq_true rfl) ⟨co_in0 hb9, by rw [hk9]⟩
theorem ct_X0_flightOf_in : ∀ w ∈ wsX00, w ∈ wsX0_flightOf := by decide +kernel
set_option maxRecDepth 100000 in
set_option maxHeartbeats 4000000 in
theorem ct_X0_flightOf (l : Launch) (hl : l.stackTraces = false) (D : va_G) (cI cZ cL : ClassId) (ad : Nat → Nat) {K T : Nat} (M : MT) (b : Int32) (hI : MI K T M) : bh_Xi l D (wh_tys cI cZ cL) yX0_flightOf wsX0_flightOf ({ frames := 7, cells := 1, slots := 6, locals := 111 } : Room) [.ref (ad 0), .int b] (wh_hall cI cZ ad M) (fun r (_ : Unit) => co_in b (mq_bc M) = 0 ∧ r = mq_bf M b.toNatClampNeg) (fun _ => wh_hall cI cZ ad M) (mo_px xe_I xe_S (co_in b (mq_bc M))) 1 6 := by
  refine bh_ofXi (cc := cX0_flightOf) (maxL := 2) (by decide +kernel) rfl (Nat.le_of_ble_eq_true rfl) ?_
  intro p e s m args below meth c A Q C hQ hE hno
  refine bh_eqlv (lv' := [(0, .ref (ad 0)), (1, .int b)]) rfl ?_
  have hfc := MI_fc hI; have hbc := MI_bc hI; have hsc := MI_sc hI; have hnow := MI_now2 hI
  refine bh_aload_n C dX0_flightOf_0 rfl 0 rfl ?_
  refine bh_iload_n C dX0_flightOf_1 rfl 1 rfl ?_
  refine bh_xcallv (As := [.int b]) C hQ hE hno (ct_X0_requireBag l hl D cI cZ cL ad M b hI) (cwV 1 C.1.2.2.2.2 gX0_flightOf_X0_requireBag rfl rfl rfl (by decide +kernel) ⟨Nat.le_of_ble_eq_true rfl, Nat.le_of_ble_eq_true rfl⟩) (ci := 0) rfl 0 rfl rfl rfl (Nat.le_of_ble_eq_true rfl) dX0_flightOf_2 ⟨Nat.le_of_ble_eq_true rfl, Nat.le_of_ble_eq_true rfl⟩ (Nat.le_of_ble_eq_true rfl) (Nat.le_of_ble_eq_true rfl) (fun E h9 => Or.inl ⟨h9.1, co_in1 h9.2⟩) (fun u_2 hp_2 => ?_)
  have hb9 := hp_2
  obtain ⟨k, hk, rfl⟩ := vp_in_of hp_2 (by omega)
  have hk9 : (nI k).toNatClampNeg = k := nI_clamp (by omega)
  refine bh_aload_n C dX0_flightOf_5 rfl 0 rfl ?_
  refine bh_get C ct_X0_flightOf_in 0 rfl rfl 6 (by decide) (by decide +kernel) rfl (v := .ref (ad 6)) rfl dX0_flightOf_6 ?_
  refine bh_iload_n C dX0_flightOf_9 rfl 1 rfl ?_
  refine bh_iald C 4 0 (f := (mq_bf M)) rfl rfl (i := (nI k)) (vp_in_nI (n := k) (by omega) (by decide)) (x := ((mq_bf M) k)) (congrArg (mq_bf M) (nI_clamp (n := k) (by omega))) dX0_flightOf_10 ?_
  exact bh_xzret C hQ dX0_flightOf_11 () (v := ((mq_bf M) k)) (w := wh_hall cI cZ ad M) rfl rfl (Nat.le_of_ble_eq_true rfl) (Nat.le_of_ble_eq_true rfl) ⟨co_in0 hb9, by rw [hk9]⟩
theorem ct_X0_lateralOf_in : ∀ w ∈ wsX00, w ∈ wsX0_lateralOf := by decide +kernel
set_option maxRecDepth 100000 in
set_option maxHeartbeats 4000000 in
theorem ct_X0_lateralOf (l : Launch) (hl : l.stackTraces = false) (D : va_G) (cI cZ cL : ClassId) (ad : Nat → Nat) {K T : Nat} (M : MT) (x : Int32) (hI : MI K T M) : bh_Xi l D (wh_tys cI cZ cL) yX0_lateralOf wsX0_lateralOf ({ frames := 7, cells := 1, slots := 6, locals := 111 } : Room) [.ref (ad 0), .int x] (wh_hall cI cZ ad M) (fun r (_ : Unit) => co_in x (mq_fc M) = 0 ∧ r = mq_lat M x.toNatClampNeg) (fun _ => wh_hall cI cZ ad M) (mo_px xe_I xe_S (co_in x (mq_fc M))) 1 6 := by
  refine bh_ofXi (cc := cX0_lateralOf) (maxL := 2) (by decide +kernel) rfl (Nat.le_of_ble_eq_true rfl) ?_
  intro p e s m args below meth c A Q C hQ hE hno
  refine bh_eqlv (lv' := [(0, .ref (ad 0)), (1, .int x)]) rfl ?_
  have hfc := MI_fc hI; have hbc := MI_bc hI; have hsc := MI_sc hI; have hnow := MI_now2 hI
  refine bh_aload_n C dX0_lateralOf_0 rfl 0 rfl ?_
  refine bh_iload_n C dX0_lateralOf_1 rfl 1 rfl ?_
  refine bh_xcallv (As := [.int x]) C hQ hE hno (ct_X0_requireFlight l hl D cI cZ cL ad M x hI) (cwV 1 C.1.2.2.2.2 gX0_lateralOf_X0_requireFlight rfl rfl rfl (by decide +kernel) ⟨Nat.le_of_ble_eq_true rfl, Nat.le_of_ble_eq_true rfl⟩) (ci := 0) rfl 0 rfl rfl rfl (Nat.le_of_ble_eq_true rfl) dX0_lateralOf_2 ⟨Nat.le_of_ble_eq_true rfl, Nat.le_of_ble_eq_true rfl⟩ (Nat.le_of_ble_eq_true rfl) (Nat.le_of_ble_eq_true rfl) (fun E h9 => Or.inl ⟨h9.1, co_in1 h9.2⟩) (fun u_2 hp_2 => ?_)
  refine bh_aload_n C dX0_lateralOf_5 rfl 0 rfl ?_
  refine bh_get C ct_X0_lateralOf_in 0 rfl rfl 3 (by decide) (by decide +kernel) rfl (v := .ref (ad 3)) rfl dX0_lateralOf_6 ?_
  refine bh_iload_n C dX0_lateralOf_9 rfl 1 rfl ?_
  refine bh_iald C 2 0 (f := (mq_lat M)) rfl rfl (i := x) (bh_inW hp_2 hfc) (x := ((mq_lat M) x.toNatClampNeg)) rfl dX0_lateralOf_10 ?_
  exact bh_xzret C hQ dX0_lateralOf_11 () (v := ((mq_lat M) x.toNatClampNeg)) (w := wh_hall cI cZ ad M) rfl rfl (Nat.le_of_ble_eq_true rfl) (Nat.le_of_ble_eq_true rfl) ⟨co_in0 hp_2, rfl⟩
theorem ct_X0_bagOfScan_in : ∀ w ∈ wsX00, w ∈ wsX0_bagOfScan := by decide +kernel
set_option maxRecDepth 100000 in
set_option maxHeartbeats 4000000 in
theorem ct_X0_bagOfScan (l : Launch) (hl : l.stackTraces = false) (D : va_G) (cI cZ cL : ClassId) (ad : Nat → Nat) {K T : Nat} (M : MT) (x : Int32) (hI : MI K T M) : bh_Xi l D (wh_tys cI cZ cL) yX0_bagOfScan wsX0_bagOfScan ({ frames := 7, cells := 1, slots := 6, locals := 111 } : Room) [.ref (ad 0), .int x] (wh_hall cI cZ ad M) (fun r (_ : Unit) => co_in x (mq_sc M) = 0 ∧ r = mq_sb M x.toNatClampNeg) (fun _ => wh_hall cI cZ ad M) (mo_px xe_I xe_S (co_in x (mq_sc M))) 1 6 := by
  refine bh_ofXi (cc := cX0_bagOfScan) (maxL := 2) (by decide +kernel) rfl (Nat.le_of_ble_eq_true rfl) ?_
  intro p e s m args below meth c A Q C hQ hE hno
  refine bh_eqlv (lv' := [(0, .ref (ad 0)), (1, .int x)]) rfl ?_
  have hfc := MI_fc hI; have hbc := MI_bc hI; have hsc := MI_sc hI; have hnow := MI_now2 hI
  refine bh_aload_n C dX0_bagOfScan_0 rfl 0 rfl ?_
  refine bh_iload_n C dX0_bagOfScan_1 rfl 1 rfl ?_
  refine bh_xcallv (As := [.int x]) C hQ hE hno (ct_X0_requireScan l hl D cI cZ cL ad M x hI) (cwV 1 C.1.2.2.2.2 gX0_bagOfScan_X0_requireScan rfl rfl rfl (by decide +kernel) ⟨Nat.le_of_ble_eq_true rfl, Nat.le_of_ble_eq_true rfl⟩) (ci := 0) rfl 0 rfl rfl rfl (Nat.le_of_ble_eq_true rfl) dX0_bagOfScan_2 ⟨Nat.le_of_ble_eq_true rfl, Nat.le_of_ble_eq_true rfl⟩ (Nat.le_of_ble_eq_true rfl) (Nat.le_of_ble_eq_true rfl) (fun E h9 => Or.inl ⟨h9.1, co_in1 h9.2⟩) (fun u_2 hp_2 => ?_)
  refine bh_aload_n C dX0_bagOfScan_5 rfl 0 rfl ?_
  refine bh_get C ct_X0_bagOfScan_in 0 rfl rfl 14 (by decide) (by decide +kernel) rfl (v := .ref (ad 14)) rfl dX0_bagOfScan_6 ?_
  refine bh_iload_n C dX0_bagOfScan_9 rfl 1 rfl ?_
  refine bh_iald C 11 0 (f := (mq_sb M)) rfl rfl (i := x) (bh_inW hp_2 hsc) (x := ((mq_sb M) x.toNatClampNeg)) rfl dX0_bagOfScan_10 ?_
  exact bh_xzret C hQ dX0_bagOfScan_11 () (v := ((mq_sb M) x.toNatClampNeg)) (w := wh_hall cI cZ ad M) rfl rfl (Nat.le_of_ble_eq_true rfl) (Nat.le_of_ble_eq_true rfl) ⟨co_in0 hp_2, rfl⟩
theorem ct_X0_placeOfScan_in : ∀ w ∈ wsX00, w ∈ wsX0_placeOfScan := by decide +kernel
set_option maxRecDepth 100000 in
set_option maxHeartbeats 4000000 in
theorem ct_X0_placeOfScan (l : Launch) (hl : l.stackTraces = false) (D : va_G) (cI cZ cL : ClassId) (ad : Nat → Nat) {K T : Nat} (M : MT) (x : Int32) (hI : MI K T M) : bh_Xi l D (wh_tys cI cZ cL) yX0_placeOfScan wsX0_placeOfScan ({ frames := 7, cells := 1, slots := 6, locals := 111 } : Room) [.ref (ad 0), .int x] (wh_hall cI cZ ad M) (fun r (_ : Unit) => co_in x (mq_sc M) = 0 ∧ r = mq_sp M x.toNatClampNeg) (fun _ => wh_hall cI cZ ad M) (mo_px xe_I xe_S (co_in x (mq_sc M))) 1 6 := by
  refine bh_ofXi (cc := cX0_placeOfScan) (maxL := 2) (by decide +kernel) rfl (Nat.le_of_ble_eq_true rfl) ?_
  intro p e s m args below meth c A Q C hQ hE hno
  refine bh_eqlv (lv' := [(0, .ref (ad 0)), (1, .int x)]) rfl ?_
  have hfc := MI_fc hI; have hbc := MI_bc hI; have hsc := MI_sc hI; have hnow := MI_now2 hI
  refine bh_aload_n C dX0_placeOfScan_0 rfl 0 rfl ?_
  refine bh_iload_n C dX0_placeOfScan_1 rfl 1 rfl ?_
  refine bh_xcallv (As := [.int x]) C hQ hE hno (ct_X0_requireScan l hl D cI cZ cL ad M x hI) (cwV 1 C.1.2.2.2.2 gX0_placeOfScan_X0_requireScan rfl rfl rfl (by decide +kernel) ⟨Nat.le_of_ble_eq_true rfl, Nat.le_of_ble_eq_true rfl⟩) (ci := 0) rfl 0 rfl rfl rfl (Nat.le_of_ble_eq_true rfl) dX0_placeOfScan_2 ⟨Nat.le_of_ble_eq_true rfl, Nat.le_of_ble_eq_true rfl⟩ (Nat.le_of_ble_eq_true rfl) (Nat.le_of_ble_eq_true rfl) (fun E h9 => Or.inl ⟨h9.1, co_in1 h9.2⟩) (fun u_2 hp_2 => ?_)
  refine bh_aload_n C dX0_placeOfScan_5 rfl 0 rfl ?_
  refine bh_get C ct_X0_placeOfScan_in 0 rfl rfl 15 (by decide) (by decide +kernel) rfl (v := .ref (ad 15)) rfl dX0_placeOfScan_6 ?_
  refine bh_iload_n C dX0_placeOfScan_9 rfl 1 rfl ?_
  refine bh_iald C 12 0 (f := (mq_sp M)) rfl rfl (i := x) (bh_inW hp_2 hsc) (x := ((mq_sp M) x.toNatClampNeg)) rfl dX0_placeOfScan_10 ?_
  exact bh_xzret C hQ dX0_placeOfScan_11 () (v := ((mq_sp M) x.toNatClampNeg)) (w := wh_hall cI cZ ad M) rfl rfl (Nat.le_of_ble_eq_true rfl) (Nat.le_of_ble_eq_true rfl) ⟨co_in0 hp_2, rfl⟩
theorem ct_X0_time_in : ∀ w ∈ wsX00, w ∈ wsX0_time := by decide +kernel
set_option maxRecDepth 100000 in
set_option maxHeartbeats 4000000 in
theorem ct_X0_time (l : Launch) (D : va_G) (cI cZ cL : ClassId) (ad : Nat → Nat) (M : MT)  : bh_Mi l D (wh_tys cI cZ cL) yX0_time wsX0_time ({ frames := 0, cells := 0, slots := 0, locals := 0 } : Room) [.ref (ad 0)] (wh_hall cI cZ ad M) (fun r (_ : Unit) => r = nI (mq_now M)) (fun _ => wh_hall cI cZ ad M) 0 0 := by
  refine bh_ofi (cc := cX0_time) (maxL := 1) (by decide +kernel) rfl (Nat.le_of_ble_eq_true rfl) ?_
  intro p e s m args below meth c A Q _ C hQ
  refine bh_eqlv (lv' := [(0, .ref (ad 0))]) rfl ?_
  refine bh_aload_n C dX0_time_0 rfl 0 rfl ?_
  refine bh_get C ct_X0_time_in 0 rfl rfl 0 (by decide) (by decide +kernel) rfl (v := .int (nI (mq_now M))) rfl dX0_time_1 ?_
  exact bh_zret C hQ dX0_time_4 () (v := (nI (mq_now M))) (w := wh_hall cI cZ ad M) rfl rfl (Nat.le_of_ble_eq_true rfl) (Nat.le_of_ble_eq_true rfl) rfl
theorem ct_X0_bags_in : ∀ w ∈ wsX00, w ∈ wsX0_bags := by decide +kernel
set_option maxRecDepth 100000 in
set_option maxHeartbeats 4000000 in
theorem ct_X0_bags (l : Launch) (D : va_G) (cI cZ cL : ClassId) (ad : Nat → Nat) (M : MT)  : bh_Mi l D (wh_tys cI cZ cL) yX0_bags wsX0_bags ({ frames := 0, cells := 0, slots := 0, locals := 0 } : Room) [.ref (ad 0)] (wh_hall cI cZ ad M) (fun r (_ : Unit) => r = nI (mq_bc M)) (fun _ => wh_hall cI cZ ad M) 0 0 := by
  refine bh_ofi (cc := cX0_bags) (maxL := 1) (by decide +kernel) rfl (Nat.le_of_ble_eq_true rfl) ?_
  intro p e s m args below meth c A Q _ C hQ
  refine bh_eqlv (lv' := [(0, .ref (ad 0))]) rfl ?_
  refine bh_aload_n C dX0_bags_0 rfl 0 rfl ?_
  refine bh_get C ct_X0_bags_in 0 rfl rfl 5 (by decide) (by decide +kernel) rfl (v := .int (nI (mq_bc M))) rfl dX0_bags_1 ?_
  exact bh_zret C hQ dX0_bags_4 () (v := (nI (mq_bc M))) (w := wh_hall cI cZ ad M) rfl rfl (Nat.le_of_ble_eq_true rfl) (Nat.le_of_ble_eq_true rfl) rfl
theorem ct_X0_scans_in : ∀ w ∈ wsX00, w ∈ wsX0_scans := by decide +kernel
set_option maxRecDepth 100000 in
set_option maxHeartbeats 4000000 in
theorem ct_X0_scans (l : Launch) (D : va_G) (cI cZ cL : ClassId) (ad : Nat → Nat) (M : MT)  : bh_Mi l D (wh_tys cI cZ cL) yX0_scans wsX0_scans ({ frames := 0, cells := 0, slots := 0, locals := 0 } : Room) [.ref (ad 0)] (wh_hall cI cZ ad M) (fun r (_ : Unit) => r = nI (mq_sc M)) (fun _ => wh_hall cI cZ ad M) 0 0 := by
  refine bh_ofi (cc := cX0_scans) (maxL := 1) (by decide +kernel) rfl (Nat.le_of_ble_eq_true rfl) ?_
  intro p e s m args below meth c A Q _ C hQ
  refine bh_eqlv (lv' := [(0, .ref (ad 0))]) rfl ?_
  refine bh_aload_n C dX0_scans_0 rfl 0 rfl ?_
  refine bh_get C ct_X0_scans_in 0 rfl rfl 13 (by decide) (by decide +kernel) rfl (v := .int (nI (mq_sc M))) rfl dX0_scans_1 ?_
  exact bh_zret C hQ dX0_scans_4 () (v := (nI (mq_sc M))) (w := wh_hall cI cZ ad M) rfl rfl (Nat.le_of_ble_eq_true rfl) (Nat.le_of_ble_eq_true rfl) rfl
theorem ct_X0_board_in : ∀ w ∈ wsX00, w ∈ wsX0_board := by decide +kernel
set_option maxRecDepth 100000 in
set_option maxHeartbeats 4000000 in
theorem ct_X0_board (l : Launch) (hl : l.stackTraces = false) (D : va_G) (cI cZ cL : ClassId) (ad : Nat → Nat) {K T : Nat} (M : MT) (x z : Int32) (hI : MI K T M) (hz : z = 0 ∨ z = 1) : bh_Xi l D (wh_tys cI cZ cL) yX0_board wsX0_board ({ frames := 7, cells := 1, slots := 6, locals := 111 } : Room) [.ref (ad 0), .int x, .int z] (wh_hall cI cZ ad M) (fun r (_ : Unit) => co_in x 40 = 0 ∧ r = mq_brd M x.toNatClampNeg) (fun _ => wh_hall cI cZ ad (mo_board M x z)) (mo_px xe_I xe_S (co_in x 40)) 1 6 := by
  refine bh_ofXi (cc := cX0_board) (maxL := 4) (by decide +kernel) rfl (Nat.le_of_ble_eq_true rfl) ?_
  intro p e s m args below meth c A Q C hQ hE hno
  refine bh_eqlv (lv' := [(0, .ref (ad 0)), (1, .int x), (2, .int z)]) rfl ?_
  have hfc := MI_fc hI; have hbc := MI_bc hI; have hsc := MI_sc hI; have hnow := MI_now2 hI
  refine bh_aload_n C dX0_board_0 rfl 0 rfl ?_
  refine bh_iload_n C dX0_board_1 rfl 1 rfl ?_
  refine bh_xcallv (As := [.int x]) C hQ hE hno (ct_X0_requireRider l hl D cI cZ cL ad M x hI) (cwV 1 C.1.2.2.2.2 gX0_board_X0_requireRider rfl rfl rfl (by decide +kernel) ⟨Nat.le_of_ble_eq_true rfl, Nat.le_of_ble_eq_true rfl⟩) (ci := 0) rfl 0 rfl rfl rfl (Nat.le_of_ble_eq_true rfl) dX0_board_2 ⟨Nat.le_of_ble_eq_true rfl, Nat.le_of_ble_eq_true rfl⟩ (Nat.le_of_ble_eq_true rfl) (Nat.le_of_ble_eq_true rfl) (fun E h9 => Or.inl ⟨h9.1, co_in1 h9.2⟩) (fun u_2 hp_2 => ?_)
  refine bh_aload_n C dX0_board_5 rfl 0 rfl ?_
  refine bh_get C ct_X0_board_in 0 rfl rfl 4 (by decide) (by decide +kernel) rfl (v := .ref (ad 4)) rfl dX0_board_6 ?_
  refine bh_iload_n C dX0_board_9 rfl 1 rfl ?_
  refine bh_zald C 3 1 (f := (mq_brd M)) rfl rfl (i := x) hp_2 (x := ((mq_brd M) x.toNatClampNeg)) rfl dX0_board_10 ?_
  refine bh_istore_n (lv' := [(3, .int ((mq_brd M) x.toNatClampNeg)), (0, .ref (ad 0)), (1, .int x), (2, .int z)]) C dX0_board_11 rfl (by decide) rfl ?_
  refine bh_aload_n C dX0_board_12 rfl 1 rfl ?_
  refine bh_get C ct_X0_board_in 0 rfl rfl 4 (by decide) (by decide +kernel) rfl (v := .ref (ad 4)) rfl dX0_board_13 ?_
  refine bh_iload_n C dX0_board_16 rfl 2 rfl ?_
  refine bh_iload_n C dX0_board_17 rfl 3 rfl ?_
  refine bh_eqw (w' := wh_hallX cI cZ ad (mq_now M) (mq_fc M) (mq_bc M) (mq_sc M) (mq_dep M) (mq_lat M) (mq_brd M) (mq_bf M) (mq_br M) (mq_pu M) (mq_pl M) (mq_ls M) (mq_ca M) (mq_at M) (mq_sb M) (mq_sp M) (mq_st M)) rfl ?_
  refine bh_zast (w' := wh_hallX cI cZ ad (mq_now M) (mq_fc M) (mq_bc M) (mq_sc M) (mq_dep M) (mq_lat M) (upd (mq_brd M) x.toNatClampNeg z) (mq_bf M) (mq_br M) (mq_pu M) (mq_pl M) (mq_ls M) (mq_ca M) (mq_at M) (mq_sb M) (mq_sp M) (mq_st M)) C 3 1 rfl rfl hp_2 dX0_board_18 (by rw [bh_nar hz]; rfl) ?_
  refine bh_iload_n C dX0_board_19 rfl 0 rfl ?_
  exact bh_xzret C hQ dX0_board_20 () (v := ((mq_brd M) x.toNatClampNeg)) (w := wh_hallX cI cZ ad (mq_now M) (mq_fc M) (mq_bc M) (mq_sc M) (mq_dep M) (mq_lat M) (upd (mq_brd M) x.toNatClampNeg z) (mq_bf M) (mq_br M) (mq_pu M) (mq_pl M) (mq_ls M) (mq_ca M) (mq_at M) (mq_sb M) (mq_sp M) (mq_st M)) rfl (bh_nar2 (MI_brd hI _)) (Nat.le_of_ble_eq_true rfl) (Nat.le_of_ble_eq_true rfl) ⟨co_in0 hp_2, rfl⟩
theorem ct_X0_untilClose_in : ∀ w ∈ wsX00, w ∈ wsX0_untilClose := by decide +kernel
set_option maxRecDepth 100000 in
set_option maxHeartbeats 4000000 in
theorem ct_X0_untilClose (l : Launch) (hl : l.stackTraces = false) (D : va_G) (cI cZ cL : ClassId) (ad : Nat → Nat) {K T : Nat} (M : MT) (x : Int32) (hI : MI K T M) : bh_Xi l D (wh_tys cI cZ cL) yX0_untilClose wsX0_untilClose ({ frames := 7, cells := 1, slots := 6, locals := 111 } : Room) [.ref (ad 0), .int x] (wh_hall cI cZ ad M) (fun r (_ : Unit) => co_in x (mq_fc M) = 0 ∧ r = (if 0 < mq_dep M x.toNatClampNeg - 10 - nI (mq_now M) then mq_dep M x.toNatClampNeg - 10 - nI (mq_now M) else 0)) (fun _ => wh_hall cI cZ ad M) (mo_px xe_I xe_S (co_in x (mq_fc M))) 1 6 := by
  refine bh_ofXi (cc := cX0_untilClose) (maxL := 2) (by decide +kernel) rfl (Nat.le_of_ble_eq_true rfl) ?_
  intro p e s m args below meth c A Q C hQ hE hno
  refine bh_eqlv (lv' := [(0, .ref (ad 0)), (1, .int x)]) rfl ?_
  have hfc := MI_fc hI; have hbc := MI_bc hI; have hsc := MI_sc hI; have hnow := MI_now2 hI
  refine bh_aload_n C dX0_untilClose_0 rfl 0 rfl ?_
  refine bh_iload_n C dX0_untilClose_1 rfl 1 rfl ?_
  refine bh_xcallv (As := [.int x]) C hQ hE hno (ct_X0_requireFlight l hl D cI cZ cL ad M x hI) (cwV 1 C.1.2.2.2.2 gX0_untilClose_X0_requireFlight rfl rfl rfl (by decide +kernel) ⟨Nat.le_of_ble_eq_true rfl, Nat.le_of_ble_eq_true rfl⟩) (ci := 0) rfl 0 rfl rfl rfl (Nat.le_of_ble_eq_true rfl) dX0_untilClose_2 ⟨Nat.le_of_ble_eq_true rfl, Nat.le_of_ble_eq_true rfl⟩ (Nat.le_of_ble_eq_true rfl) (Nat.le_of_ble_eq_true rfl) (fun E h9 => Or.inl ⟨h9.1, co_in1 h9.2⟩) (fun u_2 hp_2 => ?_)
  refine bh_iconst (v := 0) C dX0_untilClose_5 (by decide) ?_
  refine bh_aload_n C dX0_untilClose_6 rfl 0 rfl ?_
  refine bh_iload_n C dX0_untilClose_7 rfl 1 rfl ?_
  refine bh_calli_0 (As := [.int x]) C (ct_X0_closing l D cI cZ cL ad M x (bh_inW hp_2 hfc)) (cwV 1 C.1.2.2.2.2 gX0_untilClose_X0_closing rfl rfl rfl (by decide +kernel) ⟨Nat.le_of_ble_eq_true rfl, Nat.le_of_ble_eq_true rfl⟩) (ci := 0) rfl 0 rfl rfl rfl (Nat.le_of_ble_eq_true rfl) dX0_untilClose_8 ⟨Nat.le_of_ble_eq_true rfl, Nat.le_of_ble_eq_true rfl⟩ (fun r_8 u_8 hp_8 => ?_)
  subst hp_8
  refine bh_aload_n C dX0_untilClose_11 rfl 0 rfl ?_
  refine bh_get C ct_X0_untilClose_in 0 rfl rfl 0 (by decide) (by decide +kernel) rfl (v := .int (nI (mq_now M))) rfl dX0_untilClose_12 ?_
  refine bh_isub C dX0_untilClose_15 ?_
  refine bh_mmax C (by decide +kernel) (by decide +kernel) (by decide +kernel) (by decide +kernel) (Nat.le_of_ble_eq_true rfl) (Nat.le_of_ble_eq_true rfl) (Nat.zero_le _) (Nat.zero_le _) dX0_untilClose_16 ?_
  exact bh_xzret C hQ dX0_untilClose_19 () (v := (if 0 < ((mq_dep M x.toNatClampNeg - 10) - (nI (mq_now M))) then ((mq_dep M x.toNatClampNeg - 10) - (nI (mq_now M))) else 0)) (w := wh_hall cI cZ ad M) rfl rfl (Nat.le_of_ble_eq_true rfl) (Nat.le_of_ble_eq_true rfl) ⟨co_in0 hp_2, rfl⟩
theorem ct_X0_count_in : ∀ w ∈ wsX00, w ∈ wsX0_count := by decide +kernel
theorem ct_X0_count_at54 : ∀ z ∈ (vx_atS RX0 54 xe_A xe_ns).filter goodWord, z ∈ wsX0_count := by decide +kernel
set_option maxRecDepth 100000 in
set_option maxHeartbeats 4000000 in
theorem ct_X0_count (l : Launch) (hl : l.stackTraces = false) (D : va_G) (cI cZ cL : ClassId) (ad : Nat → Nat) {K T : Nat} (M : MT) (x : Int32) (hI : MI K T M) : bh_Xi l D (wh_tys cI cZ cL) yX0_count wsX0_count ({ frames := 6, cells := 1, slots := 6, locals := 90 } : Room) [.ref (ad 0), .int x] (wh_hall cI cZ ad M) (fun r (_ : Unit) => co_count x = 0 ∧ r = nI (mo_cn (fun j => decide (mq_pl M j = x)) (mq_bc M))) (fun _ => wh_hall cI cZ ad M) (mo_px xe_A xe_S (co_count x)) 1 6 := by
  refine bh_ofXi (cc := cX0_count) (maxL := 2) (by decide +kernel) rfl (Nat.le_of_ble_eq_true rfl) ?_
  intro p e s m args below meth c A Q C hQ hE hno
  refine bh_eqlv (lv' := [(0, .ref (ad 0)), (1, .int x)]) rfl ?_
  have hfc := MI_fc hI; have hbc := MI_bc hI; have hsc := MI_sc hI; have hnow := MI_now2 hI
  refine bh_iload_n C dX0_count_0 rfl 1 rfl ?_
  refine bh_iconst (v := 1) C dX0_count_1 (by decide) ?_
  refine bh_icmp_lt (tgt := 11) C dX0_count_2 (by decide) (fun c_2 => ?_) (fun c_2 => ?_)
  · skip
    exact bh_throw C hE hno hl hQ (cls := xe_A) (text := "there is no such place") (by decide +kernel) (by decide +kernel) (by decide +kernel) (by decide +kernel) ct_X0_count_at54 xe_hb54 xe_hg54_50 dX0_count_11 dX0_count_14 dX0_count_15 dX0_count_17 dX0_count_20 (Nat.le_of_ble_eq_true rfl) (Nat.le_of_ble_eq_true rfl) (Nat.le_of_ble_eq_true rfl) (Nat.le_of_ble_eq_true rfl) (Nat.le_of_ble_eq_true rfl) (Nat.le_of_ble_eq_true rfl) (Or.inl ⟨rfl, by first | exact if_pos (Or.inl c_2) | exact if_pos (Or.inr (bh_nle3 c_8))⟩)
  · skip
    refine bh_iload_n C dX0_count_5 rfl 1 rfl ?_
    refine bh_bipush (v := 11) C dX0_count_6 (by decide) ?_
    refine bh_icmp_le (tgt := 21) C dX0_count_8 (by decide) (fun c_8 => ?_) (fun c_8 => ?_)
    · skip
      refine bh_aload_n C dX0_count_21 rfl 0 rfl ?_
      refine bh_get C ct_X0_count_in 0 rfl rfl 12 (by decide) (by decide +kernel) rfl (v := .ref (ad 12)) rfl dX0_count_22 ?_
      refine bh_iload_n C dX0_count_25 rfl 1 rfl ?_
      refine bh_iald C 10 0 (f := (mq_at M)) rfl rfl (i := x) (bh_cntIn c_2 c_8) (x := ((mq_at M) x.toNatClampNeg)) rfl dX0_count_26 ?_
      exact bh_xzret C hQ dX0_count_27 () (v := ((mq_at M) x.toNatClampNeg)) (w := wh_hall cI cZ ad M) rfl rfl (Nat.le_of_ble_eq_true rfl) (Nat.le_of_ble_eq_true rfl) ⟨if_neg (fun z => z.elim c_2 (fun q => absurd c_8 (Int32.not_le.mpr q))), MI_count hI c_2 c_8⟩
    · skip
      exact bh_throw C hE hno hl hQ (cls := xe_A) (text := "there is no such place") (by decide +kernel) (by decide +kernel) (by decide +kernel) (by decide +kernel) ct_X0_count_at54 xe_hb54 xe_hg54_50 dX0_count_11 dX0_count_14 dX0_count_15 dX0_count_17 dX0_count_20 (Nat.le_of_ble_eq_true rfl) (Nat.le_of_ble_eq_true rfl) (Nat.le_of_ble_eq_true rfl) (Nat.le_of_ble_eq_true rfl) (Nat.le_of_ble_eq_true rfl) (Nat.le_of_ble_eq_true rfl) (Or.inl ⟨rfl, by first | exact if_pos (Or.inl c_2) | exact if_pos (Or.inr (bh_nle3 c_8))⟩)
theorem ct_X0_atLateral_in : ∀ w ∈ wsX00, w ∈ wsX0_atLateral := by decide +kernel
theorem ct_X0_atLateral_at134 : ∀ z ∈ (vx_atS RX0 134 xe_I xe_ns).filter goodWord, z ∈ wsX0_atLateral := by decide +kernel
set_option maxRecDepth 100000 in
set_option maxHeartbeats 4000000 in
theorem ct_X0_atLateral (l : Launch) (hl : l.stackTraces = false) (D : va_G) (cI cZ cL : ClassId) (ad : Nat → Nat) {K T : Nat} (M : MT) (x : Int32) (hI : MI K T M) : bh_Xi l D (wh_tys cI cZ cL) yX0_atLateral wsX0_atLateral ({ frames := 6, cells := 1, slots := 6, locals := 90 } : Room) [.ref (ad 0), .int x] (wh_hall cI cZ ad M) (fun r (_ : Unit) => co_in x 4 = 0 ∧ r = nI (mo_atl M x)) (fun _ => wh_hall cI cZ ad M) (mo_px xe_I xe_S (co_in x 4)) 1 6 := by
  refine bh_ofXi (cc := cX0_atLateral) (maxL := 4) (by decide +kernel) rfl (Nat.le_of_ble_eq_true rfl) ?_
  intro p e s m args below meth c A Q C hQ hE hno
  refine bh_eqlv (lv' := [(0, .ref (ad 0)), (1, .int x)]) rfl ?_
  have hfc := MI_fc hI; have hbc := MI_bc hI; have hsc := MI_sc hI; have hnow := MI_now2 hI
  refine bh_iload_n C dX0_atLateral_0 rfl 1 rfl ?_
  refine bh_if_lt (tgt := 9) C dX0_atLateral_1 (by decide) (fun c_1 => ?_) (fun c_1 => ?_)
  · skip
    exact bh_throw C hE hno hl hQ (cls := xe_I) (text := "there is no such lateral") (by decide +kernel) (by decide +kernel) (by decide +kernel) (by decide +kernel) ct_X0_atLateral_at134 xe_hb134 xe_hg134_130 dX0_atLateral_9 dX0_atLateral_12 dX0_atLateral_13 dX0_atLateral_15 dX0_atLateral_18 (Nat.le_of_ble_eq_true rfl) (Nat.le_of_ble_eq_true rfl) (Nat.le_of_ble_eq_true rfl) (Nat.le_of_ble_eq_true rfl) (Nat.le_of_ble_eq_true rfl) (Nat.le_of_ble_eq_true rfl) (Or.inl ⟨rfl, by first | exact co_in1 (bh_out1 c_1) | exact co_in1 (bh_out2 (n := 4) (by decide) c_6)⟩)
  · skip
    refine bh_iload_n C dX0_atLateral_4 rfl 1 rfl ?_
    refine bh_iconst (v := 4) C dX0_atLateral_5 (by decide) ?_
    refine bh_icmp_lt (tgt := 19) C dX0_atLateral_6 (by decide) (fun c_6 => ?_) (fun c_6 => ?_)
    · skip
      refine bh_iconst (v := 0) C dX0_atLateral_19 (by decide) ?_
      refine bh_istore_n (lv' := [(2, .int 0), (0, .ref (ad 0)), (1, .int x)]) C dX0_atLateral_20 rfl (by decide) rfl ?_
      refine bh_iconst (v := 0) C dX0_atLateral_21 (by decide) ?_
      refine bh_istore_n (lv' := [(3, .int 0), (2, .int 0), (0, .ref (ad 0)), (1, .int x)]) C dX0_atLateral_22 rfl (by decide) rfl ?_
      have loop : ∀ (n : Nat) (k : Nat), mq_bc M + 1 ≤ k + n → k ≤ mq_bc M → bh_W p l e ({ frames := 6, cells := 1, slots := 6, locals := 90 } : Room) s m args below meth c 4 D A 0 0 Q (wh_hall cI cZ ad M) ([(3, .int (nI k)), (2, .int (nI (mo_cn (fun j => decide (mq_pl M j = 7 ∧ mq_lat M (mq_bf M j).toNatClampNeg = x)) k))), (0, .ref (ad 0)), (1, .int x)]) 23 [] := by
        intro n
        induction n with
        | zero => intro k h1 h2; exact absurd h1 (by omega)
        | succ n ih =>
          intro k h1 h2
          refine bh_iload_n C dX0_atLateral_23 rfl 0 rfl ?_
          refine bh_aload_n C dX0_atLateral_24 rfl 2 rfl ?_
          refine bh_get C ct_X0_atLateral_in 0 rfl rfl 5 (by decide) (by decide +kernel) rfl (v := .int (nI (mq_bc M))) rfl dX0_atLateral_25 ?_
          refine bh_icmp_ge (tgt := 66) C dX0_atLateral_28 (by decide) (fun c_28 => ?_) (fun c_28 => ?_)
          · skip
            have c_28 := bh_le (by omega) (by omega) c_28
            have hkb : k = mq_bc M := by omega
            refine bh_iload_n C dX0_atLateral_66 rfl 1 rfl ?_
            exact bh_xzret C hQ dX0_atLateral_67 () (v := (nI (mo_cn (fun j => decide (mq_pl M j = 7 ∧ mq_lat M (mq_bf M j).toNatClampNeg = x)) k))) (w := wh_hall cI cZ ad M) rfl rfl (Nat.le_of_ble_eq_true rfl) (Nat.le_of_ble_eq_true rfl) ⟨co_in0 (bh_in (n := 4) (by decide) c_1 c_6), by rw [hkb]; rfl⟩
          · skip
            have c_28 := bh_nle2 (by omega) (by omega) c_28
            refine bh_aload_n C dX0_atLateral_31 rfl 2 rfl ?_
            refine bh_get C ct_X0_atLateral_in 0 rfl rfl 9 (by decide) (by decide +kernel) rfl (v := .ref (ad 9)) rfl dX0_atLateral_32 ?_
            refine bh_iload_n C dX0_atLateral_35 rfl 0 rfl ?_
            refine bh_iald C 7 0 (f := (mq_pl M)) rfl rfl (i := (nI k)) (vp_in_nI (n := k) (by omega) (by decide)) (x := ((mq_pl M) k)) (congrArg (mq_pl M) (nI_clamp (n := k) (by omega))) dX0_atLateral_36 ?_
            refine bh_bipush (v := 7) C dX0_atLateral_37 (by decide) ?_
            refine bh_icmp_ne (tgt := 60) C dX0_atLateral_39 (by decide) (fun c_39 => ?_) (fun c_39 => ?_)
            · skip
              refine bh_iinc (v := (nI (k + 1))) (lv' := [(3, .int (nI (k + 1))), (2, .int (nI (mo_cn (fun j => decide (mq_pl M j = 7 ∧ mq_lat M (mq_bf M j).toNatClampNeg = x)) k))), (0, .ref (ad 0)), (1, .int x)]) C dX0_atLateral_60 (k := 0) rfl (nI_1 _) (by decide) rfl ?_
              refine bh_goto (tgt := 23) C dX0_atLateral_63 (by decide) ?_
              refine bh_eqlv (lv' := [(3, .int (nI (k + 1))), (2, .int (nI (mo_cn (fun j => decide (mq_pl M j = 7 ∧ mq_lat M (mq_bf M j).toNatClampNeg = x)) (k + 1)))), (0, .ref (ad 0)), (1, .int x)]) (by rw [bh_cn0 (f := (fun j => decide (mq_pl M j = 7 ∧ mq_lat M (mq_bf M j).toNatClampNeg = x))) (decide_eq_false (by first | exact fun z => c_39 z.1 | exact fun z => c_54 z.2))]) ?_
              exact bh_lv [0, 1, 2, 3] rfl (ih (k + 1) (by omega) (by omega))
            · skip
              refine bh_aload_n C dX0_atLateral_42 rfl 2 rfl ?_
              refine bh_get C ct_X0_atLateral_in 0 rfl rfl 3 (by decide) (by decide +kernel) rfl (v := .ref (ad 3)) rfl dX0_atLateral_43 ?_
              refine bh_aload_n C dX0_atLateral_46 rfl 2 rfl ?_
              refine bh_get C ct_X0_atLateral_in 0 rfl rfl 6 (by decide) (by decide +kernel) rfl (v := .ref (ad 6)) rfl dX0_atLateral_47 ?_
              refine bh_iload_n C dX0_atLateral_50 rfl 0 rfl ?_
              refine bh_iald C 4 0 (f := (mq_bf M)) rfl rfl (i := (nI k)) (vp_in_nI (n := k) (by omega) (by decide)) (x := ((mq_bf M) k)) (congrArg (mq_bf M) (nI_clamp (n := k) (by omega))) dX0_atLateral_51 ?_
              refine bh_iald C 2 0 (f := (mq_lat M)) rfl rfl (i := ((mq_bf M) k)) (MI_bf hI _) (x := ((mq_lat M) ((mq_bf M) k).toNatClampNeg)) rfl dX0_atLateral_52 ?_
              refine bh_iload_n C dX0_atLateral_53 rfl 3 rfl ?_
              refine bh_icmp_ne (tgt := 60) C dX0_atLateral_54 (by decide) (fun c_54 => ?_) (fun c_54 => ?_)
              · skip
                refine bh_iinc (v := (nI (k + 1))) (lv' := [(3, .int (nI (k + 1))), (2, .int (nI (mo_cn (fun j => decide (mq_pl M j = 7 ∧ mq_lat M (mq_bf M j).toNatClampNeg = x)) k))), (0, .ref (ad 0)), (1, .int x)]) C dX0_atLateral_60 (k := 0) rfl (nI_1 _) (by decide) rfl ?_
                refine bh_goto (tgt := 23) C dX0_atLateral_63 (by decide) ?_
                refine bh_eqlv (lv' := [(3, .int (nI (k + 1))), (2, .int (nI (mo_cn (fun j => decide (mq_pl M j = 7 ∧ mq_lat M (mq_bf M j).toNatClampNeg = x)) (k + 1)))), (0, .ref (ad 0)), (1, .int x)]) (by rw [bh_cn0 (f := (fun j => decide (mq_pl M j = 7 ∧ mq_lat M (mq_bf M j).toNatClampNeg = x))) (decide_eq_false (by first | exact fun z => c_39 z.1 | exact fun z => c_54 z.2))]) ?_
                exact bh_lv [0, 1, 2, 3] rfl (ih (k + 1) (by omega) (by omega))
              · skip
                refine bh_iinc (v := (nI ((mo_cn (fun j => decide (mq_pl M j = 7 ∧ mq_lat M (mq_bf M j).toNatClampNeg = x)) k) + 1))) (lv' := [(2, .int (nI ((mo_cn (fun j => decide (mq_pl M j = 7 ∧ mq_lat M (mq_bf M j).toNatClampNeg = x)) k) + 1))), (3, .int (nI k)), (0, .ref (ad 0)), (1, .int x)]) C dX0_atLateral_57 (k := 1) rfl (nI_1 _) (by decide) rfl ?_
                refine bh_iinc (v := (nI (k + 1))) (lv' := [(3, .int (nI (k + 1))), (2, .int (nI ((mo_cn (fun j => decide (mq_pl M j = 7 ∧ mq_lat M (mq_bf M j).toNatClampNeg = x)) k) + 1))), (0, .ref (ad 0)), (1, .int x)]) C dX0_atLateral_60 (k := 1) rfl (nI_1 _) (by decide) rfl ?_
                refine bh_goto (tgt := 23) C dX0_atLateral_63 (by decide) ?_
                refine bh_eqlv (lv' := [(3, .int (nI (k + 1))), (2, .int (nI (mo_cn (fun j => decide (mq_pl M j = 7 ∧ mq_lat M (mq_bf M j).toNatClampNeg = x)) (k + 1)))), (0, .ref (ad 0)), (1, .int x)]) (by rw [bh_cn1 (f := (fun j => decide (mq_pl M j = 7 ∧ mq_lat M (mq_bf M j).toNatClampNeg = x))) (decide_eq_true ⟨c_39, c_54⟩)]) ?_
                exact bh_lv [0, 1, 2, 3] rfl (ih (k + 1) (by omega) (by omega))
      exact bh_lv [0, 1, 2, 3] rfl (loop (mq_bc M + 1) 0 (by omega) (by omega))
    · skip
      exact bh_throw C hE hno hl hQ (cls := xe_I) (text := "there is no such lateral") (by decide +kernel) (by decide +kernel) (by decide +kernel) (by decide +kernel) ct_X0_atLateral_at134 xe_hb134 xe_hg134_130 dX0_atLateral_9 dX0_atLateral_12 dX0_atLateral_13 dX0_atLateral_15 dX0_atLateral_18 (Nat.le_of_ble_eq_true rfl) (Nat.le_of_ble_eq_true rfl) (Nat.le_of_ble_eq_true rfl) (Nat.le_of_ble_eq_true rfl) (Nat.le_of_ble_eq_true rfl) (Nat.le_of_ble_eq_true rfl) (Or.inl ⟨rfl, by first | exact co_in1 (bh_out1 c_1) | exact co_in1 (bh_out2 (n := 4) (by decide) c_6)⟩)
theorem ct_X0_unmatched_in : ∀ w ∈ wsX00, w ∈ wsX0_unmatched := by decide +kernel
set_option maxRecDepth 100000 in
set_option maxHeartbeats 4000000 in
theorem ct_X0_unmatched (l : Launch) (hl : l.stackTraces = false) (D : va_G) (cI cZ cL : ClassId) (ad : Nat → Nat) {K T : Nat} (M : MT) (x : Int32) (hI : MI K T M) : bh_Xi l D (wh_tys cI cZ cL) yX0_unmatched wsX0_unmatched ({ frames := 7, cells := 1, slots := 6, locals := 111 } : Room) [.ref (ad 0), .int x] (wh_hall cI cZ ad M) (fun r (_ : Unit) => co_in x (mq_fc M) = 0 ∧ r = nI (mo_unm M x)) (fun _ => wh_hall cI cZ ad M) (mo_px xe_I xe_S (co_in x (mq_fc M))) 1 6 := by
  refine bh_ofXi (cc := cX0_unmatched) (maxL := 4) (by decide +kernel) rfl (Nat.le_of_ble_eq_true rfl) ?_
  intro p e s m args below meth c A Q C hQ hE hno
  refine bh_eqlv (lv' := [(0, .ref (ad 0)), (1, .int x)]) rfl ?_
  have hfc := MI_fc hI; have hbc := MI_bc hI; have hsc := MI_sc hI; have hnow := MI_now2 hI
  refine bh_aload_n C dX0_unmatched_0 rfl 0 rfl ?_
  refine bh_iload_n C dX0_unmatched_1 rfl 1 rfl ?_
  refine bh_xcallv (As := [.int x]) C hQ hE hno (ct_X0_requireFlight l hl D cI cZ cL ad M x hI) (cwV 1 C.1.2.2.2.2 gX0_unmatched_X0_requireFlight rfl rfl rfl (by decide +kernel) ⟨Nat.le_of_ble_eq_true rfl, Nat.le_of_ble_eq_true rfl⟩) (ci := 0) rfl 0 rfl rfl rfl (Nat.le_of_ble_eq_true rfl) dX0_unmatched_2 ⟨Nat.le_of_ble_eq_true rfl, Nat.le_of_ble_eq_true rfl⟩ (Nat.le_of_ble_eq_true rfl) (Nat.le_of_ble_eq_true rfl) (fun E h9 => Or.inl ⟨h9.1, co_in1 h9.2⟩) (fun u_2 hp_2 => ?_)
  refine bh_iconst (v := 0) C dX0_unmatched_5 (by decide) ?_
  refine bh_istore_n (lv' := [(2, .int 0), (0, .ref (ad 0)), (1, .int x)]) C dX0_unmatched_6 rfl (by decide) rfl ?_
  refine bh_iconst (v := 0) C dX0_unmatched_7 (by decide) ?_
  refine bh_istore_n (lv' := [(3, .int 0), (2, .int 0), (0, .ref (ad 0)), (1, .int x)]) C dX0_unmatched_8 rfl (by decide) rfl ?_
  have loop : ∀ (n : Nat) (k : Nat), mq_bc M + 1 ≤ k + n → k ≤ mq_bc M → bh_W p l e ({ frames := 7, cells := 1, slots := 6, locals := 111 } : Room) s m args below meth c 4 D A 0 0 Q (wh_hall cI cZ ad M) ([(3, .int (nI k)), (2, .int (nI (mo_cn (fun j => decide ((mq_pl M j = 8 ∧ mq_bf M j = x) ∧ ¬ mo_fly M j)) k))), (0, .ref (ad 0)), (1, .int x)]) 9 [] := by
    intro n
    induction n with
    | zero => intro k h1 h2; exact absurd h1 (by omega)
    | succ n ih =>
      intro k h1 h2
      refine bh_iload_n C dX0_unmatched_9 rfl 0 rfl ?_
      refine bh_aload_n C dX0_unmatched_10 rfl 2 rfl ?_
      refine bh_get C ct_X0_unmatched_in 0 rfl rfl 5 (by decide) (by decide +kernel) rfl (v := .int (nI (mq_bc M))) rfl dX0_unmatched_11 ?_
      refine bh_icmp_ge (tgt := 43) C dX0_unmatched_14 (by decide) (fun c_14 => ?_) (fun c_14 => ?_)
      · skip
        have c_14 := bh_le (by omega) (by omega) c_14
        have hkb : k = mq_bc M := by omega
        refine bh_iload_n C dX0_unmatched_43 rfl 1 rfl ?_
        exact bh_xzret C hQ dX0_unmatched_44 () (v := (nI (mo_cn (fun j => decide ((mq_pl M j = 8 ∧ mq_bf M j = x) ∧ ¬ mo_fly M j)) k))) (w := wh_hall cI cZ ad M) rfl rfl (Nat.le_of_ble_eq_true rfl) (Nat.le_of_ble_eq_true rfl) ⟨co_in0 hp_2, by rw [hkb]; rfl⟩
      · skip
        have c_14 := bh_nle2 (by omega) (by omega) c_14
        refine bh_aload_n C dX0_unmatched_17 rfl 2 rfl ?_
        refine bh_iload_n C dX0_unmatched_18 rfl 0 rfl ?_
        refine bh_iload_n C dX0_unmatched_19 rfl 3 rfl ?_
        refine bh_calli_0 (As := [.int (nI k), .int x]) C (ct_X0_isLoadedFor l D cI cZ cL ad M k x hI (by omega)) (cwV 2 C.1.2.2.2.2 gX0_unmatched_X0_isLoadedFor rfl rfl rfl (by decide +kernel) ⟨Nat.le_of_ble_eq_true rfl, Nat.le_of_ble_eq_true rfl⟩) (ci := 0) rfl 0 rfl rfl rfl (Nat.le_of_ble_eq_true rfl) dX0_unmatched_20 ⟨Nat.le_of_ble_eq_true rfl, Nat.le_of_ble_eq_true rfl⟩ (fun r_20 u_20 hp_20 => ?_)
        subst hp_20
        refine bh_if_eq (tgt := 37) C dX0_unmatched_23 (by decide) (fun c_23 => ?_) (fun c_23 => ?_)
        · skip
          replace c_23 := bh_eq0 c_23
          refine bh_iinc (v := (nI (k + 1))) (lv' := [(3, .int (nI (k + 1))), (2, .int (nI (mo_cn (fun j => decide ((mq_pl M j = 8 ∧ mq_bf M j = x) ∧ ¬ mo_fly M j)) k))), (0, .ref (ad 0)), (1, .int x)]) C dX0_unmatched_37 (k := 0) rfl (nI_1 _) (by decide) rfl ?_
          refine bh_goto (tgt := 9) C dX0_unmatched_40 (by decide) ?_
          refine bh_eqlv (lv' := [(3, .int (nI (k + 1))), (2, .int (nI (mo_cn (fun j => decide ((mq_pl M j = 8 ∧ mq_bf M j = x) ∧ ¬ mo_fly M j)) (k + 1)))), (0, .ref (ad 0)), (1, .int x)]) (by rw [bh_cn0 (f := (fun j => decide ((mq_pl M j = 8 ∧ mq_bf M j = x) ∧ ¬ mo_fly M j))) (decide_eq_false (by first | exact fun z => c_23 z.1 | exact fun z => z.2 c_31))]) ?_
          exact bh_lv [0, 1, 2, 3] rfl (ih (k + 1) (by omega) (by omega))
        · skip
          replace c_23 := bh_ne0 c_23
          refine bh_aload_n C dX0_unmatched_26 rfl 2 rfl ?_
          refine bh_iload_n C dX0_unmatched_27 rfl 0 rfl ?_
          refine bh_calli_0 (As := [.int (nI k)]) C (ct_X0_mayFly l D cI cZ cL ad M k hI (by omega)) (cwV 1 C.1.2.2.2.2 gX0_unmatched_X0_mayFly rfl rfl rfl (by decide +kernel) ⟨Nat.le_of_ble_eq_true rfl, Nat.le_of_ble_eq_true rfl⟩) (ci := 0) rfl 0 rfl rfl rfl (Nat.le_of_ble_eq_true rfl) dX0_unmatched_28 ⟨Nat.le_of_ble_eq_true rfl, Nat.le_of_ble_eq_true rfl⟩ (fun r_28 u_28 hp_28 => ?_)
          subst hp_28
          refine bh_if_ne (tgt := 37) C dX0_unmatched_31 (by decide) (fun c_31 => ?_) (fun c_31 => ?_)
          · skip
            replace c_31 := bh_ne0 c_31
            refine bh_iinc (v := (nI (k + 1))) (lv' := [(3, .int (nI (k + 1))), (2, .int (nI (mo_cn (fun j => decide ((mq_pl M j = 8 ∧ mq_bf M j = x) ∧ ¬ mo_fly M j)) k))), (0, .ref (ad 0)), (1, .int x)]) C dX0_unmatched_37 (k := 0) rfl (nI_1 _) (by decide) rfl ?_
            refine bh_goto (tgt := 9) C dX0_unmatched_40 (by decide) ?_
            refine bh_eqlv (lv' := [(3, .int (nI (k + 1))), (2, .int (nI (mo_cn (fun j => decide ((mq_pl M j = 8 ∧ mq_bf M j = x) ∧ ¬ mo_fly M j)) (k + 1)))), (0, .ref (ad 0)), (1, .int x)]) (by rw [bh_cn0 (f := (fun j => decide ((mq_pl M j = 8 ∧ mq_bf M j = x) ∧ ¬ mo_fly M j))) (decide_eq_false (by first | exact fun z => c_23 z.1 | exact fun z => z.2 c_31))]) ?_
            exact bh_lv [0, 1, 2, 3] rfl (ih (k + 1) (by omega) (by omega))
          · skip
            replace c_31 := bh_eq0 c_31
            refine bh_iinc (v := (nI ((mo_cn (fun j => decide ((mq_pl M j = 8 ∧ mq_bf M j = x) ∧ ¬ mo_fly M j)) k) + 1))) (lv' := [(2, .int (nI ((mo_cn (fun j => decide ((mq_pl M j = 8 ∧ mq_bf M j = x) ∧ ¬ mo_fly M j)) k) + 1))), (3, .int (nI k)), (0, .ref (ad 0)), (1, .int x)]) C dX0_unmatched_34 (k := 1) rfl (nI_1 _) (by decide) rfl ?_
            refine bh_iinc (v := (nI (k + 1))) (lv' := [(3, .int (nI (k + 1))), (2, .int (nI ((mo_cn (fun j => decide ((mq_pl M j = 8 ∧ mq_bf M j = x) ∧ ¬ mo_fly M j)) k) + 1))), (0, .ref (ad 0)), (1, .int x)]) C dX0_unmatched_37 (k := 1) rfl (nI_1 _) (by decide) rfl ?_
            refine bh_goto (tgt := 9) C dX0_unmatched_40 (by decide) ?_
            refine bh_eqlv (lv' := [(3, .int (nI (k + 1))), (2, .int (nI (mo_cn (fun j => decide ((mq_pl M j = 8 ∧ mq_bf M j = x) ∧ ¬ mo_fly M j)) (k + 1)))), (0, .ref (ad 0)), (1, .int x)]) (by rw [bh_cn1 (f := (fun j => decide ((mq_pl M j = 8 ∧ mq_bf M j = x) ∧ ¬ mo_fly M j))) (decide_eq_true ⟨c_23, c_31⟩)]) ?_
            exact bh_lv [0, 1, 2, 3] rfl (ih (k + 1) (by omega) (by omega))
  exact bh_lv [0, 1, 2, 3] rfl (loop (mq_bc M + 1) 0 (by omega) (by omega))
theorem ct_X0_takeIn_in : ∀ w ∈ wsX00, w ∈ wsX0_takeIn := by decide +kernel
theorem ct_X0_takeIn_at65 : ∀ z ∈ (vx_atS RX0 65 xe_S xe_ns).filter goodWord, z ∈ wsX0_takeIn := by decide +kernel
set_option maxRecDepth 100000 in
set_option maxHeartbeats 4000000 in
theorem ct_X0_takeIn (l : Launch) (hl : l.stackTraces = false) (D : va_G) (cI cZ cL : ClassId) (ad : Nat → Nat) {K T : Nat} (M : MT) (x r0 : Int32) (hI : MI K T M) : bh_Xi l D (wh_tys cI cZ cL) yX0_takeIn wsX0_takeIn ({ frames := 7, cells := 1, slots := 6, locals := 111 } : Room) [.ref (ad 0), .int x, .int r0] (wh_hall cI cZ ad M) (fun r (_ : Unit) => co_take M x r0 = 0 ∧ vp_in x 10 ∧ vp_in r0 40 ∧ mq_bc M < 48 ∧ r = nI (mq_bc M)) (fun _ => wh_hall cI cZ ad (mo_take M x r0)) (mo_px xe_I xe_S (co_take M x r0)) 1 6 := by
  refine bh_ofXi (cc := cX0_takeIn) (maxL := 4) (by decide +kernel) rfl (Nat.le_of_ble_eq_true rfl) ?_
  intro p e s m args below meth c A Q C hQ hE hno
  refine bh_eqlv (lv' := [(0, .ref (ad 0)), (1, .int x), (2, .int r0)]) rfl ?_
  have hfc := MI_fc hI; have hbc := MI_bc hI; have hsc := MI_sc hI; have hnow := MI_now2 hI
  refine bh_aload_n C dX0_takeIn_0 rfl 0 rfl ?_
  refine bh_iload_n C dX0_takeIn_1 rfl 1 rfl ?_
  refine bh_xcallv (As := [.int x]) C hQ hE hno (ct_X0_requireFlight l hl D cI cZ cL ad M x hI) (cwV 1 C.1.2.2.2.2 gX0_takeIn_X0_requireFlight rfl rfl rfl (by decide +kernel) ⟨Nat.le_of_ble_eq_true rfl, Nat.le_of_ble_eq_true rfl⟩) (ci := 0) rfl 0 rfl rfl rfl (Nat.le_of_ble_eq_true rfl) dX0_takeIn_2 ⟨Nat.le_of_ble_eq_true rfl, Nat.le_of_ble_eq_true rfl⟩ (Nat.le_of_ble_eq_true rfl) (Nat.le_of_ble_eq_true rfl) (fun E h9 => Or.inl ⟨h9.1, co_take1 (fun z => h9.2 z.1)⟩) (fun u_2 hp_2 => ?_)
  refine bh_aload_n C dX0_takeIn_5 rfl 0 rfl ?_
  refine bh_iload_n C dX0_takeIn_6 rfl 2 rfl ?_
  refine bh_xcallv (As := [.int r0]) C hQ hE hno (ct_X0_requireRider l hl D cI cZ cL ad M r0 hI) (cwV 1 C.1.2.2.2.2 gX0_takeIn_X0_requireRider rfl rfl rfl (by decide +kernel) ⟨Nat.le_of_ble_eq_true rfl, Nat.le_of_ble_eq_true rfl⟩) (ci := 0) rfl 0 rfl rfl rfl (Nat.le_of_ble_eq_true rfl) dX0_takeIn_7 ⟨Nat.le_of_ble_eq_true rfl, Nat.le_of_ble_eq_true rfl⟩ (Nat.le_of_ble_eq_true rfl) (Nat.le_of_ble_eq_true rfl) (fun E h9 => Or.inl ⟨h9.1, co_take1 (fun z => h9.2 z.2)⟩) (fun u_7 hp_7 => ?_)
  refine bh_aload_n C dX0_takeIn_10 rfl 0 rfl ?_
  refine bh_get C ct_X0_takeIn_in 0 rfl rfl 5 (by decide) (by decide +kernel) rfl (v := .int (nI (mq_bc M))) rfl dX0_takeIn_11 ?_
  refine bh_bipush (v := 48) C dX0_takeIn_14 (by decide) ?_
  refine bh_icmp_lt (tgt := 29) C dX0_takeIn_16 (by decide) (fun c_16 => ?_) (fun c_16 => ?_)
  · skip
    have c_16 := (nI_ltI (b := 48) (by omega) (by decide)).mp c_16
    refine bh_aload_n C dX0_takeIn_29 rfl 0 rfl ?_
    refine bh_iload_n C dX0_takeIn_30 rfl 1 rfl ?_
    refine bh_xcallv (As := [.int x]) C hQ hE hno (ct_X0_requireNotDeparted l hl D cI cZ cL ad M x (bh_inW hp_2 hfc)) (cwV 1 C.1.2.2.2.2 gX0_takeIn_X0_requireNotDeparted rfl rfl rfl (by decide +kernel) ⟨Nat.le_of_ble_eq_true rfl, Nat.le_of_ble_eq_true rfl⟩) (ci := 0) rfl 0 rfl rfl rfl (Nat.le_of_ble_eq_true rfl) dX0_takeIn_31 ⟨Nat.le_of_ble_eq_true rfl, Nat.le_of_ble_eq_true rfl⟩ (Nat.le_of_ble_eq_true rfl) (Nat.le_of_ble_eq_true rfl) (fun E h9 => Or.inr ⟨h9.1, co_take2 hp_2 hp_7 (Or.inr (Int32.not_lt.mp h9.2))⟩) (fun u_31 hp_31 => ?_)
    refine bh_aload_n C dX0_takeIn_34 rfl 0 rfl ?_
    refine bh_get C ct_X0_takeIn_in 0 rfl rfl 5 (by decide) (by decide +kernel) rfl (v := .int (nI (mq_bc M))) rfl dX0_takeIn_35 ?_
    refine bh_istore_n (lv' := [(3, .int (nI (mq_bc M))), (0, .ref (ad 0)), (1, .int x), (2, .int r0)]) C dX0_takeIn_38 rfl (by decide) rfl ?_
    refine bh_aload_n C dX0_takeIn_39 rfl 1 rfl ?_
    refine bh_get C ct_X0_takeIn_in 0 rfl rfl 6 (by decide) (by decide +kernel) rfl (v := .ref (ad 6)) rfl dX0_takeIn_40 ?_
    refine bh_iload_n C dX0_takeIn_43 rfl 0 rfl ?_
    refine bh_iload_n C dX0_takeIn_44 rfl 2 rfl ?_
    refine bh_eqw (w' := wh_hallX cI cZ ad (mq_now M) (mq_fc M) (mq_bc M) (mq_sc M) (mq_dep M) (mq_lat M) (mq_brd M) (mq_bf M) (mq_br M) (mq_pu M) (mq_pl M) (mq_ls M) (mq_ca M) (mq_at M) (mq_sb M) (mq_sp M) (mq_st M)) rfl ?_
    refine bh_iast (w' := wh_hallX cI cZ ad (mq_now M) (mq_fc M) (mq_bc M) (mq_sc M) (mq_dep M) (mq_lat M) (mq_brd M) (upd (mq_bf M) ((mq_bc M)) x) (mq_br M) (mq_pu M) (mq_pl M) (mq_ls M) (mq_ca M) (mq_at M) (mq_sb M) (mq_sp M) (mq_st M)) C 4 0 rfl rfl (vp_in_nI (n := (mq_bc M)) (by omega) (by decide)) dX0_takeIn_45 (by rw [nI_clamp (n := (mq_bc M)) (by omega)]; rfl) ?_
    refine bh_aload_n C dX0_takeIn_46 rfl 1 rfl ?_
    refine bh_get C ct_X0_takeIn_in 0 rfl rfl 7 (by decide) (by decide +kernel) rfl (v := .ref (ad 7)) rfl dX0_takeIn_47 ?_
    refine bh_iload_n C dX0_takeIn_50 rfl 0 rfl ?_
    refine bh_iload_n C dX0_takeIn_51 rfl 3 rfl ?_
    refine bh_iast (w' := wh_hallX cI cZ ad (mq_now M) (mq_fc M) (mq_bc M) (mq_sc M) (mq_dep M) (mq_lat M) (mq_brd M) (upd (mq_bf M) ((mq_bc M)) x) (upd (mq_br M) ((mq_bc M)) r0) (mq_pu M) (mq_pl M) (mq_ls M) (mq_ca M) (mq_at M) (mq_sb M) (mq_sp M) (mq_st M)) C 5 0 rfl rfl (vp_in_nI (n := (mq_bc M)) (by omega) (by decide)) dX0_takeIn_52 (by rw [nI_clamp (n := (mq_bc M)) (by omega)]; rfl) ?_
    refine bh_aload_n C dX0_takeIn_53 rfl 1 rfl ?_
    refine bh_get C ct_X0_takeIn_in 0 rfl rfl 9 (by decide) (by decide +kernel) rfl (v := .ref (ad 9)) rfl dX0_takeIn_54 ?_
    refine bh_iload_n C dX0_takeIn_57 rfl 0 rfl ?_
    refine bh_iconst (v := 0) C dX0_takeIn_58 (by decide) ?_
    refine bh_iast (w' := wh_hallX cI cZ ad (mq_now M) (mq_fc M) (mq_bc M) (mq_sc M) (mq_dep M) (mq_lat M) (mq_brd M) (upd (mq_bf M) ((mq_bc M)) x) (upd (mq_br M) ((mq_bc M)) r0) (mq_pu M) (upd (mq_pl M) ((mq_bc M)) 0) (mq_ls M) (mq_ca M) (mq_at M) (mq_sb M) (mq_sp M) (mq_st M)) C 7 0 rfl rfl (vp_in_nI (n := (mq_bc M)) (by omega) (by decide)) dX0_takeIn_59 (by rw [nI_clamp (n := (mq_bc M)) (by omega)]; rfl) ?_
    refine bh_aload_n C dX0_takeIn_60 rfl 1 rfl ?_
    refine bh_dup C dX0_takeIn_61 rfl ?_
    refine bh_get C ct_X0_takeIn_in 0 rfl rfl 5 (by decide) (by decide +kernel) rfl (v := .int (nI (mq_bc M))) rfl dX0_takeIn_62 ?_
    refine bh_iconst (v := 1) C dX0_takeIn_65 (by decide) ?_
    refine bh_iadd C dX0_takeIn_66 ?_
    refine bh_topi (nI_1 _) ?_
    refine bh_put (ty := .int) (v := .int (nI ((mq_bc M) + 1))) (w' := wh_hallX cI cZ ad (mq_now M) (mq_fc M) (((mq_bc M) + 1)) (mq_sc M) (mq_dep M) (mq_lat M) (mq_brd M) (upd (mq_bf M) ((mq_bc M)) x) (upd (mq_br M) ((mq_bc M)) r0) (mq_pu M) (upd (mq_pl M) ((mq_bc M)) 0) (mq_ls M) (mq_ca M) (mq_at M) (mq_sb M) (mq_sp M) (mq_st M)) C ct_X0_takeIn_in tyX0 tyX0_ok nmX0 0 rfl rfl 5 (by decide) (by decide +kernel) rfl rfl (by decide +kernel) rfl rfl (Nat.le_of_ble_eq_true rfl) dX0_takeIn_67 rfl ?_
    refine bh_iload_n C dX0_takeIn_70 rfl 0 rfl ?_
    exact bh_xzret C hQ dX0_takeIn_71 () (v := (nI (mq_bc M))) (w := wh_hallX cI cZ ad (mq_now M) (mq_fc M) (((mq_bc M) + 1)) (mq_sc M) (mq_dep M) (mq_lat M) (mq_brd M) (upd (mq_bf M) ((mq_bc M)) x) (upd (mq_br M) ((mq_bc M)) r0) (mq_pu M) (upd (mq_pl M) ((mq_bc M)) 0) (mq_ls M) (mq_ca M) (mq_at M) (mq_sb M) (mq_sp M) (mq_st M)) rfl rfl (Nat.le_of_ble_eq_true rfl) (Nat.le_of_ble_eq_true rfl) ⟨co_take0 hp_2 hp_7 c_16 hp_31, bh_inW hp_2 hfc, hp_7, c_16, rfl⟩
  · skip
    exact bh_throw C hE hno hl hQ (cls := xe_S) (text := "there are 48 bags") (by decide +kernel) (by decide +kernel) (by decide +kernel) (by decide +kernel) ct_X0_takeIn_at65 xe_hb65 xe_hg65_61 dX0_takeIn_19 dX0_takeIn_22 dX0_takeIn_23 dX0_takeIn_25 dX0_takeIn_28 (Nat.le_of_ble_eq_true rfl) (Nat.le_of_ble_eq_true rfl) (Nat.le_of_ble_eq_true rfl) (Nat.le_of_ble_eq_true rfl) (Nat.le_of_ble_eq_true rfl) (Nat.le_of_ble_eq_true rfl) (Or.inr ⟨rfl, co_take2 hp_2 hp_7 (Or.inl (bh_le (a := 48) (by decide) (by omega) (Int32.not_lt.mp c_16)))⟩)
set_option maxRecDepth 100000 in
set_option maxHeartbeats 4000000 in
theorem ct_X0_checkIn (l : Launch) (hl : l.stackTraces = false) (D : va_G) (cI cZ cL : ClassId) (ad : Nat → Nat) {K T : Nat} (M : MT) (x r0 : Int32) (hI : MI K T M) (hK4 : K + 4 ≤ 2048) : bh_Xi l D (wh_tys cI cZ cL) yX0_checkIn wsX0_checkIn ({ frames := 8, cells := 1, slots := 6, locals := 134 } : Room) [.ref (ad 0), .int x, .int r0] (wh_hall cI cZ ad M) (fun r (_ : Unit) => co_take M x r0 = 0 ∧ vp_in x 10 ∧ vp_in r0 40 ∧ mq_bc M < 48 ∧ r = nI (mq_bc M)) (fun _ => wh_hall cI cZ ad (mo_bring (mo_take M x r0) (mq_bc M) 1)) (mo_px xe_I xe_S (co_take M x r0)) 1 6 := by
  refine bh_ofXi (cc := cX0_checkIn) (maxL := 4) (by decide +kernel) rfl (Nat.le_of_ble_eq_true rfl) ?_
  intro p e s m args below meth c A Q C hQ hE hno
  refine bh_eqlv (lv' := [(0, .ref (ad 0)), (1, .int x), (2, .int r0)]) rfl ?_
  have hfc := MI_fc hI; have hbc := MI_bc hI; have hsc := MI_sc hI; have hnow := MI_now2 hI
  have hsc9 := MI_phi0 hI
  refine bh_aload_n C dX0_checkIn_0 rfl 0 rfl ?_
  refine bh_iload_n C dX0_checkIn_1 rfl 1 rfl ?_
  refine bh_iload_n C dX0_checkIn_2 rfl 2 rfl ?_
  refine bh_xcalli (As := [.int x, .int r0]) C hQ hE hno (ct_X0_takeIn l hl D cI cZ cL ad M x r0 hI) (cwV 2 C.1.2.2.2.2 gX0_checkIn_X0_takeIn rfl rfl rfl (by decide +kernel) ⟨Nat.le_of_ble_eq_true rfl, Nat.le_of_ble_eq_true rfl⟩) (ci := 0) rfl 0 rfl rfl rfl (Nat.le_of_ble_eq_true rfl) dX0_checkIn_3 ⟨Nat.le_of_ble_eq_true rfl, Nat.le_of_ble_eq_true rfl⟩ (Nat.le_of_ble_eq_true rfl) (Nat.le_of_ble_eq_true rfl) (fun E h9 => h9) (fun r_3 u_3 hp_3 => ?_)
  obtain ⟨hco, hx10, hr40, hb48, rfl⟩ := hp_3
  refine bh_istore_n (lv' := [(3, .int (nI (mq_bc M))), (0, .ref (ad 0)), (1, .int x), (2, .int r0)]) C dX0_checkIn_6 rfl (by decide) rfl ?_
  refine bh_aload_n C dX0_checkIn_7 rfl 1 rfl ?_
  refine bh_iload_n C dX0_checkIn_8 rfl 0 rfl ?_
  refine bh_iconst (v := 1) C dX0_checkIn_9 (by decide) ?_
  refine bh_callv_0 (As := [.int (nI (mq_bc M)), .int 1]) C (ct_X0_bring l D cI cZ cL ad (mo_take M x r0) (mq_bc M) 1 hb48 (vp_in_nI (n := 1) (by decide) (by decide)) (MI_pl (MI_take hI hx10 hr40 hb48) _) (show mq_sc M < 2048 by omega)) (cwV 2 C.1.2.2.2.2 gX0_checkIn_X0_bring rfl rfl rfl (by decide +kernel) ⟨Nat.le_of_ble_eq_true rfl, Nat.le_of_ble_eq_true rfl⟩) (ci := 0) rfl 0 rfl rfl rfl (Nat.le_of_ble_eq_true rfl) dX0_checkIn_10 ⟨Nat.le_of_ble_eq_true rfl, Nat.le_of_ble_eq_true rfl⟩ (fun u_10 hp_10 => ?_)
  refine bh_iload_n C dX0_checkIn_13 rfl 0 rfl ?_
  exact bh_xzret C hQ dX0_checkIn_14 () (v := (nI (mq_bc M))) (w := wh_hall cI cZ ad (mo_bring (mo_take M x r0) (mq_bc M) 1)) rfl rfl (Nat.le_of_ble_eq_true rfl) (Nat.le_of_ble_eq_true rfl) ⟨hco, hx10, hr40, hb48, rfl⟩
set_option maxRecDepth 100000 in
set_option maxHeartbeats 4000000 in
theorem ct_X0_transfer (l : Launch) (hl : l.stackTraces = false) (D : va_G) (cI cZ cL : ClassId) (ad : Nat → Nat) {K T : Nat} (M : MT) (x r0 : Int32) (hI : MI K T M) (hK4 : K + 4 ≤ 2048) : bh_Xi l D (wh_tys cI cZ cL) yX0_transfer wsX0_transfer ({ frames := 8, cells := 1, slots := 6, locals := 134 } : Room) [.ref (ad 0), .int x, .int r0] (wh_hall cI cZ ad M) (fun r (_ : Unit) => co_take M x r0 = 0 ∧ vp_in x 10 ∧ vp_in r0 40 ∧ mq_bc M < 48 ∧ r = nI (mq_bc M)) (fun _ => wh_hall cI cZ ad (mo_route (mo_take M x r0) (mq_bc M))) (mo_px xe_I xe_S (co_take M x r0)) 1 6 := by
  refine bh_ofXi (cc := cX0_transfer) (maxL := 4) (by decide +kernel) rfl (Nat.le_of_ble_eq_true rfl) ?_
  intro p e s m args below meth c A Q C hQ hE hno
  refine bh_eqlv (lv' := [(0, .ref (ad 0)), (1, .int x), (2, .int r0)]) rfl ?_
  have hfc := MI_fc hI; have hbc := MI_bc hI; have hsc := MI_sc hI; have hnow := MI_now2 hI
  have hsc9 := MI_phi0 hI
  refine bh_aload_n C dX0_transfer_0 rfl 0 rfl ?_
  refine bh_iload_n C dX0_transfer_1 rfl 1 rfl ?_
  refine bh_iload_n C dX0_transfer_2 rfl 2 rfl ?_
  refine bh_xcalli (As := [.int x, .int r0]) C hQ hE hno (ct_X0_takeIn l hl D cI cZ cL ad M x r0 hI) (cwV 2 C.1.2.2.2.2 gX0_transfer_X0_takeIn rfl rfl rfl (by decide +kernel) ⟨Nat.le_of_ble_eq_true rfl, Nat.le_of_ble_eq_true rfl⟩) (ci := 0) rfl 0 rfl rfl rfl (Nat.le_of_ble_eq_true rfl) dX0_transfer_3 ⟨Nat.le_of_ble_eq_true rfl, Nat.le_of_ble_eq_true rfl⟩ (Nat.le_of_ble_eq_true rfl) (Nat.le_of_ble_eq_true rfl) (fun E h9 => h9) (fun r_3 u_3 hp_3 => ?_)
  obtain ⟨hco, hx10, hr40, hb48, rfl⟩ := hp_3
  refine bh_istore_n (lv' := [(3, .int (nI (mq_bc M))), (0, .ref (ad 0)), (1, .int x), (2, .int r0)]) C dX0_transfer_6 rfl (by decide) rfl ?_
  refine bh_aload_n C dX0_transfer_7 rfl 1 rfl ?_
  refine bh_iload_n C dX0_transfer_8 rfl 0 rfl ?_
  refine bh_callv_0 (As := [.int (nI (mq_bc M))]) C (ct_X0_route l D cI cZ cL ad (mo_take M x r0) (mq_bc M) (MI_take hI hx10 hr40 hb48) hb48 (show mq_sc M < 2048 by omega)) (cwV 1 C.1.2.2.2.2 gX0_transfer_X0_route rfl rfl rfl (by decide +kernel) ⟨Nat.le_of_ble_eq_true rfl, Nat.le_of_ble_eq_true rfl⟩) (ci := 0) rfl 0 rfl rfl rfl (Nat.le_of_ble_eq_true rfl) dX0_transfer_9 ⟨Nat.le_of_ble_eq_true rfl, Nat.le_of_ble_eq_true rfl⟩ (fun u_9 hp_9 => ?_)
  refine bh_iload_n C dX0_transfer_12 rfl 0 rfl ?_
  exact bh_xzret C hQ dX0_transfer_13 () (v := (nI (mq_bc M))) (w := wh_hall cI cZ ad (mo_route (mo_take M x r0) (mq_bc M))) rfl rfl (Nat.le_of_ble_eq_true rfl) (Nat.le_of_ble_eq_true rfl) ⟨hco, hx10, hr40, hb48, rfl⟩
theorem ct_X0_decide_in : ∀ w ∈ wsX00, w ∈ wsX0_decide := by decide +kernel
theorem ct_X0_decide_at65 : ∀ z ∈ (vx_atS RX0 65 xe_S xe_ns).filter goodWord, z ∈ wsX0_decide := by decide +kernel
set_option maxRecDepth 100000 in
set_option maxHeartbeats 4000000 in
theorem ct_X0_decide (l : Launch) (hl : l.stackTraces = false) (D : va_G) (cI cZ cL : ClassId) (ad : Nat → Nat) {K T : Nat} (M : MT) (b z : Int32) (hI : MI K T M) (hK4 : K + 4 ≤ 2048) : bh_Xi l D (wh_tys cI cZ cL) yX0_decide wsX0_decide ({ frames := 7, cells := 1, slots := 6, locals := 111 } : Room) [.ref (ad 0), .int b, .int z] (wh_hall cI cZ ad M) (fun r (_ : Unit) => co_deci M b = 0 ∧ r = mq_pl (mo_dec M b.toNatClampNeg z) b.toNatClampNeg) (fun _ => wh_hall cI cZ ad (mo_dec M b.toNatClampNeg z)) (mo_px xe_I xe_S (co_deci M b)) 1 6 := by
  refine bh_ofXi (cc := cX0_decide) (maxL := 4) (by decide +kernel) rfl (Nat.le_of_ble_eq_true rfl) ?_
  intro p e s m args below meth c A Q C hQ hE hno
  refine bh_eqlv (lv' := [(0, .ref (ad 0)), (1, .int b), (2, .int z)]) rfl ?_
  have hfc := MI_fc hI; have hbc := MI_bc hI; have hsc := MI_sc hI; have hnow := MI_now2 hI
  have hsc9 := MI_phi0 hI
  refine bh_aload_n C dX0_decide_0 rfl 0 rfl ?_
  refine bh_iload_n C dX0_decide_1 rfl 1 rfl ?_
  refine bh_xcallv (As := [.int b]) C hQ hE hno (ct_X0_requireBag l hl D cI cZ cL ad M b hI) (cwV 1 C.1.2.2.2.2 gX0_decide_X0_requireBag rfl rfl rfl (by decide +kernel) ⟨Nat.le_of_ble_eq_true rfl, Nat.le_of_ble_eq_true rfl⟩) (ci := 0) rfl 0 rfl rfl rfl (Nat.le_of_ble_eq_true rfl) dX0_decide_2 ⟨Nat.le_of_ble_eq_true rfl, Nat.le_of_ble_eq_true rfl⟩ (Nat.le_of_ble_eq_true rfl) (Nat.le_of_ble_eq_true rfl) (fun E h9 => Or.inl ⟨h9.1, if_neg (mo_in_f h9.2)⟩) (fun u_2 hp_2 => ?_)
  have hb9 := hp_2
  obtain ⟨k, hk, rfl⟩ := vp_in_of hp_2 (by omega)
  have hk9 : (nI k).toNatClampNeg = k := nI_clamp (by omega)
  refine bh_aload_n C dX0_decide_5 rfl 0 rfl ?_
  refine bh_get C ct_X0_decide_in 0 rfl rfl 9 (by decide) (by decide +kernel) rfl (v := .ref (ad 9)) rfl dX0_decide_6 ?_
  refine bh_iload_n C dX0_decide_9 rfl 1 rfl ?_
  refine bh_iald C 7 0 (f := (mq_pl M)) rfl rfl (i := (nI k)) (vp_in_nI (n := k) (by omega) (by decide)) (x := ((mq_pl M) k)) (congrArg (mq_pl M) (nI_clamp (n := k) (by omega))) dX0_decide_10 ?_
  refine bh_istore_n (lv' := [(3, .int ((mq_pl M) k)), (0, .ref (ad 0)), (1, .int (nI k)), (2, .int z)]) C dX0_decide_11 rfl (by decide) rfl ?_
  refine bh_iload_n C dX0_decide_12 rfl 0 rfl ?_
  refine bh_iconst (v := 1) C dX0_decide_13 (by decide) ?_
  refine bh_icmp_eq (tgt := 37) C dX0_decide_14 (by decide) (fun c_14 => ?_) (fun c_14 => ?_)
  · skip
    refine bh_aload_n C dX0_decide_37 rfl 1 rfl ?_
    refine bh_get C ct_X0_decide_in 0 rfl rfl 0 (by decide) (by decide +kernel) rfl (v := .int (nI (mq_now M))) rfl dX0_decide_38 ?_
    refine bh_aload_n C dX0_decide_41 rfl 1 rfl ?_
    refine bh_get C ct_X0_decide_in 0 rfl rfl 11 (by decide) (by decide +kernel) rfl (v := .ref (ad 11)) rfl dX0_decide_42 ?_
    refine bh_iload_n C dX0_decide_45 rfl 2 rfl ?_
    refine bh_iald C 9 0 (f := (mq_ca M)) rfl rfl (i := (nI k)) (vp_in_nI (n := k) (by omega) (by decide)) (x := ((mq_ca M) k)) (congrArg (mq_ca M) (nI_clamp (n := k) (by omega))) dX0_decide_46 ?_
    refine bh_isub C dX0_decide_47 ?_
    refine bh_iload_n C dX0_decide_48 rfl 0 rfl ?_
    refine bh_calli_N (As := [.int ((mq_pl M) k)]) C (ct_X0_decisionTime l D cI cZ cL ad ((mq_pl M) k)) ⟨callB_of 1 C.1.2.2.2.2 ggX0_decide_X0_decisionTime rfl rfl rfl (C.1.2.2.2.2 _ (by decide +kernel)) (C.1.2.2.2.2 _ (by decide +kernel)) (by decide +kernel) ⟨Nat.le_of_ble_eq_true rfl, Nat.le_of_ble_eq_true rfl⟩, C.1.2.2.2.2 _ (by decide +kernel)⟩ rfl rfl (Nat.le_of_ble_eq_true rfl) dX0_decide_49 ⟨Nat.le_of_ble_eq_true rfl, Nat.le_of_ble_eq_true rfl⟩ (fun r_49 u_49 hp_49 => ?_)
    subst hp_49
    refine bh_icmp_ge (tgt := 65) C dX0_decide_52 (by decide) (fun c_52 => ?_) (fun c_52 => ?_)
    · skip
      refine bh_iload_n C dX0_decide_65 rfl 3 rfl ?_
      refine bh_if_eq (tgt := 77) C dX0_decide_66 (by decide) (fun c_66 => ?_) (fun c_66 => ?_)
      · skip
        refine bh_aload_n C dX0_decide_77 rfl 1 rfl ?_
        refine bh_iload_n C dX0_decide_78 rfl 2 rfl ?_
        refine bh_iload_n C dX0_decide_79 rfl 0 rfl ?_
        refine bh_calli_N (As := [.int ((mq_pl M) k)]) C (ct_X0_nextLevel l D cI cZ cL ad ((mq_pl M) k)) ⟨callB_of 1 C.1.2.2.2.2 ggX0_decide_X0_nextLevel rfl rfl rfl (C.1.2.2.2.2 _ (by decide +kernel)) (C.1.2.2.2.2 _ (by decide +kernel)) (by decide +kernel) ⟨Nat.le_of_ble_eq_true rfl, Nat.le_of_ble_eq_true rfl⟩, C.1.2.2.2.2 _ (by decide +kernel)⟩ rfl rfl (Nat.le_of_ble_eq_true rfl) dX0_decide_80 ⟨Nat.le_of_ble_eq_true rfl, Nat.le_of_ble_eq_true rfl⟩ (fun r_80 u_80 hp_80 => ?_)
        subst hp_80
        refine bh_callv_0 (As := [.int (nI k), .int (mo_nx ((mq_pl M) k))]) C (ct_X0_bring l D cI cZ cL ad M k (mo_nx ((mq_pl M) k)) (by omega) (mo_nx_in _) (MI_pl hI _) (show mq_sc M < 2048 by omega)) (cwV 2 C.1.2.2.2.2 gX0_decide_X0_bring rfl rfl rfl (by decide +kernel) ⟨Nat.le_of_ble_eq_true rfl, Nat.le_of_ble_eq_true rfl⟩) (ci := 0) rfl 0 rfl rfl rfl (Nat.le_of_ble_eq_true rfl) dX0_decide_83 ⟨Nat.le_of_ble_eq_true rfl, Nat.le_of_ble_eq_true rfl⟩ (fun u_83 hp_83 => ?_)
        refine bh_aload_n C dX0_decide_86 rfl 1 rfl ?_
        refine bh_get C ct_X0_decide_in 0 rfl rfl 9 (by decide) (by decide +kernel) rfl (v := .ref (ad 9)) rfl dX0_decide_87 ?_
        refine bh_iload_n C dX0_decide_90 rfl 2 rfl ?_
        refine bh_iald C 7 0 (f := (mq_pl (mo_bring M k (mo_nx ((mq_pl M) k))))) rfl rfl (i := (nI k)) (vp_in_nI (n := k) (by omega) (by decide)) (x := ((mq_pl (mo_bring M k (mo_nx ((mq_pl M) k)))) k)) (congrArg (mq_pl (mo_bring M k (mo_nx ((mq_pl M) k)))) (nI_clamp (n := k) (by omega))) dX0_decide_91 ?_
        exact bh_xzret C hQ dX0_decide_92 () (v := ((mq_pl (mo_bring M k (mo_nx ((mq_pl M) k)))) k)) (w := wh_hall cI cZ ad (mo_bring M k (mo_nx ((mq_pl M) k)))) (by rw [hk9]; exact congrArg (wh_hall cI cZ ad) (show mo_dec M k z = mo_bring M k (mo_nx (mq_pl M k)) from if_pos c_66).symm) rfl (Nat.le_of_ble_eq_true rfl) (Nat.le_of_ble_eq_true rfl) ⟨co_deci0 hb9 (by rw [hk9]; first | exact Or.inl c_14 | exact Or.inr (Or.inl c_19) | exact Or.inr (Or.inr c_24)) (by rw [hk9]; exact c_52), by rw [hk9]; exact congrArg (fun N => mq_pl N k) (show mo_dec M k z = mo_bring M k (mo_nx (mq_pl M k)) from if_pos c_66).symm⟩
      · skip
        refine bh_aload_n C dX0_decide_69 rfl 1 rfl ?_
        refine bh_iload_n C dX0_decide_70 rfl 2 rfl ?_
        refine bh_callv_0 (As := [.int (nI k)]) C (ct_X0_route l D cI cZ cL ad M k hI (by omega) (show mq_sc M < 2048 by omega)) (cwV 1 C.1.2.2.2.2 gX0_decide_X0_route rfl rfl rfl (by decide +kernel) ⟨Nat.le_of_ble_eq_true rfl, Nat.le_of_ble_eq_true rfl⟩) (ci := 0) rfl 0 rfl rfl rfl (Nat.le_of_ble_eq_true rfl) dX0_decide_71 ⟨Nat.le_of_ble_eq_true rfl, Nat.le_of_ble_eq_true rfl⟩ (fun u_71 hp_71 => ?_)
        refine bh_goto (tgt := 86) C dX0_decide_74 (by decide) ?_
        refine bh_aload_n C dX0_decide_86 rfl 1 rfl ?_
        refine bh_get C ct_X0_decide_in 0 rfl rfl 9 (by decide) (by decide +kernel) rfl (v := .ref (ad 9)) rfl dX0_decide_87 ?_
        refine bh_iload_n C dX0_decide_90 rfl 2 rfl ?_
        refine bh_iald C 7 0 (f := (mq_pl (mo_route M k))) rfl rfl (i := (nI k)) (vp_in_nI (n := k) (by omega) (by decide)) (x := ((mq_pl (mo_route M k)) k)) (congrArg (mq_pl (mo_route M k)) (nI_clamp (n := k) (by omega))) dX0_decide_91 ?_
        exact bh_xzret C hQ dX0_decide_92 () (v := ((mq_pl (mo_route M k)) k)) (w := wh_hall cI cZ ad (mo_route M k)) (by rw [hk9]; exact congrArg (wh_hall cI cZ ad) (show mo_dec M k z = mo_route M k from if_neg c_66).symm) rfl (Nat.le_of_ble_eq_true rfl) (Nat.le_of_ble_eq_true rfl) ⟨co_deci0 hb9 (by rw [hk9]; first | exact Or.inl c_14 | exact Or.inr (Or.inl c_19) | exact Or.inr (Or.inr c_24)) (by rw [hk9]; exact c_52), by rw [hk9]; exact congrArg (fun N => mq_pl N k) (show mo_dec M k z = mo_route M k from if_neg c_66).symm⟩
    · skip
      exact bh_throw C hE hno hl hQ (cls := xe_S) (text := "the decision takes longer") (by decide +kernel) (by decide +kernel) (by decide +kernel) (by decide +kernel) ct_X0_decide_at65 xe_hb65 xe_hg65_61 dX0_decide_55 dX0_decide_58 dX0_decide_59 dX0_decide_61 dX0_decide_64 (Nat.le_of_ble_eq_true rfl) (Nat.le_of_ble_eq_true rfl) (Nat.le_of_ble_eq_true rfl) (Nat.le_of_ble_eq_true rfl) (Nat.le_of_ble_eq_true rfl) (Nat.le_of_ble_eq_true rfl) (Or.inr ⟨rfl, co_deci2 hb9 (Or.inr (by rw [hk9]; exact bh_nle3 c_52))⟩)
  · skip
    refine bh_iload_n C dX0_decide_17 rfl 0 rfl ?_
    refine bh_iconst (v := 2) C dX0_decide_18 (by decide) ?_
    refine bh_icmp_eq (tgt := 37) C dX0_decide_19 (by decide) (fun c_19 => ?_) (fun c_19 => ?_)
    · skip
      refine bh_aload_n C dX0_decide_37 rfl 1 rfl ?_
      refine bh_get C ct_X0_decide_in 0 rfl rfl 0 (by decide) (by decide +kernel) rfl (v := .int (nI (mq_now M))) rfl dX0_decide_38 ?_
      refine bh_aload_n C dX0_decide_41 rfl 1 rfl ?_
      refine bh_get C ct_X0_decide_in 0 rfl rfl 11 (by decide) (by decide +kernel) rfl (v := .ref (ad 11)) rfl dX0_decide_42 ?_
      refine bh_iload_n C dX0_decide_45 rfl 2 rfl ?_
      refine bh_iald C 9 0 (f := (mq_ca M)) rfl rfl (i := (nI k)) (vp_in_nI (n := k) (by omega) (by decide)) (x := ((mq_ca M) k)) (congrArg (mq_ca M) (nI_clamp (n := k) (by omega))) dX0_decide_46 ?_
      refine bh_isub C dX0_decide_47 ?_
      refine bh_iload_n C dX0_decide_48 rfl 0 rfl ?_
      refine bh_calli_N (As := [.int ((mq_pl M) k)]) C (ct_X0_decisionTime l D cI cZ cL ad ((mq_pl M) k)) ⟨callB_of 1 C.1.2.2.2.2 ggX0_decide_X0_decisionTime rfl rfl rfl (C.1.2.2.2.2 _ (by decide +kernel)) (C.1.2.2.2.2 _ (by decide +kernel)) (by decide +kernel) ⟨Nat.le_of_ble_eq_true rfl, Nat.le_of_ble_eq_true rfl⟩, C.1.2.2.2.2 _ (by decide +kernel)⟩ rfl rfl (Nat.le_of_ble_eq_true rfl) dX0_decide_49 ⟨Nat.le_of_ble_eq_true rfl, Nat.le_of_ble_eq_true rfl⟩ (fun r_49 u_49 hp_49 => ?_)
      subst hp_49
      refine bh_icmp_ge (tgt := 65) C dX0_decide_52 (by decide) (fun c_52 => ?_) (fun c_52 => ?_)
      · skip
        refine bh_iload_n C dX0_decide_65 rfl 3 rfl ?_
        refine bh_if_eq (tgt := 77) C dX0_decide_66 (by decide) (fun c_66 => ?_) (fun c_66 => ?_)
        · skip
          refine bh_aload_n C dX0_decide_77 rfl 1 rfl ?_
          refine bh_iload_n C dX0_decide_78 rfl 2 rfl ?_
          refine bh_iload_n C dX0_decide_79 rfl 0 rfl ?_
          refine bh_calli_N (As := [.int ((mq_pl M) k)]) C (ct_X0_nextLevel l D cI cZ cL ad ((mq_pl M) k)) ⟨callB_of 1 C.1.2.2.2.2 ggX0_decide_X0_nextLevel rfl rfl rfl (C.1.2.2.2.2 _ (by decide +kernel)) (C.1.2.2.2.2 _ (by decide +kernel)) (by decide +kernel) ⟨Nat.le_of_ble_eq_true rfl, Nat.le_of_ble_eq_true rfl⟩, C.1.2.2.2.2 _ (by decide +kernel)⟩ rfl rfl (Nat.le_of_ble_eq_true rfl) dX0_decide_80 ⟨Nat.le_of_ble_eq_true rfl, Nat.le_of_ble_eq_true rfl⟩ (fun r_80 u_80 hp_80 => ?_)
          subst hp_80
          refine bh_callv_0 (As := [.int (nI k), .int (mo_nx ((mq_pl M) k))]) C (ct_X0_bring l D cI cZ cL ad M k (mo_nx ((mq_pl M) k)) (by omega) (mo_nx_in _) (MI_pl hI _) (show mq_sc M < 2048 by omega)) (cwV 2 C.1.2.2.2.2 gX0_decide_X0_bring rfl rfl rfl (by decide +kernel) ⟨Nat.le_of_ble_eq_true rfl, Nat.le_of_ble_eq_true rfl⟩) (ci := 0) rfl 0 rfl rfl rfl (Nat.le_of_ble_eq_true rfl) dX0_decide_83 ⟨Nat.le_of_ble_eq_true rfl, Nat.le_of_ble_eq_true rfl⟩ (fun u_83 hp_83 => ?_)
          refine bh_aload_n C dX0_decide_86 rfl 1 rfl ?_
          refine bh_get C ct_X0_decide_in 0 rfl rfl 9 (by decide) (by decide +kernel) rfl (v := .ref (ad 9)) rfl dX0_decide_87 ?_
          refine bh_iload_n C dX0_decide_90 rfl 2 rfl ?_
          refine bh_iald C 7 0 (f := (mq_pl (mo_bring M k (mo_nx ((mq_pl M) k))))) rfl rfl (i := (nI k)) (vp_in_nI (n := k) (by omega) (by decide)) (x := ((mq_pl (mo_bring M k (mo_nx ((mq_pl M) k)))) k)) (congrArg (mq_pl (mo_bring M k (mo_nx ((mq_pl M) k)))) (nI_clamp (n := k) (by omega))) dX0_decide_91 ?_
          exact bh_xzret C hQ dX0_decide_92 () (v := ((mq_pl (mo_bring M k (mo_nx ((mq_pl M) k)))) k)) (w := wh_hall cI cZ ad (mo_bring M k (mo_nx ((mq_pl M) k)))) (by rw [hk9]; exact congrArg (wh_hall cI cZ ad) (show mo_dec M k z = mo_bring M k (mo_nx (mq_pl M k)) from if_pos c_66).symm) rfl (Nat.le_of_ble_eq_true rfl) (Nat.le_of_ble_eq_true rfl) ⟨co_deci0 hb9 (by rw [hk9]; first | exact Or.inl c_14 | exact Or.inr (Or.inl c_19) | exact Or.inr (Or.inr c_24)) (by rw [hk9]; exact c_52), by rw [hk9]; exact congrArg (fun N => mq_pl N k) (show mo_dec M k z = mo_bring M k (mo_nx (mq_pl M k)) from if_pos c_66).symm⟩
        · skip
          refine bh_aload_n C dX0_decide_69 rfl 1 rfl ?_
          refine bh_iload_n C dX0_decide_70 rfl 2 rfl ?_
          refine bh_callv_0 (As := [.int (nI k)]) C (ct_X0_route l D cI cZ cL ad M k hI (by omega) (show mq_sc M < 2048 by omega)) (cwV 1 C.1.2.2.2.2 gX0_decide_X0_route rfl rfl rfl (by decide +kernel) ⟨Nat.le_of_ble_eq_true rfl, Nat.le_of_ble_eq_true rfl⟩) (ci := 0) rfl 0 rfl rfl rfl (Nat.le_of_ble_eq_true rfl) dX0_decide_71 ⟨Nat.le_of_ble_eq_true rfl, Nat.le_of_ble_eq_true rfl⟩ (fun u_71 hp_71 => ?_)
          refine bh_goto (tgt := 86) C dX0_decide_74 (by decide) ?_
          refine bh_aload_n C dX0_decide_86 rfl 1 rfl ?_
          refine bh_get C ct_X0_decide_in 0 rfl rfl 9 (by decide) (by decide +kernel) rfl (v := .ref (ad 9)) rfl dX0_decide_87 ?_
          refine bh_iload_n C dX0_decide_90 rfl 2 rfl ?_
          refine bh_iald C 7 0 (f := (mq_pl (mo_route M k))) rfl rfl (i := (nI k)) (vp_in_nI (n := k) (by omega) (by decide)) (x := ((mq_pl (mo_route M k)) k)) (congrArg (mq_pl (mo_route M k)) (nI_clamp (n := k) (by omega))) dX0_decide_91 ?_
          exact bh_xzret C hQ dX0_decide_92 () (v := ((mq_pl (mo_route M k)) k)) (w := wh_hall cI cZ ad (mo_route M k)) (by rw [hk9]; exact congrArg (wh_hall cI cZ ad) (show mo_dec M k z = mo_route M k from if_neg c_66).symm) rfl (Nat.le_of_ble_eq_true rfl) (Nat.le_of_ble_eq_true rfl) ⟨co_deci0 hb9 (by rw [hk9]; first | exact Or.inl c_14 | exact Or.inr (Or.inl c_19) | exact Or.inr (Or.inr c_24)) (by rw [hk9]; exact c_52), by rw [hk9]; exact congrArg (fun N => mq_pl N k) (show mo_dec M k z = mo_route M k from if_neg c_66).symm⟩
      · skip
        exact bh_throw C hE hno hl hQ (cls := xe_S) (text := "the decision takes longer") (by decide +kernel) (by decide +kernel) (by decide +kernel) (by decide +kernel) ct_X0_decide_at65 xe_hb65 xe_hg65_61 dX0_decide_55 dX0_decide_58 dX0_decide_59 dX0_decide_61 dX0_decide_64 (Nat.le_of_ble_eq_true rfl) (Nat.le_of_ble_eq_true rfl) (Nat.le_of_ble_eq_true rfl) (Nat.le_of_ble_eq_true rfl) (Nat.le_of_ble_eq_true rfl) (Nat.le_of_ble_eq_true rfl) (Or.inr ⟨rfl, co_deci2 hb9 (Or.inr (by rw [hk9]; exact bh_nle3 c_52))⟩)
    · skip
      refine bh_iload_n C dX0_decide_22 rfl 0 rfl ?_
      refine bh_iconst (v := 3) C dX0_decide_23 (by decide) ?_
      refine bh_icmp_eq (tgt := 37) C dX0_decide_24 (by decide) (fun c_24 => ?_) (fun c_24 => ?_)
      · skip
        refine bh_aload_n C dX0_decide_37 rfl 1 rfl ?_
        refine bh_get C ct_X0_decide_in 0 rfl rfl 0 (by decide) (by decide +kernel) rfl (v := .int (nI (mq_now M))) rfl dX0_decide_38 ?_
        refine bh_aload_n C dX0_decide_41 rfl 1 rfl ?_
        refine bh_get C ct_X0_decide_in 0 rfl rfl 11 (by decide) (by decide +kernel) rfl (v := .ref (ad 11)) rfl dX0_decide_42 ?_
        refine bh_iload_n C dX0_decide_45 rfl 2 rfl ?_
        refine bh_iald C 9 0 (f := (mq_ca M)) rfl rfl (i := (nI k)) (vp_in_nI (n := k) (by omega) (by decide)) (x := ((mq_ca M) k)) (congrArg (mq_ca M) (nI_clamp (n := k) (by omega))) dX0_decide_46 ?_
        refine bh_isub C dX0_decide_47 ?_
        refine bh_iload_n C dX0_decide_48 rfl 0 rfl ?_
        refine bh_calli_N (As := [.int ((mq_pl M) k)]) C (ct_X0_decisionTime l D cI cZ cL ad ((mq_pl M) k)) ⟨callB_of 1 C.1.2.2.2.2 ggX0_decide_X0_decisionTime rfl rfl rfl (C.1.2.2.2.2 _ (by decide +kernel)) (C.1.2.2.2.2 _ (by decide +kernel)) (by decide +kernel) ⟨Nat.le_of_ble_eq_true rfl, Nat.le_of_ble_eq_true rfl⟩, C.1.2.2.2.2 _ (by decide +kernel)⟩ rfl rfl (Nat.le_of_ble_eq_true rfl) dX0_decide_49 ⟨Nat.le_of_ble_eq_true rfl, Nat.le_of_ble_eq_true rfl⟩ (fun r_49 u_49 hp_49 => ?_)
        subst hp_49
        refine bh_icmp_ge (tgt := 65) C dX0_decide_52 (by decide) (fun c_52 => ?_) (fun c_52 => ?_)
        · skip
          refine bh_iload_n C dX0_decide_65 rfl 3 rfl ?_
          refine bh_if_eq (tgt := 77) C dX0_decide_66 (by decide) (fun c_66 => ?_) (fun c_66 => ?_)
          · skip
            refine bh_aload_n C dX0_decide_77 rfl 1 rfl ?_
            refine bh_iload_n C dX0_decide_78 rfl 2 rfl ?_
            refine bh_iload_n C dX0_decide_79 rfl 0 rfl ?_
            refine bh_calli_N (As := [.int ((mq_pl M) k)]) C (ct_X0_nextLevel l D cI cZ cL ad ((mq_pl M) k)) ⟨callB_of 1 C.1.2.2.2.2 ggX0_decide_X0_nextLevel rfl rfl rfl (C.1.2.2.2.2 _ (by decide +kernel)) (C.1.2.2.2.2 _ (by decide +kernel)) (by decide +kernel) ⟨Nat.le_of_ble_eq_true rfl, Nat.le_of_ble_eq_true rfl⟩, C.1.2.2.2.2 _ (by decide +kernel)⟩ rfl rfl (Nat.le_of_ble_eq_true rfl) dX0_decide_80 ⟨Nat.le_of_ble_eq_true rfl, Nat.le_of_ble_eq_true rfl⟩ (fun r_80 u_80 hp_80 => ?_)
            subst hp_80
            refine bh_callv_0 (As := [.int (nI k), .int (mo_nx ((mq_pl M) k))]) C (ct_X0_bring l D cI cZ cL ad M k (mo_nx ((mq_pl M) k)) (by omega) (mo_nx_in _) (MI_pl hI _) (show mq_sc M < 2048 by omega)) (cwV 2 C.1.2.2.2.2 gX0_decide_X0_bring rfl rfl rfl (by decide +kernel) ⟨Nat.le_of_ble_eq_true rfl, Nat.le_of_ble_eq_true rfl⟩) (ci := 0) rfl 0 rfl rfl rfl (Nat.le_of_ble_eq_true rfl) dX0_decide_83 ⟨Nat.le_of_ble_eq_true rfl, Nat.le_of_ble_eq_true rfl⟩ (fun u_83 hp_83 => ?_)
            refine bh_aload_n C dX0_decide_86 rfl 1 rfl ?_
            refine bh_get C ct_X0_decide_in 0 rfl rfl 9 (by decide) (by decide +kernel) rfl (v := .ref (ad 9)) rfl dX0_decide_87 ?_
            refine bh_iload_n C dX0_decide_90 rfl 2 rfl ?_
            refine bh_iald C 7 0 (f := (mq_pl (mo_bring M k (mo_nx ((mq_pl M) k))))) rfl rfl (i := (nI k)) (vp_in_nI (n := k) (by omega) (by decide)) (x := ((mq_pl (mo_bring M k (mo_nx ((mq_pl M) k)))) k)) (congrArg (mq_pl (mo_bring M k (mo_nx ((mq_pl M) k)))) (nI_clamp (n := k) (by omega))) dX0_decide_91 ?_
            exact bh_xzret C hQ dX0_decide_92 () (v := ((mq_pl (mo_bring M k (mo_nx ((mq_pl M) k)))) k)) (w := wh_hall cI cZ ad (mo_bring M k (mo_nx ((mq_pl M) k)))) (by rw [hk9]; exact congrArg (wh_hall cI cZ ad) (show mo_dec M k z = mo_bring M k (mo_nx (mq_pl M k)) from if_pos c_66).symm) rfl (Nat.le_of_ble_eq_true rfl) (Nat.le_of_ble_eq_true rfl) ⟨co_deci0 hb9 (by rw [hk9]; first | exact Or.inl c_14 | exact Or.inr (Or.inl c_19) | exact Or.inr (Or.inr c_24)) (by rw [hk9]; exact c_52), by rw [hk9]; exact congrArg (fun N => mq_pl N k) (show mo_dec M k z = mo_bring M k (mo_nx (mq_pl M k)) from if_pos c_66).symm⟩
          · skip
            refine bh_aload_n C dX0_decide_69 rfl 1 rfl ?_
            refine bh_iload_n C dX0_decide_70 rfl 2 rfl ?_
            refine bh_callv_0 (As := [.int (nI k)]) C (ct_X0_route l D cI cZ cL ad M k hI (by omega) (show mq_sc M < 2048 by omega)) (cwV 1 C.1.2.2.2.2 gX0_decide_X0_route rfl rfl rfl (by decide +kernel) ⟨Nat.le_of_ble_eq_true rfl, Nat.le_of_ble_eq_true rfl⟩) (ci := 0) rfl 0 rfl rfl rfl (Nat.le_of_ble_eq_true rfl) dX0_decide_71 ⟨Nat.le_of_ble_eq_true rfl, Nat.le_of_ble_eq_true rfl⟩ (fun u_71 hp_71 => ?_)
            refine bh_goto (tgt := 86) C dX0_decide_74 (by decide) ?_
            refine bh_aload_n C dX0_decide_86 rfl 1 rfl ?_
            refine bh_get C ct_X0_decide_in 0 rfl rfl 9 (by decide) (by decide +kernel) rfl (v := .ref (ad 9)) rfl dX0_decide_87 ?_
            refine bh_iload_n C dX0_decide_90 rfl 2 rfl ?_
            refine bh_iald C 7 0 (f := (mq_pl (mo_route M k))) rfl rfl (i := (nI k)) (vp_in_nI (n := k) (by omega) (by decide)) (x := ((mq_pl (mo_route M k)) k)) (congrArg (mq_pl (mo_route M k)) (nI_clamp (n := k) (by omega))) dX0_decide_91 ?_
            exact bh_xzret C hQ dX0_decide_92 () (v := ((mq_pl (mo_route M k)) k)) (w := wh_hall cI cZ ad (mo_route M k)) (by rw [hk9]; exact congrArg (wh_hall cI cZ ad) (show mo_dec M k z = mo_route M k from if_neg c_66).symm) rfl (Nat.le_of_ble_eq_true rfl) (Nat.le_of_ble_eq_true rfl) ⟨co_deci0 hb9 (by rw [hk9]; first | exact Or.inl c_14 | exact Or.inr (Or.inl c_19) | exact Or.inr (Or.inr c_24)) (by rw [hk9]; exact c_52), by rw [hk9]; exact congrArg (fun N => mq_pl N k) (show mo_dec M k z = mo_route M k from if_neg c_66).symm⟩
        · skip
          exact bh_throw C hE hno hl hQ (cls := xe_S) (text := "the decision takes longer") (by decide +kernel) (by decide +kernel) (by decide +kernel) (by decide +kernel) ct_X0_decide_at65 xe_hb65 xe_hg65_61 dX0_decide_55 dX0_decide_58 dX0_decide_59 dX0_decide_61 dX0_decide_64 (Nat.le_of_ble_eq_true rfl) (Nat.le_of_ble_eq_true rfl) (Nat.le_of_ble_eq_true rfl) (Nat.le_of_ble_eq_true rfl) (Nat.le_of_ble_eq_true rfl) (Nat.le_of_ble_eq_true rfl) (Or.inr ⟨rfl, co_deci2 hb9 (Or.inr (by rw [hk9]; exact bh_nle3 c_52))⟩)
      · skip
        exact bh_throw C hE hno hl hQ (cls := xe_S) (text := "the bag is not screened") (by decide +kernel) (by decide +kernel) (by decide +kernel) (by decide +kernel) ct_X0_decide_at65 xe_hb65 xe_hg65_61 dX0_decide_27 dX0_decide_30 dX0_decide_31 dX0_decide_33 dX0_decide_36 (Nat.le_of_ble_eq_true rfl) (Nat.le_of_ble_eq_true rfl) (Nat.le_of_ble_eq_true rfl) (Nat.le_of_ble_eq_true rfl) (Nat.le_of_ble_eq_true rfl) (Nat.le_of_ble_eq_true rfl) (Or.inr ⟨rfl, co_deci2 hb9 (Or.inl (by rw [hk9]; exact fun z => z.elim c_14 (fun z => z.elim c_19 c_24)))⟩)
theorem ct_X0_letGo_in : ∀ w ∈ wsX00, w ∈ wsX0_letGo := by decide +kernel
set_option maxRecDepth 100000 in
set_option maxHeartbeats 4000000 in
theorem ct_X0_letGo (l : Launch) (hl : l.stackTraces = false) (D : va_G) (cI cZ cL : ClassId) (ad : Nat → Nat) {K T : Nat} (M : MT) (b : Int32) (hI : MI K T M) (hK4 : K + 4 ≤ 2048) : bh_Xi l D (wh_tys cI cZ cL) yX0_letGo wsX0_letGo ({ frames := 7, cells := 1, slots := 6, locals := 112 } : Room) [.ref (ad 0), .int b] (wh_hall cI cZ ad M) (fun r (_ : Unit) => co_place M b 4 = 0 ∧ r = mq_pl (mo_route M b.toNatClampNeg) b.toNatClampNeg) (fun _ => wh_hall cI cZ ad (mo_route M b.toNatClampNeg)) (mo_px xe_I xe_S (co_place M b 4)) 1 6 := by
  refine bh_ofXi (cc := cX0_letGo) (maxL := 2) (by decide +kernel) rfl (Nat.le_of_ble_eq_true rfl) ?_
  intro p e s m args below meth c A Q C hQ hE hno
  refine bh_eqlv (lv' := [(0, .ref (ad 0)), (1, .int b)]) rfl ?_
  have hfc := MI_fc hI; have hbc := MI_bc hI; have hsc := MI_sc hI; have hnow := MI_now2 hI
  have hsc9 := MI_phi0 hI
  refine bh_aload_n C dX0_letGo_0 rfl 0 rfl ?_
  refine bh_iload_n C dX0_letGo_1 rfl 1 rfl ?_
  refine bh_xcallv (As := [.int b]) C hQ hE hno (ct_X0_requireBag l hl D cI cZ cL ad M b hI) (cwV 1 C.1.2.2.2.2 gX0_letGo_X0_requireBag rfl rfl rfl (by decide +kernel) ⟨Nat.le_of_ble_eq_true rfl, Nat.le_of_ble_eq_true rfl⟩) (ci := 0) rfl 0 rfl rfl rfl (Nat.le_of_ble_eq_true rfl) dX0_letGo_2 ⟨Nat.le_of_ble_eq_true rfl, Nat.le_of_ble_eq_true rfl⟩ (Nat.le_of_ble_eq_true rfl) (Nat.le_of_ble_eq_true rfl) (fun E h9 => Or.inl ⟨h9.1, if_neg (mo_in_f h9.2)⟩) (fun u_2 hp_2 => ?_)
  have hb9 := hp_2
  obtain ⟨k, hk, rfl⟩ := vp_in_of hp_2 (by omega)
  have hk9 : (nI k).toNatClampNeg = k := nI_clamp (by omega)
  refine bh_aload_n C dX0_letGo_5 rfl 0 rfl ?_
  refine bh_iload_n C dX0_letGo_6 rfl 1 rfl ?_
  refine bh_iconst (v := 4) C dX0_letGo_7 (by decide) ?_
  refine bh_xcallv (As := [.int (nI k), .int 4]) C hQ hE hno (ct_X0_requirePlace l hl D cI cZ cL ad M k 4 (by omega)) (cwV 2 C.1.2.2.2.2 gX0_letGo_X0_requirePlace rfl rfl rfl (by decide +kernel) ⟨Nat.le_of_ble_eq_true rfl, Nat.le_of_ble_eq_true rfl⟩) (ci := 0) rfl 0 rfl rfl rfl (Nat.le_of_ble_eq_true rfl) dX0_letGo_8 ⟨Nat.le_of_ble_eq_true rfl, Nat.le_of_ble_eq_true rfl⟩ (Nat.le_of_ble_eq_true rfl) (Nat.le_of_ble_eq_true rfl) (fun E h9 => Or.inr ⟨h9.1, co_place2 hb9 (by rw [hk9]; exact h9.2)⟩) (fun u_8 hp_8 => ?_)
  refine bh_aload_n C dX0_letGo_11 rfl 0 rfl ?_
  refine bh_iload_n C dX0_letGo_12 rfl 1 rfl ?_
  refine bh_callv_0 (As := [.int (nI k)]) C (ct_X0_route l D cI cZ cL ad M k hI (by omega) (show mq_sc M < 2048 by omega)) (cwV 1 C.1.2.2.2.2 gX0_letGo_X0_route rfl rfl rfl (by decide +kernel) ⟨Nat.le_of_ble_eq_true rfl, Nat.le_of_ble_eq_true rfl⟩) (ci := 0) rfl 0 rfl rfl rfl (Nat.le_of_ble_eq_true rfl) dX0_letGo_13 ⟨Nat.le_of_ble_eq_true rfl, Nat.le_of_ble_eq_true rfl⟩ (fun u_13 hp_13 => ?_)
  refine bh_aload_n C dX0_letGo_16 rfl 0 rfl ?_
  refine bh_get C ct_X0_letGo_in 0 rfl rfl 9 (by decide) (by decide +kernel) rfl (v := .ref (ad 9)) rfl dX0_letGo_17 ?_
  refine bh_iload_n C dX0_letGo_20 rfl 1 rfl ?_
  refine bh_iald C 7 0 (f := (mq_pl (mo_route M k))) rfl rfl (i := (nI k)) (vp_in_nI (n := k) (by omega) (by decide)) (x := ((mq_pl (mo_route M k)) k)) (congrArg (mq_pl (mo_route M k)) (nI_clamp (n := k) (by omega))) dX0_letGo_21 ?_
  exact bh_xzret C hQ dX0_letGo_22 () (v := ((mq_pl (mo_route M k)) k)) (w := wh_hall cI cZ ad (mo_route M k)) (by rw [hk9]) rfl (Nat.le_of_ble_eq_true rfl) (Nat.le_of_ble_eq_true rfl) ⟨co_place0 hb9 (by rw [hk9]; exact hp_8), by rw [hk9]⟩
theorem ct_X0_load_in : ∀ w ∈ wsX00, w ∈ wsX0_load := by decide +kernel
set_option maxRecDepth 100000 in
set_option maxHeartbeats 4000000 in
theorem ct_X0_load (l : Launch) (hl : l.stackTraces = false) (D : va_G) (cI cZ cL : ClassId) (ad : Nat → Nat) {K T : Nat} (M : MT) (b : Int32) (hI : MI K T M) (hK4 : K + 4 ≤ 2048) : bh_Xi l D (wh_tys cI cZ cL) yX0_load wsX0_load ({ frames := 7, cells := 1, slots := 6, locals := 112 } : Room) [.ref (ad 0), .int b] (wh_hall cI cZ ad M) (fun r (_ : Unit) => co_place M b 7 = 0 ∧ r = nI (mo_ld (mo_bring M b.toNatClampNeg 8) (mq_bf M b.toNatClampNeg))) (fun _ => wh_hall cI cZ ad (mo_bring M b.toNatClampNeg 8)) (mo_px xe_I xe_S (co_place M b 7)) 1 6 := by
  refine bh_ofXi (cc := cX0_load) (maxL := 2) (by decide +kernel) rfl (Nat.le_of_ble_eq_true rfl) ?_
  intro p e s m args below meth c A Q C hQ hE hno
  refine bh_eqlv (lv' := [(0, .ref (ad 0)), (1, .int b)]) rfl ?_
  have hfc := MI_fc hI; have hbc := MI_bc hI; have hsc := MI_sc hI; have hnow := MI_now2 hI
  have hsc9 := MI_phi0 hI
  refine bh_aload_n C dX0_load_0 rfl 0 rfl ?_
  refine bh_iload_n C dX0_load_1 rfl 1 rfl ?_
  refine bh_xcallv (As := [.int b]) C hQ hE hno (ct_X0_requireBag l hl D cI cZ cL ad M b hI) (cwV 1 C.1.2.2.2.2 gX0_load_X0_requireBag rfl rfl rfl (by decide +kernel) ⟨Nat.le_of_ble_eq_true rfl, Nat.le_of_ble_eq_true rfl⟩) (ci := 0) rfl 0 rfl rfl rfl (Nat.le_of_ble_eq_true rfl) dX0_load_2 ⟨Nat.le_of_ble_eq_true rfl, Nat.le_of_ble_eq_true rfl⟩ (Nat.le_of_ble_eq_true rfl) (Nat.le_of_ble_eq_true rfl) (fun E h9 => Or.inl ⟨h9.1, if_neg (mo_in_f h9.2)⟩) (fun u_2 hp_2 => ?_)
  have hb9 := hp_2
  obtain ⟨k, hk, rfl⟩ := vp_in_of hp_2 (by omega)
  have hk9 : (nI k).toNatClampNeg = k := nI_clamp (by omega)
  refine bh_aload_n C dX0_load_5 rfl 0 rfl ?_
  refine bh_iload_n C dX0_load_6 rfl 1 rfl ?_
  refine bh_bipush (v := 7) C dX0_load_7 (by decide) ?_
  refine bh_xcallv (As := [.int (nI k), .int 7]) C hQ hE hno (ct_X0_requirePlace l hl D cI cZ cL ad M k 7 (by omega)) (cwV 2 C.1.2.2.2.2 gX0_load_X0_requirePlace rfl rfl rfl (by decide +kernel) ⟨Nat.le_of_ble_eq_true rfl, Nat.le_of_ble_eq_true rfl⟩) (ci := 0) rfl 0 rfl rfl rfl (Nat.le_of_ble_eq_true rfl) dX0_load_9 ⟨Nat.le_of_ble_eq_true rfl, Nat.le_of_ble_eq_true rfl⟩ (Nat.le_of_ble_eq_true rfl) (Nat.le_of_ble_eq_true rfl) (fun E h9 => Or.inr ⟨h9.1, co_place2 hb9 (by rw [hk9]; exact h9.2)⟩) (fun u_9 hp_9 => ?_)
  refine bh_aload_n C dX0_load_12 rfl 0 rfl ?_
  refine bh_iload_n C dX0_load_13 rfl 1 rfl ?_
  refine bh_bipush (v := 8) C dX0_load_14 (by decide) ?_
  refine bh_callv_0 (As := [.int (nI k), .int 8]) C (ct_X0_bring l D cI cZ cL ad M k 8 (by omega) (vp_in_nI (n := 8) (by decide) (by decide)) (MI_pl hI _) (show mq_sc M < 2048 by omega)) (cwV 2 C.1.2.2.2.2 gX0_load_X0_bring rfl rfl rfl (by decide +kernel) ⟨Nat.le_of_ble_eq_true rfl, Nat.le_of_ble_eq_true rfl⟩) (ci := 0) rfl 0 rfl rfl rfl (Nat.le_of_ble_eq_true rfl) dX0_load_16 ⟨Nat.le_of_ble_eq_true rfl, Nat.le_of_ble_eq_true rfl⟩ (fun u_16 hp_16 => ?_)
  refine bh_aload_n C dX0_load_19 rfl 0 rfl ?_
  refine bh_aload_n C dX0_load_20 rfl 0 rfl ?_
  refine bh_get C ct_X0_load_in 0 rfl rfl 6 (by decide) (by decide +kernel) rfl (v := .ref (ad 6)) rfl dX0_load_21 ?_
  refine bh_iload_n C dX0_load_24 rfl 1 rfl ?_
  refine bh_iald C 4 0 (f := (mq_bf (mo_bring M k 8))) rfl rfl (i := (nI k)) (vp_in_nI (n := k) (by omega) (by decide)) (x := ((mq_bf (mo_bring M k 8)) k)) (congrArg (mq_bf (mo_bring M k 8)) (nI_clamp (n := k) (by omega))) dX0_load_25 ?_
  refine bh_calli_0 (As := [.int ((mq_bf (mo_bring M k 8)) k)]) C (ct_X0_loadedBags l D cI cZ cL ad (mo_bring M k 8) ((mq_bf (mo_bring M k 8)) k) (MI_bringC hI hk (vp_in_nI (n := 8) (by decide) (by decide)) hK4)) (cwV 1 C.1.2.2.2.2 gX0_load_X0_loadedBags rfl rfl rfl (by decide +kernel) ⟨Nat.le_of_ble_eq_true rfl, Nat.le_of_ble_eq_true rfl⟩) (ci := 0) rfl 0 rfl rfl rfl (Nat.le_of_ble_eq_true rfl) dX0_load_26 ⟨Nat.le_of_ble_eq_true rfl, Nat.le_of_ble_eq_true rfl⟩ (fun r_26 u_26 hp_26 => ?_)
  subst hp_26
  exact bh_xzret C hQ dX0_load_29 () (v := (nI (mo_ld (mo_bring M k 8) ((mq_bf (mo_bring M k 8)) k)))) (w := wh_hall cI cZ ad (mo_bring M k 8)) (by rw [hk9]) rfl (Nat.le_of_ble_eq_true rfl) (Nat.le_of_ble_eq_true rfl) ⟨co_place0 hb9 (by rw [hk9]; exact hp_9), by rw [hk9]; rfl⟩
theorem ct_X0_offload_in : ∀ w ∈ wsX00, w ∈ wsX0_offload := by decide +kernel
set_option maxRecDepth 100000 in
set_option maxHeartbeats 4000000 in
theorem ct_X0_offload (l : Launch) (hl : l.stackTraces = false) (D : va_G) (cI cZ cL : ClassId) (ad : Nat → Nat) {K T : Nat} (M : MT) (b : Int32) (hI : MI K T M) (hK4 : K + 4 ≤ 2048) : bh_Xi l D (wh_tys cI cZ cL) yX0_offload wsX0_offload ({ frames := 7, cells := 1, slots := 6, locals := 112 } : Room) [.ref (ad 0), .int b] (wh_hall cI cZ ad M) (fun r (_ : Unit) => co_place M b 8 = 0 ∧ r = nI (mo_ld (mo_bring M b.toNatClampNeg 10) (mq_bf M b.toNatClampNeg))) (fun _ => wh_hall cI cZ ad (mo_bring M b.toNatClampNeg 10)) (mo_px xe_I xe_S (co_place M b 8)) 1 6 := by
  refine bh_ofXi (cc := cX0_offload) (maxL := 2) (by decide +kernel) rfl (Nat.le_of_ble_eq_true rfl) ?_
  intro p e s m args below meth c A Q C hQ hE hno
  refine bh_eqlv (lv' := [(0, .ref (ad 0)), (1, .int b)]) rfl ?_
  have hfc := MI_fc hI; have hbc := MI_bc hI; have hsc := MI_sc hI; have hnow := MI_now2 hI
  have hsc9 := MI_phi0 hI
  refine bh_aload_n C dX0_offload_0 rfl 0 rfl ?_
  refine bh_iload_n C dX0_offload_1 rfl 1 rfl ?_
  refine bh_xcallv (As := [.int b]) C hQ hE hno (ct_X0_requireBag l hl D cI cZ cL ad M b hI) (cwV 1 C.1.2.2.2.2 gX0_offload_X0_requireBag rfl rfl rfl (by decide +kernel) ⟨Nat.le_of_ble_eq_true rfl, Nat.le_of_ble_eq_true rfl⟩) (ci := 0) rfl 0 rfl rfl rfl (Nat.le_of_ble_eq_true rfl) dX0_offload_2 ⟨Nat.le_of_ble_eq_true rfl, Nat.le_of_ble_eq_true rfl⟩ (Nat.le_of_ble_eq_true rfl) (Nat.le_of_ble_eq_true rfl) (fun E h9 => Or.inl ⟨h9.1, if_neg (mo_in_f h9.2)⟩) (fun u_2 hp_2 => ?_)
  have hb9 := hp_2
  obtain ⟨k, hk, rfl⟩ := vp_in_of hp_2 (by omega)
  have hk9 : (nI k).toNatClampNeg = k := nI_clamp (by omega)
  refine bh_aload_n C dX0_offload_5 rfl 0 rfl ?_
  refine bh_iload_n C dX0_offload_6 rfl 1 rfl ?_
  refine bh_bipush (v := 8) C dX0_offload_7 (by decide) ?_
  refine bh_xcallv (As := [.int (nI k), .int 8]) C hQ hE hno (ct_X0_requirePlace l hl D cI cZ cL ad M k 8 (by omega)) (cwV 2 C.1.2.2.2.2 gX0_offload_X0_requirePlace rfl rfl rfl (by decide +kernel) ⟨Nat.le_of_ble_eq_true rfl, Nat.le_of_ble_eq_true rfl⟩) (ci := 0) rfl 0 rfl rfl rfl (Nat.le_of_ble_eq_true rfl) dX0_offload_9 ⟨Nat.le_of_ble_eq_true rfl, Nat.le_of_ble_eq_true rfl⟩ (Nat.le_of_ble_eq_true rfl) (Nat.le_of_ble_eq_true rfl) (fun E h9 => Or.inr ⟨h9.1, co_place2 hb9 (by rw [hk9]; exact h9.2)⟩) (fun u_9 hp_9 => ?_)
  refine bh_aload_n C dX0_offload_12 rfl 0 rfl ?_
  refine bh_iload_n C dX0_offload_13 rfl 1 rfl ?_
  refine bh_bipush (v := 10) C dX0_offload_14 (by decide) ?_
  refine bh_callv_0 (As := [.int (nI k), .int 10]) C (ct_X0_bring l D cI cZ cL ad M k 10 (by omega) (vp_in_nI (n := 10) (by decide) (by decide)) (MI_pl hI _) (show mq_sc M < 2048 by omega)) (cwV 2 C.1.2.2.2.2 gX0_offload_X0_bring rfl rfl rfl (by decide +kernel) ⟨Nat.le_of_ble_eq_true rfl, Nat.le_of_ble_eq_true rfl⟩) (ci := 0) rfl 0 rfl rfl rfl (Nat.le_of_ble_eq_true rfl) dX0_offload_16 ⟨Nat.le_of_ble_eq_true rfl, Nat.le_of_ble_eq_true rfl⟩ (fun u_16 hp_16 => ?_)
  refine bh_aload_n C dX0_offload_19 rfl 0 rfl ?_
  refine bh_aload_n C dX0_offload_20 rfl 0 rfl ?_
  refine bh_get C ct_X0_offload_in 0 rfl rfl 6 (by decide) (by decide +kernel) rfl (v := .ref (ad 6)) rfl dX0_offload_21 ?_
  refine bh_iload_n C dX0_offload_24 rfl 1 rfl ?_
  refine bh_iald C 4 0 (f := (mq_bf (mo_bring M k 10))) rfl rfl (i := (nI k)) (vp_in_nI (n := k) (by omega) (by decide)) (x := ((mq_bf (mo_bring M k 10)) k)) (congrArg (mq_bf (mo_bring M k 10)) (nI_clamp (n := k) (by omega))) dX0_offload_25 ?_
  refine bh_calli_0 (As := [.int ((mq_bf (mo_bring M k 10)) k)]) C (ct_X0_loadedBags l D cI cZ cL ad (mo_bring M k 10) ((mq_bf (mo_bring M k 10)) k) (MI_bringC hI hk (vp_in_nI (n := 10) (by decide) (by decide)) hK4)) (cwV 1 C.1.2.2.2.2 gX0_offload_X0_loadedBags rfl rfl rfl (by decide +kernel) ⟨Nat.le_of_ble_eq_true rfl, Nat.le_of_ble_eq_true rfl⟩) (ci := 0) rfl 0 rfl rfl rfl (Nat.le_of_ble_eq_true rfl) dX0_offload_26 ⟨Nat.le_of_ble_eq_true rfl, Nat.le_of_ble_eq_true rfl⟩ (fun r_26 u_26 hp_26 => ?_)
  subst hp_26
  exact bh_xzret C hQ dX0_offload_29 () (v := (nI (mo_ld (mo_bring M k 10) ((mq_bf (mo_bring M k 10)) k)))) (w := wh_hall cI cZ ad (mo_bring M k 10)) (by rw [hk9]) rfl (Nat.le_of_ble_eq_true rfl) (Nat.le_of_ble_eq_true rfl) ⟨co_place0 hb9 (by rw [hk9]; exact hp_9), by rw [hk9]; rfl⟩
theorem ct_X0_sendOn_in : ∀ w ∈ wsX00, w ∈ wsX0_sendOn := by decide +kernel
theorem ct_X0_sendOn_at65 : ∀ z ∈ (vx_atS RX0 65 xe_S xe_ns).filter goodWord, z ∈ wsX0_sendOn := by decide +kernel
set_option maxRecDepth 100000 in
set_option maxHeartbeats 4000000 in
theorem ct_X0_sendOn (l : Launch) (hl : l.stackTraces = false) (D : va_G) (cI cZ cL : ClassId) (ad : Nat → Nat) {K T : Nat} (M : MT) (b x : Int32) (hI : MI K T M) (hK4 : K + 4 ≤ 2048) : bh_Xi l D (wh_tys cI cZ cL) yX0_sendOn wsX0_sendOn ({ frames := 7, cells := 1, slots := 6, locals := 111 } : Room) [.ref (ad 0), .int b, .int x] (wh_hall cI cZ ad M) (fun r (_ : Unit) => co_send M b x = 0 ∧ r = mq_pl (mo_route (mo_snd M b.toNatClampNeg x) b.toNatClampNeg) b.toNatClampNeg) (fun _ => wh_hall cI cZ ad (mo_route (mo_snd M b.toNatClampNeg x) b.toNatClampNeg)) (mo_px xe_I xe_S (co_send M b x)) 1 6 := by
  refine bh_ofXi (cc := cX0_sendOn) (maxL := 3) (by decide +kernel) rfl (Nat.le_of_ble_eq_true rfl) ?_
  intro p e s m args below meth c A Q C hQ hE hno
  refine bh_eqlv (lv' := [(0, .ref (ad 0)), (1, .int b), (2, .int x)]) rfl ?_
  have hfc := MI_fc hI; have hbc := MI_bc hI; have hsc := MI_sc hI; have hnow := MI_now2 hI
  have hsc9 := MI_phi0 hI
  refine bh_aload_n C dX0_sendOn_0 rfl 0 rfl ?_
  refine bh_iload_n C dX0_sendOn_1 rfl 1 rfl ?_
  refine bh_xcallv (As := [.int b]) C hQ hE hno (ct_X0_requireBag l hl D cI cZ cL ad M b hI) (cwV 1 C.1.2.2.2.2 gX0_sendOn_X0_requireBag rfl rfl rfl (by decide +kernel) ⟨Nat.le_of_ble_eq_true rfl, Nat.le_of_ble_eq_true rfl⟩) (ci := 0) rfl 0 rfl rfl rfl (Nat.le_of_ble_eq_true rfl) dX0_sendOn_2 ⟨Nat.le_of_ble_eq_true rfl, Nat.le_of_ble_eq_true rfl⟩ (Nat.le_of_ble_eq_true rfl) (Nat.le_of_ble_eq_true rfl) (fun E h9 => Or.inl ⟨h9.1, if_neg (fun z => h9.2 (mo_in_iff.mp z.1))⟩) (fun u_2 hp_2 => ?_)
  have hb9 := hp_2
  obtain ⟨k, hk, rfl⟩ := vp_in_of hp_2 (by omega)
  have hk9 : (nI k).toNatClampNeg = k := nI_clamp (by omega)
  refine bh_aload_n C dX0_sendOn_5 rfl 0 rfl ?_
  refine bh_iload_n C dX0_sendOn_6 rfl 2 rfl ?_
  refine bh_xcallv (As := [.int x]) C hQ hE hno (ct_X0_requireFlight l hl D cI cZ cL ad M x hI) (cwV 1 C.1.2.2.2.2 gX0_sendOn_X0_requireFlight rfl rfl rfl (by decide +kernel) ⟨Nat.le_of_ble_eq_true rfl, Nat.le_of_ble_eq_true rfl⟩) (ci := 0) rfl 0 rfl rfl rfl (Nat.le_of_ble_eq_true rfl) dX0_sendOn_7 ⟨Nat.le_of_ble_eq_true rfl, Nat.le_of_ble_eq_true rfl⟩ (Nat.le_of_ble_eq_true rfl) (Nat.le_of_ble_eq_true rfl) (fun E h9 => Or.inl ⟨h9.1, if_neg (fun z => h9.2 (mo_in_iff.mp z.2))⟩) (fun u_7 hp_7 => ?_)
  refine bh_aload_n C dX0_sendOn_10 rfl 0 rfl ?_
  refine bh_get C ct_X0_sendOn_in 0 rfl rfl 9 (by decide) (by decide +kernel) rfl (v := .ref (ad 9)) rfl dX0_sendOn_11 ?_
  refine bh_iload_n C dX0_sendOn_14 rfl 1 rfl ?_
  refine bh_iald C 7 0 (f := (mq_pl M)) rfl rfl (i := (nI k)) (vp_in_nI (n := k) (by omega) (by decide)) (x := ((mq_pl M) k)) (congrArg (mq_pl M) (nI_clamp (n := k) (by omega))) dX0_sendOn_15 ?_
  refine bh_bipush (v := 10) C dX0_sendOn_16 (by decide) ?_
  refine bh_icmp_eq (tgt := 42) C dX0_sendOn_18 (by decide) (fun c_18 => ?_) (fun c_18 => ?_)
  · skip
    refine bh_aload_n C dX0_sendOn_42 rfl 0 rfl ?_
    refine bh_iload_n C dX0_sendOn_43 rfl 2 rfl ?_
    refine bh_xcallv (As := [.int x]) C hQ hE hno (ct_X0_requireNotDeparted l hl D cI cZ cL ad M x (bh_inW hp_7 hfc)) (cwV 1 C.1.2.2.2.2 gX0_sendOn_X0_requireNotDeparted rfl rfl rfl (by decide +kernel) ⟨Nat.le_of_ble_eq_true rfl, Nat.le_of_ble_eq_true rfl⟩) (ci := 0) rfl 0 rfl rfl rfl (Nat.le_of_ble_eq_true rfl) dX0_sendOn_44 ⟨Nat.le_of_ble_eq_true rfl, Nat.le_of_ble_eq_true rfl⟩ (Nat.le_of_ble_eq_true rfl) (Nat.le_of_ble_eq_true rfl) (fun E h9 => Or.inr ⟨h9.1, co_send2 hb9 hp_7 (Or.inr (Int32.not_lt.mp h9.2))⟩) (fun u_44 hp_44 => ?_)
    refine bh_aload_n C dX0_sendOn_47 rfl 0 rfl ?_
    refine bh_get C ct_X0_sendOn_in 0 rfl rfl 6 (by decide) (by decide +kernel) rfl (v := .ref (ad 6)) rfl dX0_sendOn_48 ?_
    refine bh_iload_n C dX0_sendOn_51 rfl 1 rfl ?_
    refine bh_iload_n C dX0_sendOn_52 rfl 2 rfl ?_
    refine bh_eqw (w' := wh_hallX cI cZ ad (mq_now M) (mq_fc M) (mq_bc M) (mq_sc M) (mq_dep M) (mq_lat M) (mq_brd M) (mq_bf M) (mq_br M) (mq_pu M) (mq_pl M) (mq_ls M) (mq_ca M) (mq_at M) (mq_sb M) (mq_sp M) (mq_st M)) rfl ?_
    refine bh_iast (w' := wh_hallX cI cZ ad (mq_now M) (mq_fc M) (mq_bc M) (mq_sc M) (mq_dep M) (mq_lat M) (mq_brd M) (upd (mq_bf M) (k) x) (mq_br M) (mq_pu M) (mq_pl M) (mq_ls M) (mq_ca M) (mq_at M) (mq_sb M) (mq_sp M) (mq_st M)) C 4 0 rfl rfl (vp_in_nI (n := k) (by omega) (by decide)) dX0_sendOn_53 (by rw [nI_clamp (n := k) (by omega)]; rfl) ?_
    refine bh_aload_n C dX0_sendOn_54 rfl 0 rfl ?_
    refine bh_get C ct_X0_sendOn_in 0 rfl rfl 8 (by decide) (by decide +kernel) rfl (v := .ref (ad 8)) rfl dX0_sendOn_55 ?_
    refine bh_iload_n C dX0_sendOn_58 rfl 1 rfl ?_
    refine bh_iconst (v := 1) C dX0_sendOn_59 (by decide) ?_
    refine bh_zast (w' := wh_hallX cI cZ ad (mq_now M) (mq_fc M) (mq_bc M) (mq_sc M) (mq_dep M) (mq_lat M) (mq_brd M) (upd (mq_bf M) (k) x) (mq_br M) (upd (mq_pu M) (k) 1) (mq_pl M) (mq_ls M) (mq_ca M) (mq_at M) (mq_sb M) (mq_sp M) (mq_st M)) C 6 1 rfl rfl (vp_in_nI (n := k) (by omega) (by decide)) dX0_sendOn_60 (by rw [nI_clamp (n := k) (by omega), (by decide +kernel : vp_nar .boolean 1 = 1)]; rfl) ?_
    refine bh_aload_n C dX0_sendOn_61 rfl 0 rfl ?_
    refine bh_iload_n C dX0_sendOn_62 rfl 1 rfl ?_
    refine bh_eqw (w' := wh_hall cI cZ ad ((mq_now M), (mq_fc M), (mq_bc M), (mq_sc M), (mq_dep M), (mq_lat M), (mq_brd M), (upd (mq_bf M) (k) x), (mq_br M), (upd (mq_pu M) (k) 1), (mq_pl M), (mq_ls M), (mq_ca M), (mq_at M), (mq_sb M), (mq_sp M), (mq_st M))) rfl ?_
    refine bh_callv_0 (As := [.int (nI k)]) C (ct_X0_route l D cI cZ cL ad ((mq_now M), (mq_fc M), (mq_bc M), (mq_sc M), (mq_dep M), (mq_lat M), (mq_brd M), (upd (mq_bf M) (k) x), (mq_br M), (upd (mq_pu M) (k) 1), (mq_pl M), (mq_ls M), (mq_ca M), (mq_at M), (mq_sb M), (mq_sp M), (mq_st M)) k (MI_send hI hk (bh_inW hp_7 hfc)) (by omega) (show mq_sc M < 2048 by omega)) (cwV 1 C.1.2.2.2.2 gX0_sendOn_X0_route rfl rfl rfl (by decide +kernel) ⟨Nat.le_of_ble_eq_true rfl, Nat.le_of_ble_eq_true rfl⟩) (ci := 0) rfl 0 rfl rfl rfl (Nat.le_of_ble_eq_true rfl) dX0_sendOn_63 ⟨Nat.le_of_ble_eq_true rfl, Nat.le_of_ble_eq_true rfl⟩ (fun u_63 hp_63 => ?_)
    refine bh_aload_n C dX0_sendOn_66 rfl 0 rfl ?_
    refine bh_get C ct_X0_sendOn_in 0 rfl rfl 9 (by decide) (by decide +kernel) rfl (v := .ref (ad 9)) rfl dX0_sendOn_67 ?_
    refine bh_iload_n C dX0_sendOn_70 rfl 1 rfl ?_
    refine bh_iald C 7 0 (f := (mq_pl (mo_route ((mq_now M), (mq_fc M), (mq_bc M), (mq_sc M), (mq_dep M), (mq_lat M), (mq_brd M), (upd (mq_bf M) (k) x), (mq_br M), (upd (mq_pu M) (k) 1), (mq_pl M), (mq_ls M), (mq_ca M), (mq_at M), (mq_sb M), (mq_sp M), (mq_st M)) k))) rfl rfl (i := (nI k)) (vp_in_nI (n := k) (by omega) (by decide)) (x := ((mq_pl (mo_route ((mq_now M), (mq_fc M), (mq_bc M), (mq_sc M), (mq_dep M), (mq_lat M), (mq_brd M), (upd (mq_bf M) (k) x), (mq_br M), (upd (mq_pu M) (k) 1), (mq_pl M), (mq_ls M), (mq_ca M), (mq_at M), (mq_sb M), (mq_sp M), (mq_st M)) k)) k)) (congrArg (mq_pl (mo_route ((mq_now M), (mq_fc M), (mq_bc M), (mq_sc M), (mq_dep M), (mq_lat M), (mq_brd M), (upd (mq_bf M) (k) x), (mq_br M), (upd (mq_pu M) (k) 1), (mq_pl M), (mq_ls M), (mq_ca M), (mq_at M), (mq_sb M), (mq_sp M), (mq_st M)) k)) (nI_clamp (n := k) (by omega))) dX0_sendOn_71 ?_
    exact bh_xzret C hQ dX0_sendOn_72 () (v := ((mq_pl (mo_route ((mq_now M), (mq_fc M), (mq_bc M), (mq_sc M), (mq_dep M), (mq_lat M), (mq_brd M), (upd (mq_bf M) (k) x), (mq_br M), (upd (mq_pu M) (k) 1), (mq_pl M), (mq_ls M), (mq_ca M), (mq_at M), (mq_sb M), (mq_sp M), (mq_st M)) k)) k)) (w := wh_hall cI cZ ad (mo_route ((mq_now M), (mq_fc M), (mq_bc M), (mq_sc M), (mq_dep M), (mq_lat M), (mq_brd M), (upd (mq_bf M) (k) x), (mq_br M), (upd (mq_pu M) (k) 1), (mq_pl M), (mq_ls M), (mq_ca M), (mq_at M), (mq_sb M), (mq_sp M), (mq_st M)) k)) (by rw [hk9]; rfl) rfl (Nat.le_of_ble_eq_true rfl) (Nat.le_of_ble_eq_true rfl) ⟨co_send0 hb9 hp_7 (by rw [hk9]; first | exact Or.inl c_18 | exact Or.inr c_29) hp_44, by rw [hk9]; rfl⟩
  · skip
    refine bh_aload_n C dX0_sendOn_21 rfl 0 rfl ?_
    refine bh_get C ct_X0_sendOn_in 0 rfl rfl 9 (by decide) (by decide +kernel) rfl (v := .ref (ad 9)) rfl dX0_sendOn_22 ?_
    refine bh_iload_n C dX0_sendOn_25 rfl 1 rfl ?_
    refine bh_iald C 7 0 (f := (mq_pl M)) rfl rfl (i := (nI k)) (vp_in_nI (n := k) (by omega) (by decide)) (x := ((mq_pl M) k)) (congrArg (mq_pl M) (nI_clamp (n := k) (by omega))) dX0_sendOn_26 ?_
    refine bh_bipush (v := 11) C dX0_sendOn_27 (by decide) ?_
    refine bh_icmp_eq (tgt := 42) C dX0_sendOn_29 (by decide) (fun c_29 => ?_) (fun c_29 => ?_)
    · skip
      refine bh_aload_n C dX0_sendOn_42 rfl 0 rfl ?_
      refine bh_iload_n C dX0_sendOn_43 rfl 2 rfl ?_
      refine bh_xcallv (As := [.int x]) C hQ hE hno (ct_X0_requireNotDeparted l hl D cI cZ cL ad M x (bh_inW hp_7 hfc)) (cwV 1 C.1.2.2.2.2 gX0_sendOn_X0_requireNotDeparted rfl rfl rfl (by decide +kernel) ⟨Nat.le_of_ble_eq_true rfl, Nat.le_of_ble_eq_true rfl⟩) (ci := 0) rfl 0 rfl rfl rfl (Nat.le_of_ble_eq_true rfl) dX0_sendOn_44 ⟨Nat.le_of_ble_eq_true rfl, Nat.le_of_ble_eq_true rfl⟩ (Nat.le_of_ble_eq_true rfl) (Nat.le_of_ble_eq_true rfl) (fun E h9 => Or.inr ⟨h9.1, co_send2 hb9 hp_7 (Or.inr (Int32.not_lt.mp h9.2))⟩) (fun u_44 hp_44 => ?_)
      refine bh_aload_n C dX0_sendOn_47 rfl 0 rfl ?_
      refine bh_get C ct_X0_sendOn_in 0 rfl rfl 6 (by decide) (by decide +kernel) rfl (v := .ref (ad 6)) rfl dX0_sendOn_48 ?_
      refine bh_iload_n C dX0_sendOn_51 rfl 1 rfl ?_
      refine bh_iload_n C dX0_sendOn_52 rfl 2 rfl ?_
      refine bh_eqw (w' := wh_hallX cI cZ ad (mq_now M) (mq_fc M) (mq_bc M) (mq_sc M) (mq_dep M) (mq_lat M) (mq_brd M) (mq_bf M) (mq_br M) (mq_pu M) (mq_pl M) (mq_ls M) (mq_ca M) (mq_at M) (mq_sb M) (mq_sp M) (mq_st M)) rfl ?_
      refine bh_iast (w' := wh_hallX cI cZ ad (mq_now M) (mq_fc M) (mq_bc M) (mq_sc M) (mq_dep M) (mq_lat M) (mq_brd M) (upd (mq_bf M) (k) x) (mq_br M) (mq_pu M) (mq_pl M) (mq_ls M) (mq_ca M) (mq_at M) (mq_sb M) (mq_sp M) (mq_st M)) C 4 0 rfl rfl (vp_in_nI (n := k) (by omega) (by decide)) dX0_sendOn_53 (by rw [nI_clamp (n := k) (by omega)]; rfl) ?_
      refine bh_aload_n C dX0_sendOn_54 rfl 0 rfl ?_
      refine bh_get C ct_X0_sendOn_in 0 rfl rfl 8 (by decide) (by decide +kernel) rfl (v := .ref (ad 8)) rfl dX0_sendOn_55 ?_
      refine bh_iload_n C dX0_sendOn_58 rfl 1 rfl ?_
      refine bh_iconst (v := 1) C dX0_sendOn_59 (by decide) ?_
      refine bh_zast (w' := wh_hallX cI cZ ad (mq_now M) (mq_fc M) (mq_bc M) (mq_sc M) (mq_dep M) (mq_lat M) (mq_brd M) (upd (mq_bf M) (k) x) (mq_br M) (upd (mq_pu M) (k) 1) (mq_pl M) (mq_ls M) (mq_ca M) (mq_at M) (mq_sb M) (mq_sp M) (mq_st M)) C 6 1 rfl rfl (vp_in_nI (n := k) (by omega) (by decide)) dX0_sendOn_60 (by rw [nI_clamp (n := k) (by omega), (by decide +kernel : vp_nar .boolean 1 = 1)]; rfl) ?_
      refine bh_aload_n C dX0_sendOn_61 rfl 0 rfl ?_
      refine bh_iload_n C dX0_sendOn_62 rfl 1 rfl ?_
      refine bh_eqw (w' := wh_hall cI cZ ad ((mq_now M), (mq_fc M), (mq_bc M), (mq_sc M), (mq_dep M), (mq_lat M), (mq_brd M), (upd (mq_bf M) (k) x), (mq_br M), (upd (mq_pu M) (k) 1), (mq_pl M), (mq_ls M), (mq_ca M), (mq_at M), (mq_sb M), (mq_sp M), (mq_st M))) rfl ?_
      refine bh_callv_0 (As := [.int (nI k)]) C (ct_X0_route l D cI cZ cL ad ((mq_now M), (mq_fc M), (mq_bc M), (mq_sc M), (mq_dep M), (mq_lat M), (mq_brd M), (upd (mq_bf M) (k) x), (mq_br M), (upd (mq_pu M) (k) 1), (mq_pl M), (mq_ls M), (mq_ca M), (mq_at M), (mq_sb M), (mq_sp M), (mq_st M)) k (MI_send hI hk (bh_inW hp_7 hfc)) (by omega) (show mq_sc M < 2048 by omega)) (cwV 1 C.1.2.2.2.2 gX0_sendOn_X0_route rfl rfl rfl (by decide +kernel) ⟨Nat.le_of_ble_eq_true rfl, Nat.le_of_ble_eq_true rfl⟩) (ci := 0) rfl 0 rfl rfl rfl (Nat.le_of_ble_eq_true rfl) dX0_sendOn_63 ⟨Nat.le_of_ble_eq_true rfl, Nat.le_of_ble_eq_true rfl⟩ (fun u_63 hp_63 => ?_)
      refine bh_aload_n C dX0_sendOn_66 rfl 0 rfl ?_
      refine bh_get C ct_X0_sendOn_in 0 rfl rfl 9 (by decide) (by decide +kernel) rfl (v := .ref (ad 9)) rfl dX0_sendOn_67 ?_
      refine bh_iload_n C dX0_sendOn_70 rfl 1 rfl ?_
      refine bh_iald C 7 0 (f := (mq_pl (mo_route ((mq_now M), (mq_fc M), (mq_bc M), (mq_sc M), (mq_dep M), (mq_lat M), (mq_brd M), (upd (mq_bf M) (k) x), (mq_br M), (upd (mq_pu M) (k) 1), (mq_pl M), (mq_ls M), (mq_ca M), (mq_at M), (mq_sb M), (mq_sp M), (mq_st M)) k))) rfl rfl (i := (nI k)) (vp_in_nI (n := k) (by omega) (by decide)) (x := ((mq_pl (mo_route ((mq_now M), (mq_fc M), (mq_bc M), (mq_sc M), (mq_dep M), (mq_lat M), (mq_brd M), (upd (mq_bf M) (k) x), (mq_br M), (upd (mq_pu M) (k) 1), (mq_pl M), (mq_ls M), (mq_ca M), (mq_at M), (mq_sb M), (mq_sp M), (mq_st M)) k)) k)) (congrArg (mq_pl (mo_route ((mq_now M), (mq_fc M), (mq_bc M), (mq_sc M), (mq_dep M), (mq_lat M), (mq_brd M), (upd (mq_bf M) (k) x), (mq_br M), (upd (mq_pu M) (k) 1), (mq_pl M), (mq_ls M), (mq_ca M), (mq_at M), (mq_sb M), (mq_sp M), (mq_st M)) k)) (nI_clamp (n := k) (by omega))) dX0_sendOn_71 ?_
      exact bh_xzret C hQ dX0_sendOn_72 () (v := ((mq_pl (mo_route ((mq_now M), (mq_fc M), (mq_bc M), (mq_sc M), (mq_dep M), (mq_lat M), (mq_brd M), (upd (mq_bf M) (k) x), (mq_br M), (upd (mq_pu M) (k) 1), (mq_pl M), (mq_ls M), (mq_ca M), (mq_at M), (mq_sb M), (mq_sp M), (mq_st M)) k)) k)) (w := wh_hall cI cZ ad (mo_route ((mq_now M), (mq_fc M), (mq_bc M), (mq_sc M), (mq_dep M), (mq_lat M), (mq_brd M), (upd (mq_bf M) (k) x), (mq_br M), (upd (mq_pu M) (k) 1), (mq_pl M), (mq_ls M), (mq_ca M), (mq_at M), (mq_sb M), (mq_sp M), (mq_st M)) k)) (by rw [hk9]; rfl) rfl (Nat.le_of_ble_eq_true rfl) (Nat.le_of_ble_eq_true rfl) ⟨co_send0 hb9 hp_7 (by rw [hk9]; first | exact Or.inl c_18 | exact Or.inr c_29) hp_44, by rw [hk9]; rfl⟩
    · skip
      exact bh_throw C hE hno hl hQ (cls := xe_S) (text := "the bag is neither OFFLOADED nor LATE") (by decide +kernel) (by decide +kernel) (by decide +kernel) (by decide +kernel) ct_X0_sendOn_at65 xe_hb65 xe_hg65_61 dX0_sendOn_32 dX0_sendOn_35 dX0_sendOn_36 dX0_sendOn_38 dX0_sendOn_41 (Nat.le_of_ble_eq_true rfl) (Nat.le_of_ble_eq_true rfl) (Nat.le_of_ble_eq_true rfl) (Nat.le_of_ble_eq_true rfl) (Nat.le_of_ble_eq_true rfl) (Nat.le_of_ble_eq_true rfl) (Or.inr ⟨rfl, co_send2 hb9 hp_7 (Or.inl (by rw [hk9]; exact fun z => z.elim c_18 c_29))⟩)
theorem ct_X0_placeByScans_in : ∀ w ∈ wsX00, w ∈ wsX0_placeByScans := by decide +kernel
theorem ct_X0_placeByScans_at54 : ∀ z ∈ (vx_atS RX0 54 xe_A xe_ns).filter goodWord, z ∈ wsX0_placeByScans := by decide +kernel
set_option maxRecDepth 100000 in
set_option maxHeartbeats 4000000 in
theorem ct_X0_placeByScans (l : Launch) (hl : l.stackTraces = false) (D : va_G) (cI cZ cL : ClassId) (ad : Nat → Nat) {K T : Nat} (M : MT) (b t : Int32) (hI : MI K T M) : bh_Xi l D (wh_tys cI cZ cL) yX0_placeByScans wsX0_placeByScans ({ frames := 7, cells := 1, slots := 6, locals := 111 } : Room) [.ref (ad 0), .int b, .int t] (wh_hall cI cZ ad M) (fun r (_ : Unit) => co_pbs M b t = 0 ∧ r = mo_pbs M b t (mq_sc M)) (fun _ => wh_hall cI cZ ad M) (mo_px xe_I xe_A (co_pbs M b t)) 1 6 := by
  refine bh_ofXi (cc := cX0_placeByScans) (maxL := 4) (by decide +kernel) rfl (Nat.le_of_ble_eq_true rfl) ?_
  intro p e s m args below meth c A Q C hQ hE hno
  refine bh_eqlv (lv' := [(0, .ref (ad 0)), (1, .int b), (2, .int t)]) rfl ?_
  have hfc := MI_fc hI; have hbc := MI_bc hI; have hsc := MI_sc hI; have hnow := MI_now2 hI
  refine bh_aload_n C dX0_placeByScans_0 rfl 0 rfl ?_
  refine bh_iload_n C dX0_placeByScans_1 rfl 1 rfl ?_
  refine bh_xcallv (As := [.int b]) C hQ hE hno (ct_X0_requireBag l hl D cI cZ cL ad M b hI) (cwV 1 C.1.2.2.2.2 gX0_placeByScans_X0_requireBag rfl rfl rfl (by decide +kernel) ⟨Nat.le_of_ble_eq_true rfl, Nat.le_of_ble_eq_true rfl⟩) (ci := 0) rfl 0 rfl rfl rfl (Nat.le_of_ble_eq_true rfl) dX0_placeByScans_2 ⟨Nat.le_of_ble_eq_true rfl, Nat.le_of_ble_eq_true rfl⟩ (Nat.le_of_ble_eq_true rfl) (Nat.le_of_ble_eq_true rfl) (fun E h9 => Or.inl ⟨h9.1, if_neg (mo_in_f h9.2)⟩) (fun u_2 hp_2 => ?_)
  have hb9 := hp_2
  obtain ⟨k, hk, rfl⟩ := vp_in_of hp_2 (by omega)
  have hk9 : (nI k).toNatClampNeg = k := nI_clamp (by omega)
  refine bh_iload_n C dX0_placeByScans_5 rfl 2 rfl ?_
  refine bh_if_lt (tgt := 17) C dX0_placeByScans_6 (by decide) (fun c_6 => ?_) (fun c_6 => ?_)
  · skip
    exact bh_throw C hE hno hl hQ (cls := xe_A) (text := "time must be 0 to now") (by decide +kernel) (by decide +kernel) (by decide +kernel) (by decide +kernel) ct_X0_placeByScans_at54 xe_hb54 xe_hg54_50 dX0_placeByScans_17 dX0_placeByScans_20 dX0_placeByScans_21 dX0_placeByScans_23 dX0_placeByScans_26 (Nat.le_of_ble_eq_true rfl) (Nat.le_of_ble_eq_true rfl) (Nat.le_of_ble_eq_true rfl) (Nat.le_of_ble_eq_true rfl) (Nat.le_of_ble_eq_true rfl) (Nat.le_of_ble_eq_true rfl) (Or.inr ⟨rfl, co_pbs2 hb9 (by first | exact Or.inl c_6 | exact Or.inr (bh_nle3 c_14))⟩)
  · skip
    refine bh_iload_n C dX0_placeByScans_9 rfl 2 rfl ?_
    refine bh_aload_n C dX0_placeByScans_10 rfl 0 rfl ?_
    refine bh_get C ct_X0_placeByScans_in 0 rfl rfl 0 (by decide) (by decide +kernel) rfl (v := .int (nI (mq_now M))) rfl dX0_placeByScans_11 ?_
    refine bh_icmp_le (tgt := 27) C dX0_placeByScans_14 (by decide) (fun c_14 => ?_) (fun c_14 => ?_)
    · skip
      refine bh_aload_n C dX0_placeByScans_27 rfl 0 rfl ?_
      refine bh_get C ct_X0_placeByScans_in 0 rfl rfl 13 (by decide) (by decide +kernel) rfl (v := .int (nI (mq_sc M))) rfl dX0_placeByScans_28 ?_
      refine bh_iconst (v := 1) C dX0_placeByScans_31 (by decide) ?_
      refine bh_isub C dX0_placeByScans_32 ?_
      refine bh_istore_n (lv' := [(3, .int ((nI (mq_sc M)) - 1)), (0, .ref (ad 0)), (1, .int (nI k)), (2, .int t)]) C dX0_placeByScans_33 rfl (by decide) rfl ?_
      have loop : ∀ (j : Nat), j ≤ mq_sc M → mo_pbs M (nI k) t j = mo_pbs M (nI k) t (mq_sc M) → bh_W p l e ({ frames := 7, cells := 1, slots := 6, locals := 111 } : Room) s m args below meth c 4 D A 0 0 Q (wh_hall cI cZ ad M) ([(3, .int (nI j - 1)), (0, .ref (ad 0)), (1, .int (nI k)), (2, .int t)]) 34 [] := by
        intro j
        induction j with
        | zero =>
          intro h1 h2
          refine bh_iload_n C dX0_placeByScans_34 rfl 0 rfl ?_
          refine bh_if_lt (tgt := 71) C dX0_placeByScans_35 (by decide) (fun c_35 => ?_) (fun c_35 => absurd (show nI 0 - 1 < 0 by decide +kernel) c_35)
          refine bh_iconst (v := (-1)) C dX0_placeByScans_71 (by decide) ?_
          exact bh_xzret C hQ dX0_placeByScans_72 () (v := (-1)) (w := wh_hall cI cZ ad M) rfl rfl (Nat.le_of_ble_eq_true rfl) (Nat.le_of_ble_eq_true rfl) ⟨co_pbs0 hb9 c_6 c_14, by rw [← h2]; rfl⟩
        | succ j ih =>
          intro h1 h2
          refine bh_eqlv (lv' := [(3, .int (nI j)), (0, .ref (ad 0)), (1, .int (nI k)), (2, .int t)]) (by rw [nI_pred]) ?_
          refine bh_iload_n C dX0_placeByScans_34 rfl 0 rfl ?_
          refine bh_if_lt (tgt := 71) C dX0_placeByScans_35 (by decide) (fun c_35 => absurd c_35 (nI_pos (by omega))) (fun c_35 => ?_)
          refine bh_aload_n C dX0_placeByScans_38 rfl 1 rfl ?_
          refine bh_get C ct_X0_placeByScans_in 0 rfl rfl 14 (by decide) (by decide +kernel) rfl (v := .ref (ad 14)) rfl dX0_placeByScans_39 ?_
          refine bh_iload_n C dX0_placeByScans_42 rfl 0 rfl ?_
          refine bh_iald C 11 0 (f := (mq_sb M)) rfl rfl (i := (nI j)) (vp_in_nI (n := j) (by omega) (by decide)) (x := ((mq_sb M) j)) (congrArg (mq_sb M) (nI_clamp (n := j) (by omega))) dX0_placeByScans_43 ?_
          refine bh_iload_n C dX0_placeByScans_44 rfl 2 rfl ?_
          refine bh_icmp_ne (tgt := 65) C dX0_placeByScans_45 (by decide) (fun c_45 => ?_) (fun c_45 => ?_)
          · skip
            refine bh_iinc (v := ((nI j) - 1)) (lv' := [(3, .int ((nI j) - 1)), (0, .ref (ad 0)), (1, .int (nI k)), (2, .int t)]) C dX0_placeByScans_65 (k := 0) rfl (bh_dec _) (by decide) rfl ?_
            refine bh_goto (tgt := 34) C dX0_placeByScans_68 (by decide) ?_
            exact bh_lv [0, 1, 2, 3] rfl (ih (by omega) ((mo_pbs_0 (M := M) (k := j) (by first | exact fun z => c_45 z.1 | exact fun z => absurd z.2 (Int32.not_le.mpr c_55))).symm.trans h2))
          · skip
            refine bh_aload_n C dX0_placeByScans_48 rfl 1 rfl ?_
            refine bh_get C ct_X0_placeByScans_in 0 rfl rfl 16 (by decide) (by decide +kernel) rfl (v := .ref (ad 16)) rfl dX0_placeByScans_49 ?_
            refine bh_iload_n C dX0_placeByScans_52 rfl 0 rfl ?_
            refine bh_iald C 13 0 (f := (mq_st M)) rfl rfl (i := (nI j)) (vp_in_nI (n := j) (by omega) (by decide)) (x := ((mq_st M) j)) (congrArg (mq_st M) (nI_clamp (n := j) (by omega))) dX0_placeByScans_53 ?_
            refine bh_iload_n C dX0_placeByScans_54 rfl 3 rfl ?_
            refine bh_icmp_gt (tgt := 65) C dX0_placeByScans_55 (by decide) (fun c_55 => ?_) (fun c_55 => ?_)
            · skip
              refine bh_iinc (v := ((nI j) - 1)) (lv' := [(3, .int ((nI j) - 1)), (0, .ref (ad 0)), (1, .int (nI k)), (2, .int t)]) C dX0_placeByScans_65 (k := 0) rfl (bh_dec _) (by decide) rfl ?_
              refine bh_goto (tgt := 34) C dX0_placeByScans_68 (by decide) ?_
              exact bh_lv [0, 1, 2, 3] rfl (ih (by omega) ((mo_pbs_0 (M := M) (k := j) (by first | exact fun z => c_45 z.1 | exact fun z => absurd z.2 (Int32.not_le.mpr c_55))).symm.trans h2))
            · skip
              refine bh_aload_n C dX0_placeByScans_58 rfl 1 rfl ?_
              refine bh_get C ct_X0_placeByScans_in 0 rfl rfl 15 (by decide) (by decide +kernel) rfl (v := .ref (ad 15)) rfl dX0_placeByScans_59 ?_
              refine bh_iload_n C dX0_placeByScans_62 rfl 0 rfl ?_
              refine bh_iald C 12 0 (f := (mq_sp M)) rfl rfl (i := (nI j)) (vp_in_nI (n := j) (by omega) (by decide)) (x := ((mq_sp M) j)) (congrArg (mq_sp M) (nI_clamp (n := j) (by omega))) dX0_placeByScans_63 ?_
              exact bh_xzret C hQ dX0_placeByScans_64 () (v := ((mq_sp M) j)) (w := wh_hall cI cZ ad M) rfl rfl (Nat.le_of_ble_eq_true rfl) (Nat.le_of_ble_eq_true rfl) ⟨co_pbs0 hb9 c_6 c_14, by rw [← h2, mo_pbs_1 c_45 (Int32.not_lt.mp c_55)]⟩
      exact bh_lv [0, 1, 2, 3] rfl (loop (mq_sc M) (Nat.le_refl _) rfl)
    · skip
      exact bh_throw C hE hno hl hQ (cls := xe_A) (text := "time must be 0 to now") (by decide +kernel) (by decide +kernel) (by decide +kernel) (by decide +kernel) ct_X0_placeByScans_at54 xe_hb54 xe_hg54_50 dX0_placeByScans_17 dX0_placeByScans_20 dX0_placeByScans_21 dX0_placeByScans_23 dX0_placeByScans_26 (Nat.le_of_ble_eq_true rfl) (Nat.le_of_ble_eq_true rfl) (Nat.le_of_ble_eq_true rfl) (Nat.le_of_ble_eq_true rfl) (Nat.le_of_ble_eq_true rfl) (Nat.le_of_ble_eq_true rfl) (Or.inr ⟨rfl, co_pbs2 hb9 (by first | exact Or.inl c_6 | exact Or.inr (bh_nle3 c_14))⟩)
theorem ct_X0_addFlight_in : ∀ w ∈ wsX00, w ∈ wsX0_addFlight := by decide +kernel
theorem ct_X0_addFlight_at54 : ∀ z ∈ (vx_atS RX0 54 xe_A xe_ns).filter goodWord, z ∈ wsX0_addFlight := by decide +kernel
theorem ct_X0_addFlight_at65 : ∀ z ∈ (vx_atS RX0 65 xe_S xe_ns).filter goodWord, z ∈ wsX0_addFlight := by decide +kernel
set_option maxRecDepth 100000 in
set_option maxHeartbeats 4000000 in
theorem ct_X0_addFlight (l : Launch) (hl : l.stackTraces = false) (D : va_G) (cI cZ cL : ClassId) (ad : Nat → Nat) {K T : Nat} (M : MT) (x : Int32) (hI : MI K T M) : bh_Xi l D (wh_tys cI cZ cL) yX0_addFlight wsX0_addFlight ({ frames := 6, cells := 1, slots := 6, locals := 90 } : Room) [.ref (ad 0), .int x] (wh_hall cI cZ ad M) (fun r (_ : Unit) => co_add M x = 0 ∧ r = nI (mq_fc M)) (fun _ => wh_hall cI cZ ad (mo_add M x)) (mo_px xe_A xe_S (co_add M x)) 1 6 := by
  refine bh_ofXi (cc := cX0_addFlight) (maxL := 4) (by decide +kernel) rfl (Nat.le_of_ble_eq_true rfl) ?_
  intro p e s m args below meth c A Q C hQ hE hno
  refine bh_eqlv (lv' := [(0, .ref (ad 0)), (1, .int x)]) rfl ?_
  have hfc := MI_fc hI; have hbc := MI_bc hI; have hsc := MI_sc hI; have hnow := MI_now2 hI
  refine bh_iload_n C dX0_addFlight_0 rfl 1 rfl ?_
  refine bh_iconst (v := 1) C dX0_addFlight_1 (by decide) ?_
  refine bh_icmp_lt (tgt := 12) C dX0_addFlight_2 (by decide) (fun c_2 => ?_) (fun c_2 => ?_)
  · skip
    exact bh_throw C hE hno hl hQ (cls := xe_A) (text := "minutes must be 1 to 1000") (by decide +kernel) (by decide +kernel) (by decide +kernel) (by decide +kernel) ct_X0_addFlight_at54 xe_hb54 xe_hg54_50 dX0_addFlight_12 dX0_addFlight_15 dX0_addFlight_16 dX0_addFlight_18 dX0_addFlight_21 (Nat.le_of_ble_eq_true rfl) (Nat.le_of_ble_eq_true rfl) (Nat.le_of_ble_eq_true rfl) (Nat.le_of_ble_eq_true rfl) (Nat.le_of_ble_eq_true rfl) (Nat.le_of_ble_eq_true rfl) (Or.inl ⟨rfl, by first | exact if_pos (Or.inl c_2) | exact if_pos (Or.inr (bh_nle3 c_9))⟩)
  · skip
    refine bh_iload_n C dX0_addFlight_5 rfl 1 rfl ?_
    refine bh_sipush (v := 1000) C dX0_addFlight_6 (by decide) ?_
    refine bh_icmp_le (tgt := 22) C dX0_addFlight_9 (by decide) (fun c_9 => ?_) (fun c_9 => ?_)
    · skip
      refine bh_aload_n C dX0_addFlight_22 rfl 0 rfl ?_
      refine bh_get C ct_X0_addFlight_in 0 rfl rfl 1 (by decide) (by decide +kernel) rfl (v := .int (nI (mq_fc M))) rfl dX0_addFlight_23 ?_
      refine bh_bipush (v := 10) C dX0_addFlight_26 (by decide) ?_
      refine bh_icmp_lt (tgt := 41) C dX0_addFlight_28 (by decide) (fun c_28 => ?_) (fun c_28 => ?_)
      · skip
        have c_28 := (nI_ltI (b := 10) (by omega) (by decide)).mp c_28
        refine bh_aload_n C dX0_addFlight_41 rfl 0 rfl ?_
        refine bh_get C ct_X0_addFlight_in 0 rfl rfl 1 (by decide) (by decide +kernel) rfl (v := .int (nI (mq_fc M))) rfl dX0_addFlight_42 ?_
        refine bh_istore_n (lv' := [(2, .int (nI (mq_fc M))), (0, .ref (ad 0)), (1, .int x)]) C dX0_addFlight_45 rfl (by decide) rfl ?_
        refine bh_aload_n C dX0_addFlight_46 rfl 1 rfl ?_
        refine bh_get C ct_X0_addFlight_in 0 rfl rfl 0 (by decide) (by decide +kernel) rfl (v := .int (nI (mq_now M))) rfl dX0_addFlight_47 ?_
        refine bh_iload_n C dX0_addFlight_50 rfl 2 rfl ?_
        refine bh_iadd C dX0_addFlight_51 ?_
        refine bh_istore_n (lv' := [(3, .int ((nI (mq_now M)) + x)), (2, .int (nI (mq_fc M))), (0, .ref (ad 0)), (1, .int x)]) C dX0_addFlight_52 rfl (by decide) rfl ?_
        refine bh_aload_n C dX0_addFlight_53 rfl 2 rfl ?_
        refine bh_get C ct_X0_addFlight_in 0 rfl rfl 3 (by decide) (by decide +kernel) rfl (v := .ref (ad 3)) rfl dX0_addFlight_54 ?_
        refine bh_iload_n C dX0_addFlight_57 rfl 1 rfl ?_
        refine bh_aload_n C dX0_addFlight_58 rfl 2 rfl ?_
        refine bh_iload_n C dX0_addFlight_59 rfl 0 rfl ?_
        refine bh_calli_0 (As := [.int ((nI (mq_now M)) + x)]) C (ct_X0_lowestFreeLateral l D cI cZ cL ad M ((nI (mq_now M)) + x) hI (bh_dIn hnow c_2 c_9)) (cwV 1 C.1.2.2.2.2 gX0_addFlight_X0_lowestFreeLateral rfl rfl rfl (by decide +kernel) ⟨Nat.le_of_ble_eq_true rfl, Nat.le_of_ble_eq_true rfl⟩) (ci := 0) rfl 0 rfl rfl rfl (Nat.le_of_ble_eq_true rfl) dX0_addFlight_60 ⟨Nat.le_of_ble_eq_true rfl, Nat.le_of_ble_eq_true rfl⟩ (fun r_60 u_60 hp_60 => ?_)
        subst hp_60
        refine bh_eqw (w' := wh_hallX cI cZ ad (mq_now M) (mq_fc M) (mq_bc M) (mq_sc M) (mq_dep M) (mq_lat M) (mq_brd M) (mq_bf M) (mq_br M) (mq_pu M) (mq_pl M) (mq_ls M) (mq_ca M) (mq_at M) (mq_sb M) (mq_sp M) (mq_st M)) rfl ?_
        refine bh_iast (w' := wh_hallX cI cZ ad (mq_now M) (mq_fc M) (mq_bc M) (mq_sc M) (mq_dep M) (upd (mq_lat M) ((mq_fc M)) (mo_low M ((nI (mq_now M)) + x))) (mq_brd M) (mq_bf M) (mq_br M) (mq_pu M) (mq_pl M) (mq_ls M) (mq_ca M) (mq_at M) (mq_sb M) (mq_sp M) (mq_st M)) C 2 0 rfl rfl (vp_in_nI (n := (mq_fc M)) (by omega) (by decide)) dX0_addFlight_63 (by rw [nI_clamp (n := (mq_fc M)) (by omega)]; rfl) ?_
        refine bh_aload_n C dX0_addFlight_64 rfl 2 rfl ?_
        refine bh_get C ct_X0_addFlight_in 0 rfl rfl 2 (by decide) (by decide +kernel) rfl (v := .ref (ad 2)) rfl dX0_addFlight_65 ?_
        refine bh_iload_n C dX0_addFlight_68 rfl 1 rfl ?_
        refine bh_iload_n C dX0_addFlight_69 rfl 0 rfl ?_
        refine bh_iast (w' := wh_hallX cI cZ ad (mq_now M) (mq_fc M) (mq_bc M) (mq_sc M) (upd (mq_dep M) ((mq_fc M)) ((nI (mq_now M)) + x)) (upd (mq_lat M) ((mq_fc M)) (mo_low M ((nI (mq_now M)) + x))) (mq_brd M) (mq_bf M) (mq_br M) (mq_pu M) (mq_pl M) (mq_ls M) (mq_ca M) (mq_at M) (mq_sb M) (mq_sp M) (mq_st M)) C 1 0 rfl rfl (vp_in_nI (n := (mq_fc M)) (by omega) (by decide)) dX0_addFlight_70 (by rw [nI_clamp (n := (mq_fc M)) (by omega)]; rfl) ?_
        refine bh_aload_n C dX0_addFlight_71 rfl 2 rfl ?_
        refine bh_dup C dX0_addFlight_72 rfl ?_
        refine bh_get C ct_X0_addFlight_in 0 rfl rfl 1 (by decide) (by decide +kernel) rfl (v := .int (nI (mq_fc M))) rfl dX0_addFlight_73 ?_
        refine bh_iconst (v := 1) C dX0_addFlight_76 (by decide) ?_
        refine bh_iadd C dX0_addFlight_77 ?_
        refine bh_topi (nI_1 _) ?_
        refine bh_put (ty := .int) (v := .int (nI ((mq_fc M) + 1))) (w' := wh_hallX cI cZ ad (mq_now M) (((mq_fc M) + 1)) (mq_bc M) (mq_sc M) (upd (mq_dep M) ((mq_fc M)) ((nI (mq_now M)) + x)) (upd (mq_lat M) ((mq_fc M)) (mo_low M ((nI (mq_now M)) + x))) (mq_brd M) (mq_bf M) (mq_br M) (mq_pu M) (mq_pl M) (mq_ls M) (mq_ca M) (mq_at M) (mq_sb M) (mq_sp M) (mq_st M)) C ct_X0_addFlight_in tyX0 tyX0_ok nmX0 0 rfl rfl 1 (by decide) (by decide +kernel) rfl rfl (by decide +kernel) rfl rfl (Nat.le_of_ble_eq_true rfl) dX0_addFlight_78 rfl ?_
        refine bh_iload_n C dX0_addFlight_81 rfl 1 rfl ?_
        exact bh_xzret C hQ dX0_addFlight_82 () (v := (nI (mq_fc M))) (w := wh_hallX cI cZ ad (mq_now M) (((mq_fc M) + 1)) (mq_bc M) (mq_sc M) (upd (mq_dep M) ((mq_fc M)) ((nI (mq_now M)) + x)) (upd (mq_lat M) ((mq_fc M)) (mo_low M ((nI (mq_now M)) + x))) (mq_brd M) (mq_bf M) (mq_br M) (mq_pu M) (mq_pl M) (mq_ls M) (mq_ca M) (mq_at M) (mq_sb M) (mq_sp M) (mq_st M)) rfl rfl (Nat.le_of_ble_eq_true rfl) (Nat.le_of_ble_eq_true rfl) ⟨(if_neg (fun z => z.elim c_2 (fun q => absurd c_9 (Int32.not_le.mpr q)))).trans (if_neg (by omega)), rfl⟩
      · skip
        exact bh_throw C hE hno hl hQ (cls := xe_S) (text := "there are 10 flights") (by decide +kernel) (by decide +kernel) (by decide +kernel) (by decide +kernel) ct_X0_addFlight_at65 xe_hb65 xe_hg65_61 dX0_addFlight_31 dX0_addFlight_34 dX0_addFlight_35 dX0_addFlight_37 dX0_addFlight_40 (Nat.le_of_ble_eq_true rfl) (Nat.le_of_ble_eq_true rfl) (Nat.le_of_ble_eq_true rfl) (Nat.le_of_ble_eq_true rfl) (Nat.le_of_ble_eq_true rfl) (Nat.le_of_ble_eq_true rfl) (Or.inr ⟨rfl, (if_neg (fun z => z.elim c_2 (fun q => absurd c_9 (Int32.not_le.mpr q)))).trans (if_pos (bh_le (a := 10) (by decide) (by omega) (Int32.not_lt.mp c_28)))⟩)
    · skip
      exact bh_throw C hE hno hl hQ (cls := xe_A) (text := "minutes must be 1 to 1000") (by decide +kernel) (by decide +kernel) (by decide +kernel) (by decide +kernel) ct_X0_addFlight_at54 xe_hb54 xe_hg54_50 dX0_addFlight_12 dX0_addFlight_15 dX0_addFlight_16 dX0_addFlight_18 dX0_addFlight_21 (Nat.le_of_ble_eq_true rfl) (Nat.le_of_ble_eq_true rfl) (Nat.le_of_ble_eq_true rfl) (Nat.le_of_ble_eq_true rfl) (Nat.le_of_ble_eq_true rfl) (Nat.le_of_ble_eq_true rfl) (Or.inl ⟨rfl, by first | exact if_pos (Or.inl c_2) | exact if_pos (Or.inr (bh_nle3 c_9))⟩)
theorem ct_X0_pass_in : ∀ w ∈ wsX00, w ∈ wsX0_pass := by decide +kernel
theorem ct_X0_pass_at54 : ∀ z ∈ (vx_atS RX0 54 xe_A xe_ns).filter goodWord, z ∈ wsX0_pass := by decide +kernel
set_option maxRecDepth 100000 in
set_option maxHeartbeats 4000000 in
theorem ct_X0_pass (l : Launch) (hl : l.stackTraces = false) (D : va_G) (cI cZ cL : ClassId) (ad : Nat → Nat) {K T : Nat} (M : MT) (x : Int32) (hI : MI K T M) (hT : T + 200 ≤ 102400) : bh_Xi l D (wh_tys cI cZ cL) yX0_pass wsX0_pass ({ frames := 6, cells := 1, slots := 6, locals := 129 } : Room) [.ref (ad 0), .int x] (wh_hall cI cZ ad M) (fun r (_ : Unit) => co_pass x = 0 ∧ r = nI (mq_sc (mo_pass M x.toNatClampNeg)) - nI (mq_sc M)) (fun _ => wh_hall cI cZ ad (mo_pass M x.toNatClampNeg)) (mo_px xe_A xe_S (co_pass x)) 1 6 := by
  refine bh_ofXi (cc := cX0_pass) (maxL := 4) (by decide +kernel) rfl (Nat.le_of_ble_eq_true rfl) ?_
  intro p e s m args below meth c A Q C hQ hE hno
  refine bh_eqlv (lv' := [(0, .ref (ad 0)), (1, .int x)]) rfl ?_
  have hfc := MI_fc hI; have hbc := MI_bc hI; have hsc := MI_sc hI; have hnow := MI_now2 hI
  refine bh_iload_n C dX0_pass_0 rfl 1 rfl ?_
  refine bh_iconst (v := 1) C dX0_pass_1 (by decide) ?_
  refine bh_icmp_lt (tgt := 12) C dX0_pass_2 (by decide) (fun c_2 => ?_) (fun c_2 => ?_)
  · skip
    exact bh_throw C hE hno hl hQ (cls := xe_A) (text := "minutes must be 1 to 200") (by decide +kernel) (by decide +kernel) (by decide +kernel) (by decide +kernel) ct_X0_pass_at54 xe_hb54 xe_hg54_50 dX0_pass_12 dX0_pass_15 dX0_pass_16 dX0_pass_18 dX0_pass_21 (Nat.le_of_ble_eq_true rfl) (Nat.le_of_ble_eq_true rfl) (Nat.le_of_ble_eq_true rfl) (Nat.le_of_ble_eq_true rfl) (Nat.le_of_ble_eq_true rfl) (Nat.le_of_ble_eq_true rfl) (Or.inl ⟨rfl, by first | exact if_pos (Or.inl c_2) | exact if_pos (Or.inr (bh_nle3 c_9))⟩)
  · skip
    refine bh_iload_n C dX0_pass_5 rfl 1 rfl ?_
    refine bh_sipush (v := 200) C dX0_pass_6 (by decide) ?_
    refine bh_icmp_le (tgt := 22) C dX0_pass_9 (by decide) (fun c_9 => ?_) (fun c_9 => ?_)
    · skip
      refine bh_aload_n C dX0_pass_22 rfl 0 rfl ?_
      refine bh_get C ct_X0_pass_in 0 rfl rfl 13 (by decide) (by decide +kernel) rfl (v := .int (nI (mq_sc M))) rfl dX0_pass_23 ?_
      refine bh_istore_n (lv' := [(2, .int (nI (mq_sc M))), (0, .ref (ad 0)), (1, .int x)]) C dX0_pass_26 rfl (by decide) rfl ?_
      refine bh_iconst (v := 0) C dX0_pass_27 (by decide) ?_
      refine bh_istore_n (lv' := [(3, .int 0), (2, .int (nI (mq_sc M))), (0, .ref (ad 0)), (1, .int x)]) C dX0_pass_28 rfl (by decide) rfl ?_
      obtain ⟨m9, hm1, hm2, rfl⟩ := bh_rng (n := 200) (by decide) c_2 c_9
      have hm9 : (nI m9).toNatClampNeg = m9 := nI_clamp (by omega)
      have loop : ∀ (n : Nat) (k : Nat), m9 + 1 ≤ k + n → k ≤ m9 → bh_W p l e ({ frames := 6, cells := 1, slots := 6, locals := 129 } : Room) s m args below meth c 4 D A 0 0 Q (wh_hall cI cZ ad (mo_pass M k)) ([(3, .int (nI k)), (2, .int (nI (mq_sc M))), (0, .ref (ad 0)), (1, .int (nI m9))]) 29 [] := by
        intro n
        induction n with
        | zero => intro k h1 h2; exact absurd h1 (by omega)
        | succ n ih =>
          intro k h1 h2
          have hI9 := MI_pass hI hT (k := k) (by omega)
          refine bh_iload_n C dX0_pass_29 rfl 0 rfl ?_
          refine bh_iload_n C dX0_pass_30 rfl 3 rfl ?_
          refine bh_icmp_ge (tgt := 44) C dX0_pass_31 (by decide) (fun c_31 => ?_) (fun c_31 => ?_)
          · skip
            have c_31 := bh_le (by omega) (by omega) c_31
            have hkb : k = m9 := by omega
            refine bh_aload_n C dX0_pass_44 rfl 2 rfl ?_
            refine bh_get C ct_X0_pass_in 0 rfl rfl 13 (by decide) (by decide +kernel) rfl (v := .int (nI (mq_sc (mo_pass M k)))) rfl dX0_pass_45 ?_
            refine bh_iload_n C dX0_pass_48 rfl 1 rfl ?_
            refine bh_isub C dX0_pass_49 ?_
            exact bh_xzret C hQ dX0_pass_50 () (v := ((nI (mq_sc (mo_pass M k))) - (nI (mq_sc M)))) (w := wh_hall cI cZ ad (mo_pass M k)) (by rw [hm9, hkb]) rfl (Nat.le_of_ble_eq_true rfl) (Nat.le_of_ble_eq_true rfl) ⟨if_neg (fun z => z.elim c_2 (fun q => absurd c_9 (Int32.not_le.mpr q))), by rw [hm9, hkb]⟩
          · skip
            have c_31 := bh_nle2 (by omega) (by omega) c_31
            refine bh_aload_n C dX0_pass_34 rfl 2 rfl ?_
            refine bh_callv_0 (As := []) C (ct_X0_passOneMinute l D cI cZ cL ad (mo_pass M k) hI9 (by omega)) (cwV 0 C.1.2.2.2.2 gX0_pass_X0_passOneMinute rfl rfl rfl (by decide +kernel) ⟨Nat.le_of_ble_eq_true rfl, Nat.le_of_ble_eq_true rfl⟩) (ci := 0) rfl 0 rfl rfl rfl (Nat.le_of_ble_eq_true rfl) dX0_pass_35 ⟨Nat.le_of_ble_eq_true rfl, Nat.le_of_ble_eq_true rfl⟩ (fun u_35 hp_35 => ?_)
            refine bh_eqw (w' := wh_hall cI cZ ad (mo_pass M (k + 1))) (by rw [mo_pass_s]) ?_
            refine bh_iinc (v := (nI (k + 1))) (lv' := [(3, .int (nI (k + 1))), (2, .int (nI (mq_sc M))), (0, .ref (ad 0)), (1, .int (nI m9))]) C dX0_pass_38 (k := 0) rfl (nI_1 _) (by decide) rfl ?_
            refine bh_goto (tgt := 29) C dX0_pass_41 (by decide) ?_
            exact bh_lv [0, 1, 2, 3] rfl (ih (k + 1) (by omega) (by omega))
      exact bh_lv [0, 1, 2, 3] rfl (loop (m9 + 1) 0 (by omega) (by omega))
    · skip
      exact bh_throw C hE hno hl hQ (cls := xe_A) (text := "minutes must be 1 to 200") (by decide +kernel) (by decide +kernel) (by decide +kernel) (by decide +kernel) ct_X0_pass_at54 xe_hb54 xe_hg54_50 dX0_pass_12 dX0_pass_15 dX0_pass_16 dX0_pass_18 dX0_pass_21 (Nat.le_of_ble_eq_true rfl) (Nat.le_of_ble_eq_true rfl) (Nat.le_of_ble_eq_true rfl) (Nat.le_of_ble_eq_true rfl) (Nat.le_of_ble_eq_true rfl) (Nat.le_of_ble_eq_true rfl) (Or.inl ⟨rfl, by first | exact if_pos (Or.inl c_2) | exact if_pos (Or.inr (bh_nle3 c_9))⟩)
end
section
section
variable {K T : Nat} {M : MT}
theorem MI_mono {K2 T2 : Nat} (hI : MI K T M) (hK : K ≤ K2) (hK2 : K2 ≤ 2048) (hT : T ≤ T2) (hT2 : T2 ≤ 102400) : MI K2 T2 M := by
  obtain ⟨a1, a2, a3, a4, a5, a6, a7, a8, a9, a10, a11, a12, a13, a14, a15, a16, a17⟩ := id hI
  exact ⟨a1, a2, a3, a4, a5, a6, a7, a8, a9, a10, a11, a12, a13, Nat.le_trans a14 hK, Nat.le_trans a15 hT, hK2, hT2⟩
theorem co_add_0 {x : Int32} (h : co_add M x = 0) : ¬ x < 1 ∧ x ≤ 1000 ∧ mq_fc M < 10 := by
  unfold co_add at h
  split at h
  · exact absurd h (by decide)
  · rename_i z
    split at h
    · exact absurd h (by decide)
    · rename_i y
      exact ⟨fun q => z (Or.inl q), Int32.not_lt.mp (fun q => z (Or.inr q)), by omega⟩
theorem MI_addF (hI : MI K T M) {x : Int32} (h : co_add M x = 0) : MI K T (mo_add M x) := by
  obtain ⟨h1, h2, h3⟩ := co_add_0 h
  have hn := MI_now2 hI
  obtain ⟨a1, a2, a3, a4, a5, a6, a7, a8, a9, a10, a11, a12, a13, a14, a15, a16, a17⟩ := id hI
  refine ⟨(show mq_fc M + 1 ≤ 10 by omega), a2, a3, a4, a5, a6, a7, a8, a9, a10, a11, a12, fun i => ?_, a14, a15, a16, a17⟩
  show vp_in (upd (mq_dep M) (mq_fc M) (nI (mq_now M) + x) i) 200000
  unfold upd
  split
  · exact bh_dIn hn h1 h2
  · exact a13 i
theorem MI_boardF (hI : MI K T M) {x z : Int32} (hz : z = 0 ∨ z = 1) : MI K T (mo_board M x z) := by
  obtain ⟨a1, a2, a3, a4, a5, a6, a7, a8, a9, a10, a11, a12, a13, a14, a15, a16, a17⟩ := id hI
  refine ⟨a1, a2, a3, a4, a5, a6, a7, fun i => ?_, a9, a10, a11, a12, a13, a14, a15, a16, a17⟩
  show upd (mq_brd M) x.toNatClampNeg z i = 0 ∨ upd (mq_brd M) x.toNatClampNeg z i = 1
  unfold upd
  split
  · exact hz
  · exact a8 i
theorem MI_routeC (hI : MI K T M) {k : Nat} (hk : k < mq_bc M) (hK : K + 4 ≤ 2048) : MI (K + 4) T (mo_route M k) := by
  unfold mo_route
  split
  · exact MI_mono hI (by omega) hK (Nat.le_refl _) (MI_T hI)
  · exact MI_bringC hI hk (mo_way_in _ _) hK
theorem bh_vk {b : Int32} {n : Nat} (h : vp_in b n) : b.toNatClampNeg < n := Nat.not_le.mp fun q => h (Or.inr q)
theorem co_deci_0 {b : Int32} (h : co_deci M b = 0) : b.toNatClampNeg < mq_bc M := by
  unfold co_deci at h
  split at h
  · rename_i z; exact bh_vk (mo_in_iff.mp z)
  · exact absurd h (by decide)
theorem co_place_0 {b q : Int32} (h : co_place M b q = 0) : b.toNatClampNeg < mq_bc M := by
  unfold co_place at h
  split at h
  · rename_i z; exact bh_vk (mo_in_iff.mp z)
  · exact absurd h (by decide)
theorem co_send_0 {b x : Int32} (h : co_send M b x = 0) : b.toNatClampNeg < mq_bc M ∧ vp_in x (mq_fc M) := by
  unfold co_send at h
  split at h
  · rename_i z; exact ⟨bh_vk (mo_in_iff.mp z.1), mo_in_iff.mp z.2⟩
  · exact absurd h (by decide)
theorem co_pass_0 {x : Int32} (h : co_pass x = 0) : x.toNatClampNeg ≤ 200 := by
  unfold co_pass at h
  split at h
  · exact absurd h (by decide)
  · rename_i z
    obtain ⟨k, h1, -, rfl⟩ := bh_rng (n := 200) (by decide) (fun q => z (Or.inl q)) (Int32.not_lt.mp (fun q => z (Or.inr q)))
    rw [nI_clamp (by omega)]; exact h1
end
end
section
/-! what the property says, over the tuple of the class's cells: EX n holds of the bags below n -/
/-- of a bag: its flight is there, it has a place, at STORE, LOOP or LATERAL its flight has a lateral, its last scan tells it and its place -/
def EXb (M : MT) (i : Nat) : Prop := vp_in (mq_bf M i) (mq_fc M) ∧ mq_pl M i ≠ 0 ∧ ((mq_pl M i = 5 ∨ mq_pl M i = 6 ∨ mq_pl M i = 7) → mq_lat M (mq_bf M i).toNatClampNeg ≠ -1) ∧
  ∃ a, a < mq_sc M ∧ mq_sb M a = nI i ∧ mq_sp M a = mq_pl M i ∧ ∀ j, a < j → j < mq_sc M → mq_sb M j ≠ nI i
def EX (n : Nat) (M : MT) : Prop :=
  (∀ i, i < mq_fc M → mq_lat M i = -1 ∨ vp_in (mq_lat M i) 4) ∧ mo_at M 5 ≤ 8 ∧ n ≤ mq_sc M ∧ (∀ j, j < mq_sc M → mq_st M j ≤ nI (mq_now M)) ∧ (∀ i, i < n → EXb M i)
/-- a place that the bag k may be brought to -/
def GO (M : MT) (k : Nat) (p : Int32) : Prop := p ≠ 0 ∧ vp_in p 12 ∧ (p = 5 → mo_at M 5 < 8) ∧ ((p = 5 ∨ p = 6 ∨ p = 7) → mq_lat M (mq_bf M k).toNatClampNeg ≠ -1)
/-- what a call leaves alone -/
def KP (M N : MT) : Prop := mq_now N = mq_now M ∧ mq_fc N = mq_fc M ∧ mq_bc N = mq_bc M
def PX (K T : Nat) (M : MT) : Prop := MI K T M ∧ EX (mq_bc M) M
/-- the scan number a tells the bag k at p, and k is there -/
def SC (a : Nat) (N : MT) (k : Nat) (p : Int32) : Prop := mq_sc N = a + 1 ∧ mq_sb N a = nI k ∧ mq_sp N a = p ∧ mq_pl N k = p
section
variable {K T n : Nat} {M : MT}
theorem SC_bring (M : MT) (k : Nat) (p : Int32) : SC (mq_sc M) (mo_bring M k p) k p := ⟨rfl, bh_upd_same _ _ _, bh_upd_same _ _ _, bh_upd_same _ _ _⟩
theorem EX_bring {n' k : Nat} {p : Int32} (h : EX n M) (hk : k < n ∧ n' = n ∨ k = n ∧ n' = n + 1) (hn : n' ≤ 48) (hbf : vp_in (mq_bf M k) (mq_fc M)) (hg : GO M k p) : EX n' (mo_bring M k p) := by
  obtain ⟨a1, a2, a3, a4, a5⟩ := h
  obtain ⟨h0, -, h5, hl⟩ := hg
  have hk48 : k < 48 := by omega
  refine ⟨a1, ?_, ?_, ?_, ?_⟩
  · show mo_cn (fun j => decide (upd (mq_pl M) k p j = 5)) 48 ≤ 8
    have hc := (mo_cn_upd (mq_pl M) k p 5 48).1 hk48
    have a6 : mo_cn (fun j => decide (mq_pl M j = 5)) 48 ≤ 8 := a2
    by_cases z : p = 5
    · have y : mo_cn (fun j => decide (mq_pl M j = 5)) 48 < 8 := h5 z
      rw [if_pos z] at hc
      omega
    · rw [if_neg z] at hc
      omega
  · show n' ≤ mq_sc M + 1
    omega
  · intro j hj
    have hj : j < mq_sc M + 1 := hj
    show upd (mq_st M) (mq_sc M) (nI (mq_now M)) j ≤ nI (mq_now M)
    by_cases z : j = mq_sc M
    · rw [z, bh_upd_same]; exact Int32.le_refl _
    · rw [bh_upd_ne _ _ z]; exact a4 j (by omega)
  · intro i hi
    by_cases z : i = k
    · subst z
      refine ⟨hbf, ?_, ?_, mq_sc M, ?_, ?_, ?_, ?_⟩
      · show upd (mq_pl M) i p i ≠ 0
        rw [bh_upd_same]; exact h0
      · show (upd (mq_pl M) i p i = 5 ∨ upd (mq_pl M) i p i = 6 ∨ upd (mq_pl M) i p i = 7) → mq_lat M (mq_bf M i).toNatClampNeg ≠ -1
        rw [bh_upd_same]; exact hl
      · show mq_sc M < mq_sc M + 1
        omega
      · exact bh_upd_same _ _ _
      · show upd (mq_sp M) (mq_sc M) p (mq_sc M) = upd (mq_pl M) i p i
        rw [bh_upd_same, bh_upd_same]
      · intro j h1 h2
        have h2 : j < mq_sc M + 1 := h2
        exact absurd h1 (by omega)
    · obtain ⟨b1, b2, b3, a, b4, b5, b6, b7⟩ := a5 i (by omega)
      refine ⟨b1, ?_, ?_, a, ?_, ?_, ?_, ?_⟩
      · show upd (mq_pl M) k p i ≠ 0
        rw [bh_upd_ne _ _ z]; exact b2
      · show (upd (mq_pl M) k p i = 5 ∨ upd (mq_pl M) k p i = 6 ∨ upd (mq_pl M) k p i = 7) → mq_lat M (mq_bf M i).toNatClampNeg ≠ -1
        rw [bh_upd_ne _ _ z]; exact b3
      · show a < mq_sc M + 1
        omega
      · show upd (mq_sb M) (mq_sc M) (nI k) a = nI i
        rw [bh_upd_ne _ _ (by omega)]; exact b5
      · show upd (mq_sp M) (mq_sc M) p a = upd (mq_pl M) k p i
        rw [bh_upd_ne _ _ (by omega), bh_upd_ne _ _ z]; exact b6
      · intro j h1 h2
        have h2 : j < mq_sc M + 1 := h2
        show upd (mq_sb M) (mq_sc M) (nI k) j ≠ nI i
        by_cases y : j = mq_sc M
        · rw [y, bh_upd_same]
          intro q
          have := (nI_eq (by omega) (by omega)).mp q
          omega
        · rw [bh_upd_ne _ _ y]; exact b7 j h1 (by omega)
theorem GO_lit {k : Nat} {p : Int32} (h : p = 1 ∨ p = 2 ∨ p = 3 ∨ p = 4 ∨ p = 8 ∨ p = 9 ∨ p = 10 ∨ p = 11) : GO M k p := by
  have h1 : p ≠ 0 ∧ vp_in p 12 ∧ p ≠ 5 ∧ p ≠ 6 ∧ p ≠ 7 := by
    rcases h with h | h | h | h | h | h | h | h <;> rw [h]
    · exact ⟨by decide, vp_in_nI (n := 1) (by decide) (by decide), by decide, by decide, by decide⟩
    · exact ⟨by decide, vp_in_nI (n := 2) (by decide) (by decide), by decide, by decide, by decide⟩
    · exact ⟨by decide, vp_in_nI (n := 3) (by decide) (by decide), by decide, by decide, by decide⟩
    · exact ⟨by decide, vp_in_nI (n := 4) (by decide) (by decide), by decide, by decide, by decide⟩
    · exact ⟨by decide, vp_in_nI (n := 8) (by decide) (by decide), by decide, by decide, by decide⟩
    · exact ⟨by decide, vp_in_nI (n := 9) (by decide) (by decide), by decide, by decide, by decide⟩
    · exact ⟨by decide, vp_in_nI (n := 10) (by decide) (by decide), by decide, by decide, by decide⟩
    · exact ⟨by decide, vp_in_nI (n := 11) (by decide) (by decide), by decide, by decide, by decide⟩
  exact ⟨h1.1, h1.2.1, fun z => absurd z h1.2.2.1, fun z => z.elim (fun z => absurd z h1.2.2.1) (fun z => z.elim (fun z => absurd z h1.2.2.2.1) (fun z => absurd z h1.2.2.2.2))⟩
theorem mo_way_5r {x : Int32} (h : mo_way M x = 5) : mo_at M 5 < 8 := by
  by_cases c1 : mo_closed M x
  · exact absurd (h.symm.trans (mo_way_a c1)) (by decide)
  · by_cases c2 : mq_lat M x.toNatClampNeg = -1
    · exact absurd (h.symm.trans (mo_way_b c2)) (by decide)
    · by_cases c3 : mo_opened M x
      · exact absurd (h.symm.trans (mo_way_7 c1 c2 c3)) (by decide)
      · exact Nat.not_le.mp fun c4 => absurd (h.symm.trans (mo_way_6 c1 c2 c3 c4)) (by decide)
theorem GO_way (M : MT) (k : Nat) : GO M k (mo_way M (mq_bf M k)) := by
  refine ⟨?_, mo_way_in _ _, fun z => mo_way_5r z, fun z y => ?_⟩
  · rcases mo_way_or M (mq_bf M k) with z | z | z | z <;> rw [z] <;> decide
  · have := mo_way_b (M := M) y
    rw [this] at z
    exact absurd z (by decide)
theorem mo_route_b {k : Nat} (h : mq_pl M k ≠ 6) : mo_route M k = mo_bring M k (mo_way M (mq_bf M k)) := if_neg fun z => h z.2
theorem EX_route {k : Nat} (h : EX n M) (hk : k < n) (hn : n ≤ 48) : EX n (mo_route M k) := by
  unfold mo_route
  split
  · exact h
  · exact EX_bring h (Or.inl ⟨hk, rfl⟩) hn (h.2.2.2.2 k hk).1 (GO_way M k)
theorem EX_emp (hb : mq_bc M = n) (hn : n ≤ 48) (h : EX n M) : EX n (mo_emp M) := by
  rcases mo_first_or M (mq_bc M) with z | ⟨j, h1, h2, h3⟩
  · rw [mo_emp_none z]; exact h
  · rw [mo_emp_some (by omega) h2]
    obtain ⟨b1, b2, b3, -⟩ := h.2.2.2.2 j (by omega)
    exact EX_bring h (Or.inl ⟨by omega, rfl⟩) hn b1 ⟨by decide, vp_in_nI (n := 7) (by decide) (by decide), fun q => absurd q (by decide), fun _ => b3 (Or.inl h3)⟩
theorem EX_tick (hT : mq_now M ≤ 200000) (h : EX n M) : EX n (mo_tick M) := by
  obtain ⟨a1, a2, a3, a4, a5⟩ := h
  refine ⟨a1, a2, a3, fun j hj => ?_, a5⟩
  show mq_st M j ≤ nI (mq_now M + 1)
  exact Int32.le_trans (a4 j hj) ((nI_leI (by omega) (by omega)).mpr (by omega))
theorem EX_settle {k : Nat} (h : EX n M) (hk : k < n) (hn : n ≤ 48) : EX n (mo_settle M k) := by
  have hb := (h.2.2.2.2 k hk).1
  unfold mo_settle
  split
  · split
    · exact EX_bring h (Or.inl ⟨hk, rfl⟩) hn hb (GO_lit (by decide))
    · exact EX_bring h (Or.inl ⟨hk, rfl⟩) hn hb (GO_lit (by decide))
  · split
    · exact EX_bring h (Or.inl ⟨hk, rfl⟩) hn hb (GO_lit (by decide))
    · exact h
theorem EX_loop (hn : n ≤ 48) (h : EX n M) : ∀ k, k ≤ n → EX n (mo_it mo_loop1 M k) := by
  intro k
  induction k with
  | zero => exact fun _ => h
  | succ k ih =>
    intro hk
    have ih := ih (by omega)
    show EX n (mo_loop1 (mo_it mo_loop1 M k) k)
    unfold mo_loop1
    split
    · exact EX_route ih (by omega) hn
    · exact ih
theorem EX_sbags (f : Int32) (hn : n ≤ 48) (h : EX n M) : ∀ k, k ≤ n → EX n (mo_it (mo_sbag f) M k) := by
  intro k
  induction k with
  | zero => exact fun _ => h
  | succ k ih =>
    intro hk
    have ih := ih (by omega)
    show EX n (mo_sbag f (mo_it (mo_sbag f) M k) k)
    unfold mo_sbag
    split
    · exact EX_settle ih (by omega) hn
    · exact ih
theorem KP.rf (M : MT) : KP M M := ⟨rfl, rfl, rfl⟩
theorem KP.tr {A B C : MT} (h : KP A B) (g : KP B C) : KP A C := ⟨g.1.trans h.1, g.2.1.trans h.2.1, g.2.2.trans h.2.2⟩
theorem KP_bring (M : MT) (k : Nat) (p : Int32) : KP M (mo_bring M k p) := ⟨rfl, rfl, rfl⟩
theorem KP_it {f : MT → Nat → MT} (hf : ∀ N k, KP N (f N k)) (M : MT) (n : Nat) : KP M (mo_it f M n) := by
  induction n with
  | zero => exact KP.rf M
  | succ n ih => exact ih.tr (hf _ _)
theorem KP_emp (M : MT) : KP M (mo_emp M) := by
  unfold mo_emp
  split
  · exact KP.rf M
  · exact KP_bring _ _ _
theorem KP_route (M : MT) (k : Nat) : KP M (mo_route M k) := by
  unfold mo_route
  split
  · exact KP.rf M
  · exact KP_bring _ _ _
theorem KP_settle (M : MT) (k : Nat) : KP M (mo_settle M k) := by
  unfold mo_settle
  split
  · split <;> exact KP_bring _ _ _
  · split
    · exact KP_bring _ _ _
    · exact KP.rf M
theorem KP_loop1 (M : MT) (k : Nat) : KP M (mo_loop1 M k) := by
  unfold mo_loop1
  split
  · exact KP_route _ _
  · exact KP.rf M
theorem KP_sbag (f : Int32) (M : MT) (k : Nat) : KP M (mo_sbag f M k) := by
  unfold mo_sbag
  split
  · exact KP_settle _ _
  · exact KP.rf M
theorem KP_dep1 (M : MT) (k : Nat) : KP M (mo_dep1 M k) := by
  unfold mo_dep1
  split
  · exact KP_it (KP_sbag _) _ _
  · exact KP.rf M
theorem EX_dep1 (hb : mq_bc M = n) (hn : n ≤ 48) (h : EX n M) : ∀ k, EX n (mo_it mo_dep1 M k) := by
  intro k
  induction k with
  | zero => exact h
  | succ k ih =>
    show EX n (mo_dep1 (mo_it mo_dep1 M k) k)
    unfold mo_dep1
    split
    · exact EX_sbags _ hn ih _ (Nat.le_of_eq ((KP_it KP_dep1 M k).2.2.trans hb))
    · exact ih
theorem KP_minute (M : MT) : KP (mo_tick M) (mo_minute M) := (((KP_emp _).tr ((KP_emp _).tr (KP_emp _))).tr (KP_it KP_loop1 _ _)).tr (KP_it KP_dep1 _ _)
theorem EX_minute (hb : mq_bc M = n) (hn : n ≤ 48) (hT : mq_now M ≤ 200000) (h : EX n M) : EX n (mo_minute M) := by
  have b1 : mq_bc (mo_emp (mo_tick M)) = n := (bc_emp _).trans hb
  have b2 : mq_bc (mo_emp (mo_emp (mo_tick M))) = n := (bc_emp _).trans b1
  have b3 : mq_bc (mo_empt (mo_tick M)) = n := (bc_emp _).trans b2
  have e3 : EX n (mo_empt (mo_tick M)) := EX_emp b2 hn (EX_emp b1 hn (EX_emp hb hn (EX_tick hT h)))
  have e4 : EX n (mo_loop (mo_empt (mo_tick M))) := EX_loop hn e3 _ (by rw [b3]; exact Nat.le_refl _)
  exact EX_dep1 ((KP_it KP_loop1 _ _).2.2.trans b3) hn e4 _
theorem KP_pass (M : MT) (m : Nat) : mq_now (mo_pass M m) = mq_now M + m ∧ mq_fc (mo_pass M m) = mq_fc M ∧ mq_bc (mo_pass M m) = mq_bc M := by
  induction m with
  | zero => exact ⟨rfl, rfl, rfl⟩
  | succ m ih =>
    obtain ⟨h1, h2, h3⟩ := KP_minute (mo_pass M m)
    rw [mo_pass_s]
    refine ⟨h1.trans ?_, h2.trans ih.2.1, h3.trans ih.2.2⟩
    show mq_now (mo_pass M m) + 1 = mq_now M + (m + 1)
    rw [ih.1]; omega
theorem EX_pass (hb : mq_bc M = n) (hn : n ≤ 48) (h : EX n M) : ∀ m, mq_now M + m ≤ 200000 → EX n (mo_pass M m) := by
  intro m
  induction m with
  | zero => exact fun _ => h
  | succ m ih =>
    intro hm
    rw [mo_pass_s]
    obtain ⟨h1, -, h3⟩ := KP_pass M m
    exact EX_minute (h3.trans hb) hn (by omega) (ih (by omega))
theorem PX_pass (h : PX K T M) (hT : T + 200 ≤ 102400) {m : Nat} (hm : m ≤ 200) : PX K (T + 200) (mo_pass M m) := by
  have hI := MI_pass h.1 hT (k := m) hm
  have hn := MI_now h.1
  refine ⟨MI_mono hI (Nat.le_refl _) (MI_K hI) (by omega) hT, ?_⟩
  rw [(KP_pass M m).2.2]
  exact EX_pass rfl (MI_bc h.1) h.2 m (by omega)
theorem PX_mono {K2 T2 : Nat} (h : PX K T M) (hK : K ≤ K2) (hK2 : K2 ≤ 2048) (hT : T ≤ T2) (hT2 : T2 ≤ 102400) : PX K2 T2 M := ⟨MI_mono h.1 hK hK2 hT hT2, h.2⟩
theorem PX_bring (h : PX K T M) {k : Nat} (hk : k < mq_bc M) {p : Int32} (hg : GO M k p) (hK : K + 4 ≤ 2048) : PX (K + 4) T (mo_bring M k p) :=
  ⟨MI_bringC h.1 hk hg.2.1 hK, EX_bring h.2 (Or.inl ⟨hk, rfl⟩) (show mq_bc M ≤ 48 from MI_bc h.1) (h.2.2.2.2.2 k hk).1 hg⟩
theorem mo_low_in (M : MT) (d : Int32) : mo_low M d = -1 ∨ vp_in (mo_low M d) 4 := by
  unfold mo_low
  split
  · exact Or.inr (vp_in_nI (n := 0) (by decide) (by decide))
  · split
    · exact Or.inr (vp_in_nI (n := 1) (by decide) (by decide))
    · split
      · exact Or.inr (vp_in_nI (n := 2) (by decide) (by decide))
      · split
        · exact Or.inr (vp_in_nI (n := 3) (by decide) (by decide))
        · exact Or.inl rfl
theorem PX_add (h : PX K T M) {x : Int32} (hx : co_add M x = 0) : PX K T (mo_add M x) := by
  refine ⟨MI_addF h.1 hx, ?_⟩
  obtain ⟨hI, a1, a2, a3, a4, a5⟩ := h
  refine ⟨fun i hi => ?_, a2, a3, a4, fun i hi => ?_⟩
  · have hi : i < mq_fc M + 1 := hi
    show upd (mq_lat M) (mq_fc M) (mo_low M (nI (mq_now M) + x)) i = -1 ∨ vp_in (upd (mq_lat M) (mq_fc M) (mo_low M (nI (mq_now M) + x)) i) 4
    by_cases z : i = mq_fc M
    · rw [z, bh_upd_same]; exact mo_low_in _ _
    · rw [bh_upd_ne _ _ z]; exact a1 i (by omega)
  · obtain ⟨b1, b2, b3, b4⟩ := a5 i hi
    refine ⟨bh_inW b1 (Nat.le_succ _), b2, fun z => ?_, b4⟩
    show upd (mq_lat M) (mq_fc M) (mo_low M (nI (mq_now M) + x)) (mq_bf M i).toNatClampNeg ≠ -1
    have := bh_vk b1
    rw [bh_upd_ne _ _ (by omega)]
    exact b3 z
theorem PX_board (h : PX K T M) {x z : Int32} (hz : z = 0 ∨ z = 1) : PX K T (mo_board M x z) := ⟨MI_boardF h.1 hz, h.2⟩
theorem pl_take (hI : MI K T M) (x r : Int32) : mq_pl (mo_take M x r) = mq_pl M := by
  have hz := MI_beyond hI (Nat.le_refl (mq_bc M))
  funext i
  show upd (mq_pl M) (mq_bc M) 0 i = mq_pl M i
  unfold upd
  split
  · rename_i z
    rw [z]; exact hz.1.symm
  · rfl
theorem EX_take (hI : MI K T M) (h : EX (mq_bc M) M) (x r : Int32) : EX (mq_bc M) (mo_take M x r) := by
  have e := pl_take hI x r
  obtain ⟨a1, a2, a3, a4, a5⟩ := h
  refine ⟨a1, ?_, a3, a4, fun i hi => ?_⟩
  · show mo_cn (fun j => decide (mq_pl (mo_take M x r) j = 5)) 48 ≤ 8
    rw [e]; exact a2
  · obtain ⟨b1, b2, b3, b4⟩ := a5 i hi
    have eb : mq_bf (mo_take M x r) i = mq_bf M i := bh_upd_ne _ _ (by omega)
    refine ⟨?_, ?_, ?_, ?_⟩
    · rw [eb]; exact b1
    · rw [e]; exact b2
    · rw [e, eb]; exact b3
    · rw [e]; exact b4
theorem PX_come (h : PX K T M) {x r : Int32} (hx : vp_in x (mq_fc M)) (hr : vp_in r 40) (hb : mq_bc M < 48) {p : Int32} (hg : GO (mo_take M x r) (mq_bc M) p) (hK : K + 4 ≤ 2048) : PX (K + 4) T (mo_bring (mo_take M x r) (mq_bc M) p) := by
  have hI := MI_take h.1 (bh_inW hx (MI_fc h.1)) hr hb
  have eb : mq_bf (mo_take M x r) (mq_bc M) = x := bh_upd_same _ _ _
  exact ⟨MI_bringC hI (Nat.lt_succ_self _) hg.2.1 hK, EX_bring (EX_take h.1 h.2 x r) (Or.inr ⟨rfl, rfl⟩) hb (by rw [eb]; exact hx) hg⟩
theorem PX_snd (h : PX K T M) {k : Nat} (hk : k < mq_bc M) {f : Int32} (hf : vp_in f (mq_fc M)) (hp : mq_pl M k = 10 ∨ mq_pl M k = 11) : PX K T (mo_snd M k f) := by
  refine ⟨MI_send h.1 hk (bh_inW hf (MI_fc h.1)), ?_⟩
  obtain ⟨hI, a1, a2, a3, a4, a5⟩ := h
  refine ⟨a1, a2, a3, a4, fun i hi => ?_⟩
  obtain ⟨b1, b2, b3, b4⟩ := a5 i hi
  by_cases z : i = k
  · subst z
    have eb : mq_bf (mo_snd M i f) i = f := bh_upd_same _ _ _
    refine ⟨?_, b2, fun y => ?_, b4⟩
    · rw [eb]; exact hf
    · have y : mq_pl M i = 5 ∨ mq_pl M i = 6 ∨ mq_pl M i = 7 := y
      rcases hp with q | q <;> rw [q] at y <;> exact absurd y (by decide)
  · have eb : mq_bf (mo_snd M k f) i = mq_bf M i := bh_upd_ne _ _ z
    refine ⟨?_, b2, ?_, b4⟩
    · rw [eb]; exact b1
    · rw [eb]; exact b3
/-! sums -/
def mo_sum (f : Nat → Nat) : Nat → Nat
  | 0 => 0
  | n + 1 => mo_sum f n + f n
theorem mo_sum_ext {f g : Nat → Nat} {a : Nat} (h : ∀ i, i < a → f i = g i) : mo_sum f a = mo_sum g a := by
  induction a with
  | zero => rfl
  | succ a ih => simp only [mo_sum]; rw [ih (fun i hi => h i (by omega)), h a (by omega)]
theorem mo_sum_le {f g : Nat → Nat} {a : Nat} (h : ∀ i, i < a → f i ≤ g i) : mo_sum f a ≤ mo_sum g a := by
  induction a with
  | zero => exact Nat.le_refl _
  | succ a ih =>
    simp only [mo_sum]
    have := ih (fun i hi => h i (by omega))
    have := h a (by omega)
    omega
theorem mo_sum_add (f g : Nat → Nat) (a : Nat) : mo_sum (fun i => f i + g i) a = mo_sum f a + mo_sum g a := by
  induction a with
  | zero => rfl
  | succ a ih => simp only [mo_sum]; rw [ih]; omega
theorem mo_sum_0 (a : Nat) : mo_sum (fun _ => 0) a = 0 := by
  induction a with
  | zero => rfl
  | succ a ih => simp only [mo_sum]; rw [ih]
/-- one of a's values is c's: a sum of 'is it the i-th' is 1, or 0 -/
theorem mo_sum_one (c a : Nat) : mo_sum (fun i => if i = c then 1 else 0) a = if c < a then 1 else 0 := by
  induction a with
  | zero => simp [mo_sum]
  | succ a ih =>
    simp only [mo_sum]
    rw [ih]
    by_cases z : a = c
    · rw [if_pos z, if_neg (by omega), if_pos (by omega)]
    · rw [if_neg z]
      by_cases y : c < a
      · rw [if_pos y, if_pos (by omega)]
      · rw [if_neg y, if_neg (by omega)]
/-- counting each j by its class i, over all classes -/
theorem mo_sum_cn (F : Nat → Nat → Bool) (G : Nat → Bool) (a b : Nat) (h : ∀ j, j < b → mo_sum (fun i => if F i j = true then 1 else 0) a = if G j = true then 1 else 0) : mo_sum (fun i => mo_cn (F i) b) a = mo_cn G b := by
  induction b with
  | zero => exact mo_sum_0 a
  | succ b ih =>
    simp only [mo_cn]
    rw [mo_sum_add, ih (fun j hj => h j (by omega)), h b (by omega)]
theorem mo_sum_cnle (F : Nat → Nat → Bool) (G : Nat → Bool) (a b : Nat) (h : ∀ j, j < b → mo_sum (fun i => if F i j = true then 1 else 0) a ≤ if G j = true then 1 else 0) : mo_sum (fun i => mo_cn (F i) b) a ≤ mo_cn G b := by
  induction b with
  | zero => rw [show mo_sum (fun i => mo_cn (F i) 0) a = mo_sum (fun _ => 0) a from rfl, mo_sum_0]; exact Nat.zero_le _
  | succ b ih =>
    simp only [mo_cn]
    rw [mo_sum_add]
    have := ih (fun j hj => h j (by omega))
    have := h b (by omega)
    omega
theorem mo_cn_t (b : Nat) : mo_cn (fun _ => true) b = b := by
  induction b with
  | zero => rfl
  | succ b ih => simp [mo_cn, ih]
/-- the eleven counts -/
theorem sum_places (h : PX K T M) : mo_sum (fun i => mo_cn (fun j => decide (mq_pl M j = nI (i + 1))) (mq_bc M)) 11 = mq_bc M := by
  have e := mo_sum_cn (fun i j => decide (mq_pl M j = nI (i + 1))) (fun _ => true) 11 (mq_bc M) (fun j hj => ?_)
  · rw [mo_cn_t] at e; exact e
  · obtain ⟨q, hq, eq⟩ := vp_in_of (MI_pl h.1 j) (by decide)
    have hne := (h.2.2.2.2.2 j hj).2.1
    have q0 : q ≠ 0 := fun z => hne (by rw [eq, z]; rfl)
    rw [if_pos rfl, mo_sum_ext (g := fun i => if i = q - 1 then 1 else 0) (fun i hi => ?_), mo_sum_one, if_pos (by omega)]
    rw [eq]
    simp only [decide_eq_true_eq]
    by_cases z : i = q - 1
    · rw [if_pos z, if_pos (by rw [z, Nat.sub_add_cancel (by omega)])]
    · rw [if_neg z, if_neg (fun y => z (by have := (nI_eq (by omega) (by omega)).mp y; omega))]
/-- the four laterals -/
theorem sum_laterals (h : PX K T M) : mo_sum (fun i => mo_atl M (nI i)) 4 = mo_cn (fun j => decide (mq_pl M j = 7)) (mq_bc M) := by
  refine mo_sum_cn (fun i j => decide (mq_pl M j = 7 ∧ mq_lat M (mq_bf M j).toNatClampNeg = nI i)) _ 4 (mq_bc M) (fun j hj => ?_)
  simp only [decide_eq_true_eq]
  by_cases p7 : mq_pl M j = 7
  · obtain ⟨b1, -, b3, -⟩ := h.2.2.2.2.2 j hj
    have hl := b3 (Or.inr (Or.inr p7))
    obtain ⟨q, hq, eq⟩ := vp_in_of ((h.2.1 _ (bh_vk b1)).resolve_left hl) (by decide)
    rw [if_pos p7, mo_sum_ext (g := fun i => if i = q then 1 else 0) (fun i hi => ?_), mo_sum_one, if_pos hq]
    rw [eq]
    by_cases z : i = q
    · rw [if_pos z, if_pos ⟨p7, by rw [z]⟩]
    · rw [if_neg z, if_neg (fun y => z ((nI_eq (by omega) (by omega)).mp y.2).symm)]
  · rw [if_neg p7, mo_sum_ext (g := fun _ => 0) (fun i hi => if_neg (fun y => p7 y.1)), mo_sum_0]
/-- unmatched bags of all flights, against the loaded ones -/
theorem sum_unm (h : PX K T M) : mo_sum (fun i => mo_unm M (nI i)) (mq_fc M) ≤ mo_cn (fun j => decide (mq_pl M j = 8)) (mq_bc M) := by
  have hf := MI_fc h.1
  refine mo_sum_cnle (fun i j => decide ((mq_pl M j = 8 ∧ mq_bf M j = nI i) ∧ ¬ mo_fly M j)) _ (mq_fc M) (mq_bc M) (fun j hj => ?_)
  simp only [decide_eq_true_eq]
  by_cases p8 : mq_pl M j = 8
  · obtain ⟨q, hq, eq⟩ := vp_in_of (h.2.2.2.2.2 j hj).1 (by omega)
    rw [if_pos p8]
    refine Nat.le_trans (mo_sum_le (g := fun i => if i = q then 1 else 0) (fun i hi => ?_)) (by rw [mo_sum_one, if_pos hq]; exact Nat.le_refl _)
    by_cases z : i = q
    · rw [if_pos z]
      split <;> omega
    · rw [if_neg z, if_neg (fun y => z (by rw [eq] at y; exact ((nI_eq (by omega) (by omega)).mp y.1.2).symm))]
      exact Nat.le_refl _
  · rw [if_neg p8, mo_sum_ext (g := fun _ => 0) (fun i hi => if_neg (fun y => p8 y.1.1)), mo_sum_0]
    exact Nat.le_refl _
theorem cn_at (h : PX K T M) {x : Int32} (hx : x ≠ 0) : mo_cn (fun j => decide (mq_pl M j = x)) (mq_bc M) = mo_at M x := (MI_cn h.1 hx).symm
/-- the place by the scans is the place -/
theorem pbs_now (h : PX K T M) {k : Nat} (hk : k < mq_bc M) : mo_pbs M (nI k) (nI (mq_now M)) (mq_sc M) = mq_pl M k := by
  obtain ⟨-, -, -, a, b4, b5, b6, b7⟩ := h.2.2.2.2.2 k hk
  have hst := h.2.2.2.2.1
  have key : ∀ d, a + 1 + d ≤ mq_sc M → mo_pbs M (nI k) (nI (mq_now M)) (a + 1 + d) = mq_sp M a := by
    intro d
    induction d with
    | zero => exact fun _ => mo_pbs_1 b5 (hst a b4)
    | succ d ih =>
      intro hd
      rw [show a + 1 + (d + 1) = (a + 1 + d) + 1 from rfl, mo_pbs_0 (fun z => b7 (a + 1 + d) (by omega) (by omega) z.1)]
      exact ih (by omega)
  have := key (mq_sc M - (a + 1)) (by omega)
  rw [show a + 1 + (mq_sc M - (a + 1)) = mq_sc M by omega] at this
  rw [this, b6]
theorem mo_cn_mono {f g : Nat → Bool} {a : Nat} (h : ∀ j, j < a → f j = true → g j = true) : mo_cn f a ≤ mo_cn g a := by
  induction a with
  | zero => exact Nat.le_refl _
  | succ a ih =>
    simp only [mo_cn]
    have := ih (fun j hj => h j (by omega))
    by_cases z : f a = true
    · rw [if_pos z, if_pos (h a (by omega) z)]; omega
    · rw [if_neg z]; omega
/-- behind a load -/
theorem ld_ge {k : Nat} (hk : k < mq_bc M) : 1 ≤ mo_ld (mo_bring M k 8) (mq_bf M k) := by
  refine mo_cn_pos (j := k) hk (decide_eq_true ⟨?_, rfl⟩)
  exact bh_upd_same _ _ _
theorem ld_le (N : MT) (f : Int32) : mo_ld N f ≤ mo_cn (fun j => decide (mq_pl N j = 8)) (mq_bc N) :=
  mo_cn_mono (fun _ _ h => decide_eq_true (of_decide_eq_true h).1)
end
end
section
section BHI
variable {p : Program} {l : Launch} {e : Env} {R : Room} {s : State} {m : MethodId} {args : Array Value} {below : List Frame} {meth : Method} {c : Code} {cells slots : Nat} {Q : State → Prop}
variable {cc : ByteArray} {nL : Nat} {Ts : List Cond} {own : String} {D : va_G} {tys : List (ClassId × FieldType)} {A : Nat → Prop} {ret : Option FieldType}
variable {w w' : va_W} {lv lv' : List (Nat × Value)} {pc : Nat} {st rest : List Value}
theorem arr_known {args : Array Value} {s : State} {ty : FieldType} (h : (Cond.arrayClass ty).before args s = true) : ∃ cA : ClassId, ArrOfT s cA ty ∧ s.vm.findClass ("[" ++ ty.toString) = some cA := by
  obtain ⟨c, k, comp, h1, h2, h3⟩ := Cond.arrayClass_spec h
  exact ⟨c, fun n z => ⟨fun k h => (by cases h), k, h2, comp, h3⟩, h1⟩
theorem bh_newa (C : bh_C p s m args meth c cc nL Ts own D tys A ret) {atype : ArrayType} (harr : Cond.arrayClass (newarray.typeOf atype) ∈ Ts) {ty : FieldType} (hty : newarray.typeOf atype = ty) (t0 : Nat) {cA0 : ClassId} (ht : tys[t0]? = some (cA0, ty)) {nm : String} (hra : ∀ cA, va_RA s cA ty → s.vm.findClass nm = some cA) {n : Int32} {N9 : Nat} {a0 : vp_A} (ha : ∀ cA : ClassId, vp_cell cA a0 = arrV cA N9 (fun _ => defaultValue ty)) (hn : ¬ n < 0) (hN : n.toNatClampNeg = N9) (hbytes : N9 * componentBytes ty ≤ 536870912) (hcells : cells + 1 ≤ R.cells) (hslots : slots + N9 ≤ R.slots) (hdg : decode cc pc = .ok (.newarray atype, 2))
    (kk : ∀ q : Nat, bh_W p l e R s m args below meth c nL D A (cells + 1) (slots + N9) Q (w ++ [(q, .inl (cA0, a0))]) lv (pc + 2) (.ref q :: st)) : bh_W p l e R s m args below meth c nL D A cells slots Q (w) lv (pc) (.int n :: st) := by
  intro H locs ls hP hD hS h
  obtain ⟨⟨hx, hb, hml, hown, hts⟩, hK, hA, hr, hlk⟩ := C
  refine va_newa hx hb (hts _ harr) hty hK hP hD hS hA ha hn hN hbytes hcells hslots hdg (fun q cA H1 hK1 hP1 hD1 hS1 => ?_)
  have e1 := hra cA (hK1.2 tys.length (cA, ty) (by simp)).2
  have e0 := hra cA0 (hK.2 t0 _ ht).2
  rw [show cA = cA0 from Option.some.inj (e1.symm.trans e0)] at hP1 hD1
  exact kk q H1 locs ls hP1 hD1 hS1 h
theorem bh_new (C : bh_C p s m args meth c cc nL Ts own D tys A ret) {Cn : String} {T : u_T} {N ci index : Nat} (hin : ∀ z ∈ u_ws Cn T N, z ∈ Ts) (ty0 : Nat → FieldType) (hty : ∀ k, k < N → parseFieldDescriptor (T k).2.2.1 = some (ty0 k)) (hcl : Cond.classLink own index Cn ∈ Ts) (hinst : Cond.instantiable Cn N ∈ Ts) (hini : Cond.initialized Cn ∈ Ts) (hc : vwCl[ci]? = some (Cn, T, N)) {fs : List Value} (hfs : ∀ j, j < N → defaultValue (ty0 j) = vp_V fs j) (hcells : cells + 1 ≤ R.cells) (hslots : slots + N ≤ R.slots) (hdg : decode cc pc = .ok (.new index, 3))
    (kk : ∀ q : Nat, bh_W p l e R s m args below meth c nL D A (cells + 1) (slots + N) Q (w ++ [(q, .inr (ci, fs))]) lv (pc + 3) (.ref q :: st)) : bh_W p l e R s m args below meth c nL D A cells slots Q (w) lv (pc) (st) := by
  intro H locs ls hP hD hS h
  obtain ⟨⟨hx, hb, hml, hown, hts⟩, hK, hA, hr, hlk⟩ := C
  exact va_new hx hb hts hin ty0 hty hown (hts _ hcl) (hts _ hinst) (hts _ hini) hK hP hD hS hA hc hfs hcells hslots hdg (fun q H1 hP1 hD1 hS1 => kk q H1 locs ls hP1 hD1 hS1 h)
theorem bh_putF (C : bh_C p s m args meth c cc nL Ts own D tys A ret) (hin2 : meth.name = "<init>") {Cn : String} {T : u_T} {N ci index : Nat} (hin : ∀ z ∈ u_ws Cn T N, z ∈ Ts) (ty0 : Nat → FieldType) (hty : ∀ k, k < N → parseFieldDescriptor (T k).2.2.1 = some (ty0 k)) (hnm : ∀ a, a < N → ∀ b, b < N → a ≠ b → (T a).2.1 ≠ (T b).2.1) (q0 : Nat) {a : Nat} {fs : List Value} (he : w[q0]? = some (a, .inr (ci, fs))) (hc : vwCl[ci]? = some (Cn, T, N)) (k : Nat) (hk : k < N) (hlink : Cond.fieldLink own index Cn (T k).2.1 (T k).2.2.1 ∈ Ts) (hsame : (T k).1 = Cn) (hfin : (T k).2.2.2 = true) (hdecl : (T k).1 = own) {ty : FieldType} {v : Value} (hd : parseFieldDescriptor (T k).2.2.1 = some ty) (hn : narrow ty v = v) (hfit : fits ty v = true) (hl : k < fs.length) (hdg : decode cc pc = .ok (.putfield index, 3)) (hw : w.set q0 (a, .inr (ci, fs.set k v)) = w') (kk : bh_W p l e R s m args below meth c nL D A cells slots Q (w') lv (pc + 3) (st)) : bh_W p l e R s m args below meth c nL D A cells slots Q (w) lv (pc) (v :: .ref a :: st) := by
  intro H locs ls hP hD hS h
  obtain ⟨⟨hx, hb, hml, hown, hts⟩, hK, hA, hr, hlk⟩ := C
  subst hw
  exact va_putF hx hb hts hin ty0 hty hnm hown hK hP hD hS q0 he hc k hk (hts _ hlink) (fun _ h9 => by rw [hsame] at h9; exact h9) hfin hin2 hdecl hd hn hfit hl hdg (fun H1 locs1 hP1 hD1 hS1 => kk H1 locs1 ls hP1 hD1 hS1 h)
theorem bh_objInit (C : bh_C p s m args meth c cc nL Ts own D tys A ret) {idx : Nat} {a : Nat} (hlink : Cond.methodLink own idx objectInit ∈ Ts) (hinst : Cond.instanceMethod objectInit ∈ Ts) (hcode : Cond.code objectInit ⟨#[0xb1]⟩ 1 none ∈ Ts) (hdg : decode cc pc = .ok (.invokespecial idx, 3)) (hf : 1 ≤ R.frames) (hl : (st.map fun v => v.category).sum + 12 ≤ R.locals) (kk : bh_W p l e R s m args below meth c nL D A cells slots Q (w) lv (pc + 3) (st)) : bh_W p l e R s m args below meth c nL D A cells slots Q (w) lv (pc) (.ref a :: st) := by
  intro H locs ls hP hD hS h
  obtain ⟨⟨hx, hb, hml, hown, hts⟩, hK, hA, hr, hlk⟩ := C
  exact W.objInit hx hb hown (hts _ hlink) (hts _ hinst) (hts _ hcode) rfl (h.1.trans hml.symm) rfl hdg hf (by show 2 * 0 + _ + 12 ≤ _; omega) (W.eq (g2 := F0 m (pc + 3) ls st) rfl (kk H locs ls hP hD hS h))
theorem bh_callv_I (C : bh_C p s m args meth c cc nL Ts own D tys A ret) {S : Type} {post : S → Prop} {wf : S → va_W} {wc wr : va_W} {mc ms n index maxL : Nat} {y : MethodName} {bytes : ByteArray} {ws : List Cond} {rm : Room} {b : Nat} {As : List Value} (hM : bh_Mv l D tys y ws rm (.ref b :: As) wc post wf mc ms) (cw : CallB R s args own index y bytes maxL none ws rm mc ms n ∧ y.name = "<init>" ∧ (Cond.instanceMethod y).before args s = true) (hn : As.length = n) (hst : st = As.reverse ++ .ref b :: rest) (hcat : (rest.map fun v => v.category).sum ≤ 8) (hdg : decode cc pc = .ok (.invokespecial index, 3)) (hf : cells + mc ≤ R.cells ∧ slots + ms ≤ R.slots)
    (kk : ∀ u : S, post u → bh_W p l e R s m args below meth c nL D A (cells + mc) (slots + ms) Q (wr ++ wf u) lv (pc + 3) (rest)) : bh_W p l e R s m args below meth c nL D A cells slots Q (wr ++ wc) lv (pc) (st) := by
  intro H locs ls hP hD hS h
  obtain ⟨S0, hK, hA, hr, hlk⟩ := C
  have hF := bh_free hD hS hA
  have hPc := (bh_Papp.mp hP).2
  have hDc : va_D (fun _ => True) wc := ((bh_Dapp.mp hD).2.1).weaken (fun _ _ _ _ => trivial)
  refine va_callv (va_runI (As := As) (rest := rest) S0 (hM H.size) cw ⟨bh_blind, fun U hU hW => ⟨rfl, by rw [hU], by rw [hU]; exact hPc, va_K.moved hW.alike hK, hDc⟩⟩ rfl hn h.1 hst (lv_room hcat) hdg hf) hS (fun q _ h => hF q h) hF (fun u t H1 locs1 ht hvm hp hB hz1 hk1 hS1 => ?_)
  obtain ⟨hP1, hK1, hD1⟩ := hB
  rw [ht] at hP1
  obtain ⟨hP3, hD3⟩ := bh_join hP hD hk1 hF hP1 hD1
  exact kk u hp H1 locs1 ls hP3 hD3 hS1 h
theorem bh_slen (C : bh_C p s m args meth c cc nL Ts own D tys A ret) {b L : Nat} {xs : Nat → Int32} (hX : va_X b L xs s s.heap) (hbl : b < s.heap.size) (hbA : ¬ A b) (hdg : decode cc pc = .ok (.arraylength, 1)) (kk : bh_W p l e R s m args below meth c nL D A cells slots Q (w) lv (pc + 1) (.int (nI L) :: st)) : bh_W p l e R s m args below meth c nL D A cells slots Q (w) lv (pc) (.ref b :: st) := by
  intro H locs ls hP hD hS h
  obtain ⟨⟨hx, hb, hml, hown, hts⟩, hK, hA, hr, hlk⟩ := C
  exact va_slen hx hb hX hbl hbA hS hdg (kk H locs ls hP hD hS h)
theorem bh_sld (C : bh_C p s m args meth c cc nL Ts own D tys A ret) {b L : Nat} {xs : Nat → Int32} (hX : va_X b L xs s s.heap) (hbl : b < s.heap.size) (hbA : ¬ A b) {i x : Int32} (hin : vp_in i L) (hv : xs i.toNatClampNeg = x) (hdg : decode cc pc = .ok (.iaload, 1)) (kk : bh_W p l e R s m args below meth c nL D A cells slots Q (w) lv (pc + 1) (.int x :: st)) : bh_W p l e R s m args below meth c nL D A cells slots Q (w) lv (pc) (.int i :: .ref b :: st) := by
  intro H locs ls hP hD hS h
  obtain ⟨⟨hx, hb, hml, hown, hts⟩, hK, hA, hr, hlk⟩ := C
  subst hv
  exact va_sld hx hb hX hbl hbA hS hin hdg (kk H locs ls hP hD hS h)
end BHI
def mo_0 : MT := (0, 0, 0, 0, (fun _ => 0), (fun _ => 0), (fun _ => 0), (fun _ => 0), (fun _ => 0), (fun _ => 0), (fun _ => 0), (fun _ => 0), (fun _ => 0), upd (fun _ => 0) (0 : Int32).toNatClampNeg 48, (fun _ => 0), (fun _ => 0), (fun _ => 0))
theorem ct_X0_init_in : ∀ w ∈ wsX00, w ∈ wsX0_init := by decide +kernel
abbrev wh_dX0 : List Value := [.int 0, .int 0, .null, .null, .null, .int 0, .null, .null, .null, .null, .null, .null, .null, .int 0, .null, .null, .null]
set_option maxRecDepth 100000 in
set_option maxHeartbeats 4000000 in
theorem ct_X0_init (l : Launch) (D : va_G) (cI cZ cL : ClassId) (h0 : Nat) : bh_Mv l D (wh_tys cI cZ cL) yX0_init wsX0_init ({ frames := 1, cells := 13, slots := 6504, locals := 12 } : Room) [.ref h0] [(h0, .inr (0, wh_dX0))] (fun ad : Nat → Nat => ad 0 = h0) (fun ad => wh_hall cI cZ ad mo_0) 13 6504 := by
  refine bh_ofv (cc := cX0_init) (maxL := 1) (by decide +kernel) rfl (Nat.le_of_ble_eq_true rfl) ?_
  intro p e s m args below meth c A Q hin2 C hQ
  have hin3 := hin2 rfl
  refine bh_eqlv (lv' := [(0, .ref h0)]) rfl ?_
  refine bh_aload_n C dX0_init_0 rfl 0 rfl ?_
  refine bh_objInit C (by decide +kernel) (by decide +kernel) (by decide +kernel) dX0_init_1 (Nat.le_of_ble_eq_true rfl) (Nat.le_of_ble_eq_true rfl) ?_
  refine bh_aload_n C dX0_init_4 rfl 0 rfl ?_
  refine bh_bipush (v := 10) C dX0_init_5 (by decide) ?_
  refine bh_newa C (atype := .int) (by decide +kernel) rfl 0 rfl (nm := "[I") (fun _ h => h) (a0 := (10, .inl (fun _ => 0))) (fun _ => rfl) (by decide) (by decide) (Nat.le_of_ble_eq_true rfl) (Nat.le_of_ble_eq_true rfl) (Nat.le_of_ble_eq_true rfl) dX0_init_7 (fun q2 => ?_)
  refine bh_putF (ty := .array .int) (v := .ref q2) (w' := [(h0, .inr (0, [.int 0, .int 0, .ref q2, .null, .null, .int 0, .null, .null, .null, .null, .null, .null, .null, .int 0, .null, .null, .null])), (q2, .inl (cI, 10, .inl (fun _ => 0)))]) C hin3 ct_X0_init_in tyX0 tyX0_ok nmX0 0 rfl rfl 2 (by decide) (by decide +kernel) rfl rfl rfl (by decide +kernel) rfl rfl (Nat.le_of_ble_eq_true rfl) dX0_init_9 rfl ?_
  refine bh_aload_n C dX0_init_12 rfl 0 rfl ?_
  refine bh_bipush (v := 10) C dX0_init_13 (by decide) ?_
  refine bh_newa C (atype := .int) (by decide +kernel) rfl 0 rfl (nm := "[I") (fun _ h => h) (a0 := (10, .inl (fun _ => 0))) (fun _ => rfl) (by decide) (by decide) (Nat.le_of_ble_eq_true rfl) (Nat.le_of_ble_eq_true rfl) (Nat.le_of_ble_eq_true rfl) dX0_init_15 (fun q3 => ?_)
  refine bh_putF (ty := .array .int) (v := .ref q3) (w' := [(h0, .inr (0, [.int 0, .int 0, .ref q2, .ref q3, .null, .int 0, .null, .null, .null, .null, .null, .null, .null, .int 0, .null, .null, .null])), (q2, .inl (cI, 10, .inl (fun _ => 0))), (q3, .inl (cI, 10, .inl (fun _ => 0)))]) C hin3 ct_X0_init_in tyX0 tyX0_ok nmX0 0 rfl rfl 3 (by decide) (by decide +kernel) rfl rfl rfl (by decide +kernel) rfl rfl (Nat.le_of_ble_eq_true rfl) dX0_init_17 rfl ?_
  refine bh_aload_n C dX0_init_20 rfl 0 rfl ?_
  refine bh_bipush (v := 40) C dX0_init_21 (by decide) ?_
  refine bh_newa C (atype := .boolean) (by decide +kernel) rfl 1 rfl (nm := "[Z") (fun _ h => h) (a0 := (40, .inl (fun _ => 0))) (fun _ => rfl) (by decide) (by decide) (Nat.le_of_ble_eq_true rfl) (Nat.le_of_ble_eq_true rfl) (Nat.le_of_ble_eq_true rfl) dX0_init_23 (fun q4 => ?_)
  refine bh_putF (ty := .array .boolean) (v := .ref q4) (w' := [(h0, .inr (0, [.int 0, .int 0, .ref q2, .ref q3, .ref q4, .int 0, .null, .null, .null, .null, .null, .null, .null, .int 0, .null, .null, .null])), (q2, .inl (cI, 10, .inl (fun _ => 0))), (q3, .inl (cI, 10, .inl (fun _ => 0))), (q4, .inl (cZ, 40, .inl (fun _ => 0)))]) C hin3 ct_X0_init_in tyX0 tyX0_ok nmX0 0 rfl rfl 4 (by decide) (by decide +kernel) rfl rfl rfl (by decide +kernel) rfl rfl (Nat.le_of_ble_eq_true rfl) dX0_init_25 rfl ?_
  refine bh_aload_n C dX0_init_28 rfl 0 rfl ?_
  refine bh_bipush (v := 48) C dX0_init_29 (by decide) ?_
  refine bh_newa C (atype := .int) (by decide +kernel) rfl 0 rfl (nm := "[I") (fun _ h => h) (a0 := (48, .inl (fun _ => 0))) (fun _ => rfl) (by decide) (by decide) (Nat.le_of_ble_eq_true rfl) (Nat.le_of_ble_eq_true rfl) (Nat.le_of_ble_eq_true rfl) dX0_init_31 (fun q6 => ?_)
  refine bh_putF (ty := .array .int) (v := .ref q6) (w' := [(h0, .inr (0, [.int 0, .int 0, .ref q2, .ref q3, .ref q4, .int 0, .ref q6, .null, .null, .null, .null, .null, .null, .int 0, .null, .null, .null])), (q2, .inl (cI, 10, .inl (fun _ => 0))), (q3, .inl (cI, 10, .inl (fun _ => 0))), (q4, .inl (cZ, 40, .inl (fun _ => 0))), (q6, .inl (cI, 48, .inl (fun _ => 0)))]) C hin3 ct_X0_init_in tyX0 tyX0_ok nmX0 0 rfl rfl 6 (by decide) (by decide +kernel) rfl rfl rfl (by decide +kernel) rfl rfl (Nat.le_of_ble_eq_true rfl) dX0_init_33 rfl ?_
  refine bh_aload_n C dX0_init_36 rfl 0 rfl ?_
  refine bh_bipush (v := 48) C dX0_init_37 (by decide) ?_
  refine bh_newa C (atype := .int) (by decide +kernel) rfl 0 rfl (nm := "[I") (fun _ h => h) (a0 := (48, .inl (fun _ => 0))) (fun _ => rfl) (by decide) (by decide) (Nat.le_of_ble_eq_true rfl) (Nat.le_of_ble_eq_true rfl) (Nat.le_of_ble_eq_true rfl) dX0_init_39 (fun q7 => ?_)
  refine bh_putF (ty := .array .int) (v := .ref q7) (w' := [(h0, .inr (0, [.int 0, .int 0, .ref q2, .ref q3, .ref q4, .int 0, .ref q6, .ref q7, .null, .null, .null, .null, .null, .int 0, .null, .null, .null])), (q2, .inl (cI, 10, .inl (fun _ => 0))), (q3, .inl (cI, 10, .inl (fun _ => 0))), (q4, .inl (cZ, 40, .inl (fun _ => 0))), (q6, .inl (cI, 48, .inl (fun _ => 0))), (q7, .inl (cI, 48, .inl (fun _ => 0)))]) C hin3 ct_X0_init_in tyX0 tyX0_ok nmX0 0 rfl rfl 7 (by decide) (by decide +kernel) rfl rfl rfl (by decide +kernel) rfl rfl (Nat.le_of_ble_eq_true rfl) dX0_init_41 rfl ?_
  refine bh_aload_n C dX0_init_44 rfl 0 rfl ?_
  refine bh_bipush (v := 48) C dX0_init_45 (by decide) ?_
  refine bh_newa C (atype := .boolean) (by decide +kernel) rfl 1 rfl (nm := "[Z") (fun _ h => h) (a0 := (48, .inl (fun _ => 0))) (fun _ => rfl) (by decide) (by decide) (Nat.le_of_ble_eq_true rfl) (Nat.le_of_ble_eq_true rfl) (Nat.le_of_ble_eq_true rfl) dX0_init_47 (fun q8 => ?_)
  refine bh_putF (ty := .array .boolean) (v := .ref q8) (w' := [(h0, .inr (0, [.int 0, .int 0, .ref q2, .ref q3, .ref q4, .int 0, .ref q6, .ref q7, .ref q8, .null, .null, .null, .null, .int 0, .null, .null, .null])), (q2, .inl (cI, 10, .inl (fun _ => 0))), (q3, .inl (cI, 10, .inl (fun _ => 0))), (q4, .inl (cZ, 40, .inl (fun _ => 0))), (q6, .inl (cI, 48, .inl (fun _ => 0))), (q7, .inl (cI, 48, .inl (fun _ => 0))), (q8, .inl (cZ, 48, .inl (fun _ => 0)))]) C hin3 ct_X0_init_in tyX0 tyX0_ok nmX0 0 rfl rfl 8 (by decide) (by decide +kernel) rfl rfl rfl (by decide +kernel) rfl rfl (Nat.le_of_ble_eq_true rfl) dX0_init_49 rfl ?_
  refine bh_aload_n C dX0_init_52 rfl 0 rfl ?_
  refine bh_bipush (v := 48) C dX0_init_53 (by decide) ?_
  refine bh_newa C (atype := .int) (by decide +kernel) rfl 0 rfl (nm := "[I") (fun _ h => h) (a0 := (48, .inl (fun _ => 0))) (fun _ => rfl) (by decide) (by decide) (Nat.le_of_ble_eq_true rfl) (Nat.le_of_ble_eq_true rfl) (Nat.le_of_ble_eq_true rfl) dX0_init_55 (fun q9 => ?_)
  refine bh_putF (ty := .array .int) (v := .ref q9) (w' := [(h0, .inr (0, [.int 0, .int 0, .ref q2, .ref q3, .ref q4, .int 0, .ref q6, .ref q7, .ref q8, .ref q9, .null, .null, .null, .int 0, .null, .null, .null])), (q2, .inl (cI, 10, .inl (fun _ => 0))), (q3, .inl (cI, 10, .inl (fun _ => 0))), (q4, .inl (cZ, 40, .inl (fun _ => 0))), (q6, .inl (cI, 48, .inl (fun _ => 0))), (q7, .inl (cI, 48, .inl (fun _ => 0))), (q8, .inl (cZ, 48, .inl (fun _ => 0))), (q9, .inl (cI, 48, .inl (fun _ => 0)))]) C hin3 ct_X0_init_in tyX0 tyX0_ok nmX0 0 rfl rfl 9 (by decide) (by decide +kernel) rfl rfl rfl (by decide +kernel) rfl rfl (Nat.le_of_ble_eq_true rfl) dX0_init_57 rfl ?_
  refine bh_aload_n C dX0_init_60 rfl 0 rfl ?_
  refine bh_bipush (v := 48) C dX0_init_61 (by decide) ?_
  refine bh_newa C (atype := .int) (by decide +kernel) rfl 0 rfl (nm := "[I") (fun _ h => h) (a0 := (48, .inl (fun _ => 0))) (fun _ => rfl) (by decide) (by decide) (Nat.le_of_ble_eq_true rfl) (Nat.le_of_ble_eq_true rfl) (Nat.le_of_ble_eq_true rfl) dX0_init_63 (fun q10 => ?_)
  refine bh_putF (ty := .array .int) (v := .ref q10) (w' := [(h0, .inr (0, [.int 0, .int 0, .ref q2, .ref q3, .ref q4, .int 0, .ref q6, .ref q7, .ref q8, .ref q9, .ref q10, .null, .null, .int 0, .null, .null, .null])), (q2, .inl (cI, 10, .inl (fun _ => 0))), (q3, .inl (cI, 10, .inl (fun _ => 0))), (q4, .inl (cZ, 40, .inl (fun _ => 0))), (q6, .inl (cI, 48, .inl (fun _ => 0))), (q7, .inl (cI, 48, .inl (fun _ => 0))), (q8, .inl (cZ, 48, .inl (fun _ => 0))), (q9, .inl (cI, 48, .inl (fun _ => 0))), (q10, .inl (cI, 48, .inl (fun _ => 0)))]) C hin3 ct_X0_init_in tyX0 tyX0_ok nmX0 0 rfl rfl 10 (by decide) (by decide +kernel) rfl rfl rfl (by decide +kernel) rfl rfl (Nat.le_of_ble_eq_true rfl) dX0_init_65 rfl ?_
  refine bh_aload_n C dX0_init_68 rfl 0 rfl ?_
  refine bh_bipush (v := 48) C dX0_init_69 (by decide) ?_
  refine bh_newa C (atype := .int) (by decide +kernel) rfl 0 rfl (nm := "[I") (fun _ h => h) (a0 := (48, .inl (fun _ => 0))) (fun _ => rfl) (by decide) (by decide) (Nat.le_of_ble_eq_true rfl) (Nat.le_of_ble_eq_true rfl) (Nat.le_of_ble_eq_true rfl) dX0_init_71 (fun q11 => ?_)
  refine bh_putF (ty := .array .int) (v := .ref q11) (w' := [(h0, .inr (0, [.int 0, .int 0, .ref q2, .ref q3, .ref q4, .int 0, .ref q6, .ref q7, .ref q8, .ref q9, .ref q10, .ref q11, .null, .int 0, .null, .null, .null])), (q2, .inl (cI, 10, .inl (fun _ => 0))), (q3, .inl (cI, 10, .inl (fun _ => 0))), (q4, .inl (cZ, 40, .inl (fun _ => 0))), (q6, .inl (cI, 48, .inl (fun _ => 0))), (q7, .inl (cI, 48, .inl (fun _ => 0))), (q8, .inl (cZ, 48, .inl (fun _ => 0))), (q9, .inl (cI, 48, .inl (fun _ => 0))), (q10, .inl (cI, 48, .inl (fun _ => 0))), (q11, .inl (cI, 48, .inl (fun _ => 0)))]) C hin3 ct_X0_init_in tyX0 tyX0_ok nmX0 0 rfl rfl 11 (by decide) (by decide +kernel) rfl rfl rfl (by decide +kernel) rfl rfl (Nat.le_of_ble_eq_true rfl) dX0_init_73 rfl ?_
  refine bh_aload_n C dX0_init_76 rfl 0 rfl ?_
  refine bh_bipush (v := 12) C dX0_init_77 (by decide) ?_
  refine bh_newa C (atype := .int) (by decide +kernel) rfl 0 rfl (nm := "[I") (fun _ h => h) (a0 := (12, .inl (fun _ => 0))) (fun _ => rfl) (by decide) (by decide) (Nat.le_of_ble_eq_true rfl) (Nat.le_of_ble_eq_true rfl) (Nat.le_of_ble_eq_true rfl) dX0_init_79 (fun q12 => ?_)
  refine bh_putF (ty := .array .int) (v := .ref q12) (w' := [(h0, .inr (0, [.int 0, .int 0, .ref q2, .ref q3, .ref q4, .int 0, .ref q6, .ref q7, .ref q8, .ref q9, .ref q10, .ref q11, .ref q12, .int 0, .null, .null, .null])), (q2, .inl (cI, 10, .inl (fun _ => 0))), (q3, .inl (cI, 10, .inl (fun _ => 0))), (q4, .inl (cZ, 40, .inl (fun _ => 0))), (q6, .inl (cI, 48, .inl (fun _ => 0))), (q7, .inl (cI, 48, .inl (fun _ => 0))), (q8, .inl (cZ, 48, .inl (fun _ => 0))), (q9, .inl (cI, 48, .inl (fun _ => 0))), (q10, .inl (cI, 48, .inl (fun _ => 0))), (q11, .inl (cI, 48, .inl (fun _ => 0))), (q12, .inl (cI, 12, .inl (fun _ => 0)))]) C hin3 ct_X0_init_in tyX0 tyX0_ok nmX0 0 rfl rfl 12 (by decide) (by decide +kernel) rfl rfl rfl (by decide +kernel) rfl rfl (Nat.le_of_ble_eq_true rfl) dX0_init_81 rfl ?_
  refine bh_aload_n C dX0_init_84 rfl 0 rfl ?_
  refine bh_sipush (v := 2048) C dX0_init_85 (by decide) ?_
  refine bh_newa C (atype := .int) (by decide +kernel) rfl 0 rfl (nm := "[I") (fun _ h => h) (a0 := (2048, .inl (fun _ => 0))) (fun _ => rfl) (by decide) (by decide) (Nat.le_of_ble_eq_true rfl) (Nat.le_of_ble_eq_true rfl) (Nat.le_of_ble_eq_true rfl) dX0_init_88 (fun q14 => ?_)
  refine bh_putF (ty := .array .int) (v := .ref q14) (w' := [(h0, .inr (0, [.int 0, .int 0, .ref q2, .ref q3, .ref q4, .int 0, .ref q6, .ref q7, .ref q8, .ref q9, .ref q10, .ref q11, .ref q12, .int 0, .ref q14, .null, .null])), (q2, .inl (cI, 10, .inl (fun _ => 0))), (q3, .inl (cI, 10, .inl (fun _ => 0))), (q4, .inl (cZ, 40, .inl (fun _ => 0))), (q6, .inl (cI, 48, .inl (fun _ => 0))), (q7, .inl (cI, 48, .inl (fun _ => 0))), (q8, .inl (cZ, 48, .inl (fun _ => 0))), (q9, .inl (cI, 48, .inl (fun _ => 0))), (q10, .inl (cI, 48, .inl (fun _ => 0))), (q11, .inl (cI, 48, .inl (fun _ => 0))), (q12, .inl (cI, 12, .inl (fun _ => 0))), (q14, .inl (cI, 2048, .inl (fun _ => 0)))]) C hin3 ct_X0_init_in tyX0 tyX0_ok nmX0 0 rfl rfl 14 (by decide) (by decide +kernel) rfl rfl rfl (by decide +kernel) rfl rfl (Nat.le_of_ble_eq_true rfl) dX0_init_90 rfl ?_
  refine bh_aload_n C dX0_init_93 rfl 0 rfl ?_
  refine bh_sipush (v := 2048) C dX0_init_94 (by decide) ?_
  refine bh_newa C (atype := .int) (by decide +kernel) rfl 0 rfl (nm := "[I") (fun _ h => h) (a0 := (2048, .inl (fun _ => 0))) (fun _ => rfl) (by decide) (by decide) (Nat.le_of_ble_eq_true rfl) (Nat.le_of_ble_eq_true rfl) (Nat.le_of_ble_eq_true rfl) dX0_init_97 (fun q15 => ?_)
  refine bh_putF (ty := .array .int) (v := .ref q15) (w' := [(h0, .inr (0, [.int 0, .int 0, .ref q2, .ref q3, .ref q4, .int 0, .ref q6, .ref q7, .ref q8, .ref q9, .ref q10, .ref q11, .ref q12, .int 0, .ref q14, .ref q15, .null])), (q2, .inl (cI, 10, .inl (fun _ => 0))), (q3, .inl (cI, 10, .inl (fun _ => 0))), (q4, .inl (cZ, 40, .inl (fun _ => 0))), (q6, .inl (cI, 48, .inl (fun _ => 0))), (q7, .inl (cI, 48, .inl (fun _ => 0))), (q8, .inl (cZ, 48, .inl (fun _ => 0))), (q9, .inl (cI, 48, .inl (fun _ => 0))), (q10, .inl (cI, 48, .inl (fun _ => 0))), (q11, .inl (cI, 48, .inl (fun _ => 0))), (q12, .inl (cI, 12, .inl (fun _ => 0))), (q14, .inl (cI, 2048, .inl (fun _ => 0))), (q15, .inl (cI, 2048, .inl (fun _ => 0)))]) C hin3 ct_X0_init_in tyX0 tyX0_ok nmX0 0 rfl rfl 15 (by decide) (by decide +kernel) rfl rfl rfl (by decide +kernel) rfl rfl (Nat.le_of_ble_eq_true rfl) dX0_init_99 rfl ?_
  refine bh_aload_n C dX0_init_102 rfl 0 rfl ?_
  refine bh_sipush (v := 2048) C dX0_init_103 (by decide) ?_
  refine bh_newa C (atype := .int) (by decide +kernel) rfl 0 rfl (nm := "[I") (fun _ h => h) (a0 := (2048, .inl (fun _ => 0))) (fun _ => rfl) (by decide) (by decide) (Nat.le_of_ble_eq_true rfl) (Nat.le_of_ble_eq_true rfl) (Nat.le_of_ble_eq_true rfl) dX0_init_106 (fun q16 => ?_)
  refine bh_putF (ty := .array .int) (v := .ref q16) (w' := [(h0, .inr (0, [.int 0, .int 0, .ref q2, .ref q3, .ref q4, .int 0, .ref q6, .ref q7, .ref q8, .ref q9, .ref q10, .ref q11, .ref q12, .int 0, .ref q14, .ref q15, .ref q16])), (q2, .inl (cI, 10, .inl (fun _ => 0))), (q3, .inl (cI, 10, .inl (fun _ => 0))), (q4, .inl (cZ, 40, .inl (fun _ => 0))), (q6, .inl (cI, 48, .inl (fun _ => 0))), (q7, .inl (cI, 48, .inl (fun _ => 0))), (q8, .inl (cZ, 48, .inl (fun _ => 0))), (q9, .inl (cI, 48, .inl (fun _ => 0))), (q10, .inl (cI, 48, .inl (fun _ => 0))), (q11, .inl (cI, 48, .inl (fun _ => 0))), (q12, .inl (cI, 12, .inl (fun _ => 0))), (q14, .inl (cI, 2048, .inl (fun _ => 0))), (q15, .inl (cI, 2048, .inl (fun _ => 0))), (q16, .inl (cI, 2048, .inl (fun _ => 0)))]) C hin3 ct_X0_init_in tyX0 tyX0_ok nmX0 0 rfl rfl 16 (by decide) (by decide +kernel) rfl rfl rfl (by decide +kernel) rfl rfl (Nat.le_of_ble_eq_true rfl) dX0_init_108 rfl ?_
  refine bh_aload_n C dX0_init_111 rfl 0 rfl ?_
  refine bh_get C ct_X0_init_in 0 rfl rfl 12 (by decide) (by decide +kernel) rfl (v := .ref q12) rfl dX0_init_112 ?_
  refine bh_iconst (v := 0) C dX0_init_115 (by decide) ?_
  refine bh_bipush (v := 48) C dX0_init_116 (by decide) ?_
  refine bh_iast (w' := [(h0, .inr (0, [.int 0, .int 0, .ref q2, .ref q3, .ref q4, .int 0, .ref q6, .ref q7, .ref q8, .ref q9, .ref q10, .ref q11, .ref q12, .int 0, .ref q14, .ref q15, .ref q16])), (q2, .inl (cI, 10, .inl (fun _ => 0))), (q3, .inl (cI, 10, .inl (fun _ => 0))), (q4, .inl (cZ, 40, .inl (fun _ => 0))), (q6, .inl (cI, 48, .inl (fun _ => 0))), (q7, .inl (cI, 48, .inl (fun _ => 0))), (q8, .inl (cZ, 48, .inl (fun _ => 0))), (q9, .inl (cI, 48, .inl (fun _ => 0))), (q10, .inl (cI, 48, .inl (fun _ => 0))), (q11, .inl (cI, 48, .inl (fun _ => 0))), (q12, .inl (cI, 12, .inl (upd (fun _ => 0) (0 : Int32).toNatClampNeg 48))), (q14, .inl (cI, 2048, .inl (fun _ => 0))), (q15, .inl (cI, 2048, .inl (fun _ => 0))), (q16, .inl (cI, 2048, .inl (fun _ => 0)))]) C 10 0 rfl rfl (vp_in_nI (n := 0) (by decide) (by decide)) dX0_init_118 rfl ?_
  exact bh_vret C hQ dX0_init_119 (fun k => match k with | 0 => h0 | 2 => q2 | 3 => q3 | 4 => q4 | 6 => q6 | 7 => q7 | 8 => q8 | 9 => q9 | 10 => q10 | 11 => q11 | 12 => q12 | 14 => q14 | 15 => q15 | 16 => q16 | _ => 0) (w := [(h0, .inr (0, [.int 0, .int 0, .ref q2, .ref q3, .ref q4, .int 0, .ref q6, .ref q7, .ref q8, .ref q9, .ref q10, .ref q11, .ref q12, .int 0, .ref q14, .ref q15, .ref q16])), (q2, .inl (cI, 10, .inl (fun _ => 0))), (q3, .inl (cI, 10, .inl (fun _ => 0))), (q4, .inl (cZ, 40, .inl (fun _ => 0))), (q6, .inl (cI, 48, .inl (fun _ => 0))), (q7, .inl (cI, 48, .inl (fun _ => 0))), (q8, .inl (cZ, 48, .inl (fun _ => 0))), (q9, .inl (cI, 48, .inl (fun _ => 0))), (q10, .inl (cI, 48, .inl (fun _ => 0))), (q11, .inl (cI, 48, .inl (fun _ => 0))), (q12, .inl (cI, 12, .inl (upd (fun _ => 0) (0 : Int32).toNatClampNeg 48))), (q14, .inl (cI, 2048, .inl (fun _ => 0))), (q15, .inl (cI, 2048, .inl (fun _ => 0))), (q16, .inl (cI, 2048, .inl (fun _ => 0)))]) rfl (Nat.le_of_ble_eq_true rfl) (Nat.le_of_ble_eq_true rfl) rfl
end
section
section BHW
variable {p : Program} {l : Launch} {e : Env} {R : Room} {s : State} {m : MethodId} {args : Array Value} {below : List Frame} {meth : Method} {c : Code} {cells slots : Nat} {Q : State → Prop}
variable {cc : ByteArray} {nL : Nat} {Ts : List Cond} {own : String} {D : va_G} {tys : List (ClassId × FieldType)} {A : Nat → Prop} {ret : Option FieldType}
variable {w w' : va_W} {lv lv' : List (Nat × Value)} {pc : Nat} {st rest : List Value}
/-- a method with handlers, that needs what a catch needs -/
def bh_Wi {S : Type} (l : Launch) (D : va_G) (tys : List (ClassId × FieldType)) (y : MethodName) (ws : List Cond) (rm : Room) (av : List Value) (w0 : va_W) (post : Int32 → S → Prop) (wf : S → va_W) (mc ms : Nat) : Prop :=
  ∀ sz : Nat, Met l y ws rm (va_Pc av (bh_PX D tys w0 sz)) (va_Qi post (fun u t => bh_B D tys (va_A w0 sz) (wf u) t) (va_A w0 sz)) mc ms (va_A w0 sz)
theorem bh_ofWi {S : Type} {y : MethodName} {ws ws' : List Cond} {rm : Room} {av : List Value} {w0 : va_W} {post : Int32 → S → Prop} {wf : S → va_W} {mc ms : Nat} {cc : ByteArray} {maxL : Nat} {ty : FieldType} {hh : List (Nat × Nat × Nat × Nat)} (hy : plainName y.cls = true) (hw : ws = Cond.codeWith y cc maxL (some ty) hh :: ws') (hn : (lg_sl av).length ≤ maxL)
    (body : ∀ (p : Program) (e : Env) (s : State) (m : MethodId) (args : Array Value) (below : List Frame) (meth : Method) (c : Code) (A : Nat → Prop) (Q : State → Prop), bh_C p s m args meth c cc maxL ws y.cls D tys A (some ty) → Q = MQ below (va_Qi post (fun u t => bh_B D tys A (wf u) t) A) args s mc ms A → xe_E A s s.heap → c.exceptionTable.toList = tableOf hh → bh_W p l e rm s m args below meth c maxL D A 0 0 Q w0 (lv_args 0 av) 0 []) : bh_Wi l D tys y ws rm av w0 post wf mc ms := by
  intro sz
  refine va_MetW (cc := cc) (maxL := maxL) (ret := some ty) hy hw ?_
  intro p e s m args below meth c s₁ B hml hv
  obtain ⟨rfl, ⟨hsz, hP, hK, hD0⟩, hE⟩ := hv
  subst hsz
  have hl := lv_entry av (n := maxL) hn
  have htab := vx_table (x := y) B (atoms_spec (ws := ws) B.pre _ (by rw [hw]; exact List.mem_cons_self))
  rw [lg_entry_eq]
  exact body p e s m _ below meth c (va_A w0 s.heap.size) _ ⟨⟨B.exec, B.bytes, hml, findClass_of_methodNamed B.named, atoms_spec (ws := ws) B.pre⟩, hK, fun q h => Or.inr h, B.returns, B.notSynchronized⟩ rfl hE htab s.heap [] _ hP hD0.self va_S.rf hl
/-- the frame at pc with something of class E thrown over it -/
def bh_V (p : Program) (l : Launch) (e : Env) (R : Room) (s : State) (m : MethodId) (args : Array Value) (below : List Frame) (meth : Method) (c : Code) (nL : Nat) (D : va_G) (A : Nat → Prop) (cells slots : Nat) (Q : State → Prop) (w : va_W) (lv : List (Nat × Value)) (pc : Nat) (st : List Value) (E : String) : Prop :=
  ∀ (H : Heap) (locs : List Loc) (ls : Array Slot) (q : Addr) (ce : Cell), va_P D vwCl w H → va_D A w → va_S A s.heap H locs → lv_has ls nL lv → H[q]? = some ce → ce.vm = .none → s.vm.findClass E = some ce.cls → vx_W p l e R s m args below meth c H locs cells slots Q (F0 m pc ls st) q
theorem bh_catch (C : bh_C p s m args meth c cc nL Ts own D tys A ret) (hE : xe_E A s s.heap) {hh : List (Nat × Nat × Nat × Nat)} (htab : c.exceptionTable.toList = tableOf hh) {E name : String} (pre : List ExceptionTableEntry) (x : ExceptionTableEntry) (suf : List ExceptionTableEntry) (hsplit : tableOf hh = pre ++ x :: suf)
    (hpass : ∀ z ∈ pre, z.catchType ≠ 0 ∧ ∃ nm : String, Cond.classLink own z.catchType nm ∈ Ts ∧ (E, nm) ∈ xe_nc) (hx : covers x pc = true) (h0 : x.catchType ≠ 0) (hlink : Cond.classLink own x.catchType name ∈ Ts) (hcast : Cond.castable E name ∈ xe_bad)
    (kk : ∀ q : Nat, bh_W p l e R s m args below meth c nL D A cells slots Q (w) lv (x.handlerPc) ([.ref q])) : bh_V p l e R s m args below meth c nL D A cells slots Q w lv pc st E := by
  intro H locs ls q ce hP hD hS h hce hcv hcl
  obtain ⟨⟨hx1, hb, hml, hown, hts⟩, hK, hA, hr, hlk⟩ := C
  exact vx_catch hown pre x suf (htab.trans hsplit) (fun z hz => Or.inr ⟨(hpass z hz).1, (hpass z hz).2.choose, hts _ (hpass z hz).2.choose_spec.1, hE.2.2.1 _ (hpass z hz).2.choose_spec.2⟩) hx h0 (hts _ hlink) (xe_badU hcast (hE.2.1 _ hcast)) hce hcv hcl (kk q H locs ls hP hD hS h)
/-- a call of one that may throw, its world beside another: it returns, or the world is as before and the exception stands over this frame -/
theorem bh_wcalli (C : bh_C p s m args meth c cc nL Ts own D tys A ret) (hE : xe_E A s s.heap) {S : Type} {post : Int32 → S → Prop} {wf : S → va_W} {pc1 : String → Prop} {wc wr : va_W} {mc ms n index maxL : Nat} {y : MethodName} {bytes : ByteArray} {rt : Option FieldType} {ws : List Cond} {rm : Room} {b : Addr} {As : List Value} {Cn : String} {T : u_T} {N ci : Nat} {fs : List Value} (hM : bh_Xi l D tys y ws rm (.ref b :: As) wc post wf pc1 mc ms) (cw : CallW R s args own Cn index y bytes maxL rt ws rm mc ms n) (hcn : vwCl[ci]? = some (Cn, T, N)) (q0 : Nat) (hb0 : wc[q0]? = some (b, .inr (ci, fs))) (hn : As.length = n) (hst : st = As.reverse ++ .ref b :: rest) (hcat : (rest.map fun v => v.category).sum ≤ 8) (hdg : decode cc pc = .ok (.invokevirtual index, 3)) (hf : cells + mc ≤ R.cells ∧ slots + ms ≤ R.slots)
    (kx : ∀ E : String, pc1 E → bh_V p l e R s m args below meth c nL D A (cells + mc) (slots + ms) Q (wc ++ wr) lv pc rest E) (kk : ∀ (r : Int32) (u : S), post r u → bh_W p l e R s m args below meth c nL D A (cells + 0) (slots + 0) Q ((wf u ++ wr)) lv (pc + 3) (.int r :: rest)) : bh_W p l e R s m args below meth c nL D A cells slots Q ((wc ++ wr)) lv (pc) (st) := by
  intro H locs ls hP hD hS h
  have hC := C
  obtain ⟨S0, hK, hA, hr, hlk⟩ := C
  have hP2 := bh_Pperm List.perm_append_comm hP
  have hD2 := bh_Dperm List.perm_append_comm hD
  have hF := bh_free hD2 hS hA
  have hPc := (bh_Papp.mp hP2).2
  have hDc : va_D (fun _ => True) wc := ((bh_Dapp.mp hD2).2.1).weaken (fun _ _ _ _ => trivial)
  refine bz_calli (bz_runV (As := As) (rest := rest) S0 (hM H.size) cw ⟨bh_xblind, va_recv hK hPc hcn hb0, fun U hU hW => ⟨rfl, ⟨by rw [hU], by rw [hU]; exact hPc, va_K.moved hW.alike hK, hDc⟩, by rw [hU]; exact hE.to hW hS.2.1 hF⟩⟩ rfl hn h.1 hst (lv_room hcat) hdg hf) hS (fun q _ h => hF q h) hF (fun q _ h => hF q h) (fun E ce q9 u t H1 locs1 ht hvm hp hB hz1 hk1 hS1 hce hcv hcl => ?_) (fun r u t H1 locs1 ht hvm hp hB hz1 hk1 hS1 => ?_)
  · obtain ⟨hp1, hP1, hK1, hD1⟩ := hB
    rw [ht] at hP1
    obtain ⟨hP3, hD3⟩ := bh_join hP2 hD2 hk1 hF hP1 hD1
    exact kx E hp1 H1 locs1 ls q9 ce (bh_Pperm List.perm_append_comm hP3) (bh_Dperm List.perm_append_comm hD3) hS1 h hce hcv hcl
  · obtain ⟨hP1, hK1, hD1⟩ := hB
    rw [ht] at hP1
    obtain ⟨hP3, hD3⟩ := bh_join hP2 hD2 hk1 hF hP1 hD1
    exact kk r u hp H1 locs1 ls (bh_Pperm List.perm_append_comm hP3) (bh_Dperm List.perm_append_comm hD3) hS1 h
/-- a static call of a method with handlers -/
theorem bh_calli_W (C : bh_C p s m args meth c cc nL Ts own D tys A ret) (hE : xe_E A s s.heap) {S : Type} {post : Int32 → S → Prop} {wf : S → va_W} {wc wr : va_W} {mc ms n index maxL : Nat} {y : MethodName} {bytes : ByteArray} {rt : Option FieldType} {hh : List (Nat × Nat × Nat × Nat)} {ws : List Cond} {rm : Room} {As : List Value} (hM : bh_Wi l D tys y ws rm As wc post wf mc ms) (cw : vx_CSW R s args own index y bytes maxL rt hh ws rm mc ms n) (hn : As.length = n) (hst : st = As.reverse ++ rest) (hcat : (rest.map fun v => v.category).sum ≤ 8) (hdg : decode cc pc = .ok (.invokestatic index, 3)) (hf : cells + mc ≤ R.cells ∧ slots + ms ≤ R.slots)
    (kk : ∀ (r : Int32) (u : S), post r u → bh_W p l e R s m args below meth c nL D A (cells + mc) (slots + ms) Q ((wr ++ wf u)) lv (pc + 3) (.int r :: rest)) : bh_W p l e R s m args below meth c nL D A cells slots Q ((wr ++ wc)) lv (pc) (st) := by
  intro H locs ls hP hD hS h
  obtain ⟨S0, hK, hA, hr, hlk⟩ := C
  have hF := bh_free hD hS hA
  have hPc := (bh_Papp.mp hP).2
  have hDc : va_D (fun _ => True) wc := ((bh_Dapp.mp hD).2.1).weaken (fun _ _ _ _ => trivial)
  refine va_calli (vx_runSW (As := As) (rest := rest) S0 (hM H.size) cw ⟨bh_xblind, fun U hU hW => ⟨rfl, ⟨by rw [hU], by rw [hU]; exact hPc, va_K.moved hW.alike hK, hDc⟩, by rw [hU]; exact hE.to hW hS.2.1 hF⟩⟩ rfl hn h.1 hst (lv_room hcat) hdg hf) hS (fun q _ h => hF q h) hF (fun r u t H1 locs1 ht hvm hp hB hz1 hk1 hS1 => ?_)
  obtain ⟨hP1, hK1, hD1⟩ := hB
  rw [ht] at hP1
  obtain ⟨hP3, hD3⟩ := bh_join hP hD hk1 hF hP1 hD1
  exact kk r u hp H1 locs1 ls hP3 hD3 hS1 h
/-- a method without handlers, that needs what a catch needs -/
theorem bh_ofYi {S : Type} {y : MethodName} {ws ws' : List Cond} {rm : Room} {av : List Value} {w0 : va_W} {post : Int32 → S → Prop} {wf : S → va_W} {mc ms : Nat} {cc : ByteArray} {maxL : Nat} {ty : FieldType} (hy : plainName y.cls = true) (hw : ws = Cond.code y cc maxL (some ty) :: ws') (hn : (lg_sl av).length ≤ maxL)
    (body : ∀ (p : Program) (e : Env) (s : State) (m : MethodId) (args : Array Value) (below : List Frame) (meth : Method) (c : Code) (A : Nat → Prop) (Q : State → Prop), bh_C p s m args meth c cc maxL ws y.cls D tys A (some ty) → Q = MQ below (va_Qi post (fun u t => bh_B D tys A (wf u) t) A) args s mc ms A → xe_E A s s.heap → bh_W p l e rm s m args below meth c maxL D A 0 0 Q w0 (lv_args 0 av) 0 []) : bh_Wi l D tys y ws rm av w0 post wf mc ms := by
  intro sz
  refine Met.ofW (cc := cc) (maxL := maxL) (ret := some ty) hy hw ?_
  intro p e s m args below meth c s₁ B hml hv
  obtain ⟨rfl, ⟨hsz, hP, hK, hD0⟩, hE⟩ := hv
  subst hsz
  have hl := lv_entry av (n := maxL) hn
  rw [lg_entry_eq]
  exact body p e s m _ below meth c (va_A w0 s.heap.size) _ ⟨⟨B.exec, B.bytes, hml, findClass_of_methodNamed B.named, atoms_spec (ws := ws) B.pre⟩, hK, fun q h => Or.inr h, B.returns, B.notSynchronized⟩ rfl hE s.heap [] _ hP hD0.self va_S.rf hl
/-- a call of one that may throw, but not here; the world is the callee's -/
theorem bh_ycalli (C : bh_C p s m args meth c cc nL Ts own D tys A ret) (hE : xe_E A s s.heap) {S : Type} {post : Int32 → S → Prop} {wf : S → va_W} {pc1 : String → Prop} {mc ms n index maxL : Nat} {y : MethodName} {bytes : ByteArray} {rt : Option FieldType} {ws : List Cond} {rm : Room} {b : Addr} {As : List Value} {Cn : String} {T : u_T} {N ci : Nat} {fs : List Value} (hM : bh_Xi l D tys y ws rm (.ref b :: As) w post wf pc1 mc ms) (cw : CallW R s args own Cn index y bytes maxL rt ws rm mc ms n) (hcn : vwCl[ci]? = some (Cn, T, N)) (q0 : Nat) (hb0 : w[q0]? = some (b, .inr (ci, fs))) (hn : As.length = n) (hst : st = As.reverse ++ .ref b :: rest) (hcat : (rest.map fun v => v.category).sum ≤ 8) (hdg : decode cc pc = .ok (.invokevirtual index, 3)) (hf : cells + mc ≤ R.cells ∧ slots + ms ≤ R.slots)
    (hnx : ∀ E : String, ¬ pc1 E) (kk : ∀ (r : Int32) (u : S), post r u → bh_W p l e R s m args below meth c nL D A cells slots Q (wf u) lv (pc + 3) (.int r :: rest)) : bh_W p l e R s m args below meth c nL D A cells slots Q (w) lv (pc) (st) := by
  refine bh_eqw (List.append_nil w).symm ?_
  exact bh_wcalli (wr := []) C hE hM cw hcn q0 hb0 hn hst hcat hdg hf (fun E h9 => absurd h9 (hnx E)) (fun r u h9 => bh_eqw (List.append_nil (wf u)) (kk r u h9))
/-- the same where it may throw: the frame with the exception over it -/
theorem bh_zcalli (C : bh_C p s m args meth c cc nL Ts own D tys A ret) (hE : xe_E A s s.heap) {S : Type} {post : Int32 → S → Prop} {wf : S → va_W} {pc1 : String → Prop} {mc ms n index maxL : Nat} {y : MethodName} {bytes : ByteArray} {rt : Option FieldType} {ws : List Cond} {rm : Room} {b : Addr} {As : List Value} {Cn : String} {T : u_T} {N ci : Nat} {fs : List Value} (hM : bh_Xi l D tys y ws rm (.ref b :: As) w post wf pc1 mc ms) (cw : CallW R s args own Cn index y bytes maxL rt ws rm mc ms n) (hcn : vwCl[ci]? = some (Cn, T, N)) (q0 : Nat) (hb0 : w[q0]? = some (b, .inr (ci, fs))) (hn : As.length = n) (hst : st = As.reverse ++ .ref b :: rest) (hcat : (rest.map fun v => v.category).sum ≤ 8) (hdg : decode cc pc = .ok (.invokevirtual index, 3)) (hf : cells + mc ≤ R.cells ∧ slots + ms ≤ R.slots)
    (kx : ∀ E : String, pc1 E → bh_V p l e R s m args below meth c nL D A (cells + mc) (slots + ms) Q w lv pc rest E) (kk : ∀ (r : Int32) (u : S), post r u → bh_W p l e R s m args below meth c nL D A cells slots Q (wf u) lv (pc + 3) (.int r :: rest)) : bh_W p l e R s m args below meth c nL D A cells slots Q (w) lv (pc) (st) := by
  refine bh_eqw (List.append_nil w).symm ?_
  exact bh_wcalli (wr := []) C hE hM cw hcn q0 hb0 hn hst hcat hdg hf (fun E h9 => (List.append_nil w).symm ▸ kx E h9) (fun r u h9 => bh_eqw (List.append_nil (wf u)) (kk r u h9))
/-- a static call, the world is the callee's -/
theorem bh_calli_Y (C : bh_C p s m args meth c cc nL Ts own D tys A ret) (hE : xe_E A s s.heap) {S : Type} {post : Int32 → S → Prop} {wf : S → va_W} {mc ms n index maxL : Nat} {y : MethodName} {bytes : ByteArray} {rt : Option FieldType} {ws : List Cond} {rm : Room} {As : List Value} (hM : bh_Wi l D tys y ws rm As w post wf mc ms) (cw : CallB R s args own index y bytes maxL rt ws rm mc ms n ∧ (Cond.static y).before args s = true) (hn : As.length = n) (hst : st = As.reverse ++ rest) (hcat : (rest.map fun v => v.category).sum ≤ 8) (hdg : decode cc pc = .ok (.invokestatic index, 3)) (hf : cells + mc ≤ R.cells ∧ slots + ms ≤ R.slots) (kk : ∀ (r : Int32) (u : S), post r u → bh_W p l e R s m args below meth c nL D A (cells + mc) (slots + ms) Q (wf u) lv (pc + 3) (.int r :: rest)) : bh_W p l e R s m args below meth c nL D A cells slots Q (w) lv (pc) (st) := by
  intro H locs ls hP hD hS h
  obtain ⟨S0, hK, hA, hr, hlk⟩ := C
  have hD2 : va_D A (([] : va_W) ++ w) := hD
  have hF := bh_free hD2 hS hA
  have hDc : va_D (fun _ => True) w := hD.weaken (fun _ _ _ _ => trivial)
  refine va_calli (va_runS (As := As) (rest := rest) S0 (hM H.size) cw ⟨bh_xblind, fun U hU hW => ⟨rfl, ⟨by rw [hU], by rw [hU]; exact hP, va_K.moved hW.alike hK, hDc⟩, by rw [hU]; exact hE.to hW hS.2.1 hF⟩⟩ rfl hn h.1 hst (lv_room hcat) hdg hf) hS (fun q _ h => hF q h) hF (fun r u t H1 locs1 ht hvm hp hB hz1 hk1 hS1 => ?_)
  obtain ⟨hP1, hK1, hD1⟩ := hB
  rw [ht] at hP1
  have hP0 : va_P D vwCl (([] : va_W) ++ w) H := hP
  obtain ⟨hP3, hD3⟩ := bh_join hP0 hD2 hk1 hF hP1 hD1
  exact kk r u hp H1 locs1 ls hP3 hD3 hS1 h
/-- a static call, the world is the callee's -/
theorem bh_calli_Z (C : bh_C p s m args meth c cc nL Ts own D tys A ret) (hE : xe_E A s s.heap) {S : Type} {post : Int32 → S → Prop} {wf : S → va_W} {mc ms n index maxL : Nat} {y : MethodName} {bytes : ByteArray} {rt : Option FieldType} {hh : List (Nat × Nat × Nat × Nat)} {ws : List Cond} {rm : Room} {As : List Value} (hM : bh_Wi l D tys y ws rm As w post wf mc ms) (cw : vx_CSW R s args own index y bytes maxL rt hh ws rm mc ms n) (hn : As.length = n) (hst : st = As.reverse ++ rest) (hcat : (rest.map fun v => v.category).sum ≤ 8) (hdg : decode cc pc = .ok (.invokestatic index, 3)) (hf : cells + mc ≤ R.cells ∧ slots + ms ≤ R.slots) (kk : ∀ (r : Int32) (u : S), post r u → bh_W p l e R s m args below meth c nL D A (cells + mc) (slots + ms) Q (wf u) lv (pc + 3) (.int r :: rest)) : bh_W p l e R s m args below meth c nL D A cells slots Q (w) lv (pc) (st) := by
  intro H locs ls hP hD hS h
  obtain ⟨S0, hK, hA, hr, hlk⟩ := C
  have hD2 : va_D A (([] : va_W) ++ w) := hD
  have hF := bh_free hD2 hS hA
  have hDc : va_D (fun _ => True) w := hD.weaken (fun _ _ _ _ => trivial)
  refine va_calli (vx_runSW (As := As) (rest := rest) S0 (hM H.size) cw ⟨bh_xblind, fun U hU hW => ⟨rfl, ⟨by rw [hU], by rw [hU]; exact hP, va_K.moved hW.alike hK, hDc⟩, by rw [hU]; exact hE.to hW hS.2.1 hF⟩⟩ rfl hn h.1 hst (lv_room hcat) hdg hf) hS (fun q _ h => hF q h) hF (fun r u t H1 locs1 ht hvm hp hB hz1 hk1 hS1 => ?_)
  obtain ⟨hP1, hK1, hD1⟩ := hB
  rw [ht] at hP1
  have hP0 : va_P D vwCl (([] : va_W) ++ w) H := hP
  obtain ⟨hP3, hD3⟩ := bh_join hP0 hD2 hk1 hF hP1 hD1
  exact kk r u hp H1 locs1 ls hP3 hD3 hS1 h
theorem bh_ishr (C : bh_C p s m args meth c cc nL Ts own D tys A ret) {x y : Int32} (hdg : decode cc pc = .ok (.ishr, 1)) (kk : bh_W p l e R s m args below meth c nL D A cells slots Q (w) lv (pc + 1) (.int (x >>> (y &&& 31)) :: st)) : bh_W p l e R s m args below meth c nL D A cells slots Q (w) lv (pc) (.int y :: .int x :: st) := by
  intro H locs ls hP hD hS h
  obtain ⟨⟨hx, hb, hml, hown, hts⟩, hK, hA, hr, hlk⟩ := C
  exact lv_ishr hx hb hdg (kk H locs ls hP hD hS h)
theorem bh_ldc (C : bh_C p s m args meth c cc nL Ts own D tys A ret) {index : Nat} {v : Int32} (hcon : Cond.constant own index v ∈ Ts) (hdg : decode cc pc = .ok (.ldc index, 2)) (kk : bh_W p l e R s m args below meth c nL D A cells slots Q (w) lv (pc + 2) (.int v :: st)) : bh_W p l e R s m args below meth c nL D A cells slots Q (w) lv (pc) (st) := by
  intro H locs ls hP hD hS h
  obtain ⟨⟨hx, hb, hml, hown, hts⟩, hK, hA, hr, hlk⟩ := C
  exact lv_ldc hx hb hown (hts _ hcon) hdg (kk H locs ls hP hD hS h)
/-- a method that reads the script, and needs no world -/
def bh_Si (l : Launch) (D : va_G) (tys : List (ClassId × FieldType)) (y : MethodName) (ws : List Cond) (rm : Room) (av : List Value) (b L : Nat) (xs : Nat → Int32) (post : Int32 → Unit → Prop) : Prop :=
  ∀ sz : Nat, Met l y ws rm (va_Pc av (fun U => bh_P0 D tys [] sz U ∧ va_X b L xs U U.heap ∧ b < sz)) (va_Qi post (fun _ t => bh_B D tys (va_A [] sz) [] t) (va_A [] sz)) 0 0 (va_A [] sz)
theorem bh_sblind {b L sz : Nat} {xs : Nat → Int32} {av : List Value} : FrameBlind (va_Pc av (fun U => bh_P0 D tys [] sz U ∧ va_X b L xs U U.heap ∧ b < sz)) := fun a U g mk q => by
  obtain ⟨q0, ⟨q1, qP, qK, qD⟩, qX, qb⟩ := q
  exact ⟨q0, ⟨q1, qP, va_K.moved (u := U) (U := U.calling g mk a) (Vm.Alike.refl U.vm) qK, qD⟩, va_X.moved (u := U) (U := U.calling g mk a) (Vm.Alike.refl U.vm) qX, qb⟩
theorem bh_no (sz b : Nat) (h : b < sz) : ¬ va_A [] sz b := fun q => q.elim (fun z => by obtain ⟨k, z, h9⟩ := z; exact absurd h9 (by simp)) (fun z => absurd h (Nat.not_lt.mpr z))
theorem bh_ofSi {y : MethodName} {ws ws' : List Cond} {rm : Room} {av : List Value} {b L : Nat} {xs : Nat → Int32} {post : Int32 → Unit → Prop} {cc : ByteArray} {maxL : Nat} {ty : FieldType} (hy : plainName y.cls = true) (hw : ws = Cond.code y cc maxL (some ty) :: ws') (hn : (lg_sl av).length ≤ maxL)
    (body : ∀ (p : Program) (e : Env) (s : State) (m : MethodId) (args : Array Value) (below : List Frame) (meth : Method) (c : Code) (A : Nat → Prop) (Q : State → Prop), bh_C p s m args meth c cc maxL ws y.cls D tys A (some ty) → Q = MQ below (va_Qi post (fun _ t => bh_B D tys A [] t) A) args s 0 0 A → va_X b L xs s s.heap → b < s.heap.size → ¬ A b → bh_W p l e rm s m args below meth c maxL D A 0 0 Q [] (lv_args 0 av) 0 []) : bh_Si l D tys y ws rm av b L xs post := by
  intro sz
  refine Met.ofW (cc := cc) (maxL := maxL) (ret := some ty) hy hw ?_
  intro p e s m args below meth c s₁ B hml hv
  obtain ⟨rfl, ⟨hsz, hP, hK, hD0⟩, hX, hbz⟩ := hv
  subst hsz
  have hl := lv_entry av (n := maxL) hn
  rw [lg_entry_eq]
  exact body p e s m _ below meth c (va_A [] s.heap.size) _ ⟨⟨B.exec, B.bytes, hml, findClass_of_methodNamed B.named, atoms_spec (ws := ws) B.pre⟩, hK, fun q h => Or.inr h, B.returns, B.notSynchronized⟩ rfl hX hbz (bh_no _ _ hbz) s.heap [] _ hP hD0.self va_S.rf hl
theorem bh_calli_C (C : bh_C p s m args meth c cc nL Ts own D tys A ret) {b L : Nat} {xs : Nat → Int32} (hX : va_X b L xs s s.heap) (hbl : b < s.heap.size) (hbA : ¬ A b) {post : Int32 → Unit → Prop} {n index maxL : Nat} {y : MethodName} {bytes : ByteArray} {rt : Option FieldType} {ws : List Cond} {rm : Room} {As : List Value} (hM : bh_Si l D tys y ws rm As b L xs post) (cw : CallB R s args own index y bytes maxL rt ws rm 0 0 n ∧ (Cond.static y).before args s = true) (hn : As.length = n) (hst : st = As.reverse ++ rest) (hcat : (rest.map fun v => v.category).sum ≤ 8) (hdg : decode cc pc = .ok (.invokestatic index, 3)) (hf : cells + 0 ≤ R.cells ∧ slots + 0 ≤ R.slots) (kk : ∀ (r : Int32), post r () → bh_W p l e R s m args below meth c nL D A (cells + 0) (slots + 0) Q (w) lv (pc + 3) (.int r :: rest)) : bh_W p l e R s m args below meth c nL D A cells slots Q (w) lv (pc) (st) := by
  intro H locs ls hP hD hS h
  obtain ⟨S0, hK, hA, hr, hlk⟩ := C
  have hD2 : va_D A (w ++ []) := (List.append_nil w).symm ▸ hD
  have hF := bh_free hD2 hS hA
  have hXH : H[b]? = s.heap[b]? := hS.2.1 b hbl hbA
  have hP9 : va_P D vwCl [] H := fun k q h9 => absurd h9 (by simp)
  have hD9 : va_D (fun _ => True) [] := ⟨fun i j p9 q h9 => absurd h9 (by simp), fun k q h9 => absurd h9 (by simp)⟩
  refine va_calli (va_runS (As := As) (rest := rest) S0 (hM H.size) cw ⟨bh_sblind, fun U hU hW => ⟨rfl, ⟨by rw [hU], by rw [hU]; exact hP9, va_K.moved hW.alike hK, hD9⟩, by rw [hU]; exact (hX.kept hXH).moved hW.alike, Nat.lt_of_lt_of_le hbl hS.1⟩⟩ rfl hn h.1 hst (lv_room hcat) hdg hf) hS (fun q _ h => hF q h) hF (fun r u t H1 locs1 ht hvm hp hB hz1 hk1 hS1 => ?_)
  obtain ⟨hP1, hK1, hD1⟩ := hB
  rw [ht] at hP1
  have hP0 : va_P D vwCl (w ++ []) H := (List.append_nil w).symm ▸ hP
  obtain ⟨hP3, hD3⟩ := bh_join hP0 hD2 hk1 hF hP1 hD1
  exact kk r hp H1 locs1 ls ((List.append_nil w) ▸ hP3) ((List.append_nil w) ▸ hD3) hS1 h
theorem no_px {c : Int32} (h : c = 0) {E1 E2 E : String} (h9 : mo_px E1 E2 c E) : False := by
  rcases h9 with z | z
  · exact absurd (h.symm.trans z.2) (by decide)
  · exact absurd (h.symm.trans z.2) (by decide)
end BHW
end
section
section BHS
variable {p : Program} {l : Launch} {e : Env} {R : Room} {s : State} {m : MethodId} {args : Array Value} {below : List Frame} {meth : Method} {c : Code} {H : Heap} {locs : List Loc} {cells slots : Nat} {Q : State → Prop}
variable {y : MethodName} {bytes cc : ByteArray} {maxL nL mc ms n index : Nat} {rt ret : Option FieldType} {ws : List Cond} {rm : Room} {Pc : Array Value → State → Prop} {Qc : Array Value → State → Outcome → State → Prop} {XC : String → State → State → Prop} {free : Addr → Prop} {Ts : List Cond} {own : String} {As rest : List Value} {g : JFrame}
variable {D : va_G} {tys : List (ClassId × FieldType)} {A : Nat → Prop} {w : va_W} {lv : List (Nat × Value)} {pc : Nat} {st : List Value}
/-- bz_runV for a static method -/
theorem bz_runS (S : CallFix p m c cc nL s args Ts own) (hM : bz_Met l y ws rm Pc Qc XC mc ms free) (cw : CallB R s args own index y bytes maxL rt ws rm mc ms n ∧ (Cond.static y).before args s = true) (hp : PreS s H Pc As)
    (hg : g.method = m) (hn : As.length = n) (hsize : g.locals.size = nL) (hstack : g.stack = As.reverse ++ rest) (hW : 2 * g.monitorRoom + (rest.map fun v => v.category).sum ≤ 8) (hdg : decode cc g.pc = .ok (.invokestatic index, 3)) (hf : cells + mc ≤ R.cells ∧ slots + ms ≤ R.slots) :
    bz_Run p l e R s m args below meth c H locs cells slots mc ms g rest (Qc As.toArray) XC free := by
  have hK : vx_Back l R p e below s args y 3 8 (PreOf R mc ms Pc) (PostOf Qc 0 0 free) (vx_Post XC mc ms free) := bz_callBack cw.1 hM hp.1
  obtain ⟨⟨-, -, -, -, -, -, hcode, hini, hy, hlen, hl⟩, hst⟩ := cw
  obtain ⟨hx, hb, hml, ho, -⟩ := S
  obtain ⟨-, hPc⟩ := hp
  intro T hT X
  rcases vx_callS X hx (bytes := bytes) (maxL := maxL) (ret := rt) ho hl hst hini hcode hy hK hg (hsize.trans hml.symm) (argsL := As) (rest := rest) (fun sig h => hn.trans (hlen sig h)) hstack hW (by rw [hb]; exact hdg)
    (fun vm₁ hW₁ => ⟨hf.1, hf.2, hPc (T.setVm vm₁) hT hW₁⟩) with ⟨v, vm₁, ⟨U', l2, c2, s2⟩, hW₁, X', ⟨g', mk, t, L, e1, e2, hq, h1, hL, h2, h3⟩, st⟩ | ⟨q, vm₁, ⟨U', l2, c2, s2⟩, hW₁, X', ⟨g', mk, t, L, E, ce, e1, e2, hq, hce, hcv, hcl, h1, hL, h2, h3⟩, st⟩
  · dsimp only [Pt.U, Pt.locs, Pt.cells, Pt.slots] at X' e1 e2 h1 h2 h3 st
    subst h1; subst h2; subst h3
    exact Or.inl ⟨v, (T.setVm vm₁).calling g' mk As.toArray, t, U', L, hT, X', hL, e1, e2, hq, st⟩
  · dsimp only [Pt.U, Pt.locs, Pt.cells, Pt.slots] at X' e1 e2 h1 h2 h3 st hcl
    subst h1; subst h2; subst h3
    exact Or.inr ⟨q, (T.setVm vm₁).calling g' mk As.toArray, t, U', L, E, ce, hT, X', hL, e1, e2, hq, hce, hcv, vx_cls hW₁ hcl, st⟩
/-- a static call of one that never throws, counted as what it makes where it returns: nothing -/
theorem bh_calli_X (C : bh_C p s m args meth c cc nL Ts own D tys A ret) (hE : xe_E A s s.heap) {S : Type} {post : Int32 → S → Prop} {wf : S → va_W} {pc1 : String → Prop} (hM : bh_Xi l D tys y ws rm As w post wf pc1 mc ms) (cw : CallB R s args own index y bytes maxL rt ws rm mc ms n ∧ (Cond.static y).before args s = true) (hn : As.length = n) (hst : st = As.reverse ++ rest) (hcat : (rest.map fun v => v.category).sum ≤ 8) (hdg : decode cc pc = .ok (.invokestatic index, 3)) (hf : cells + mc ≤ R.cells ∧ slots + ms ≤ R.slots) (hnx : ∀ E : String, ¬ pc1 E)
    (kk : ∀ (r : Int32) (u : S), post r u → bh_W p l e R s m args below meth c nL D A cells slots Q (wf u) lv (pc + 3) (.int r :: rest)) : bh_W p l e R s m args below meth c nL D A cells slots Q w lv pc st := by
  intro H locs ls hP hD hS h
  obtain ⟨S0, hK, hA, hr, hlk⟩ := C
  have hD2 : va_D A (([] : va_W) ++ w) := hD
  have hF := bh_free hD2 hS hA
  have hDc : va_D (fun _ => True) w := hD.weaken (fun _ _ _ _ => trivial)
  refine bz_calli (bz_runS (As := As) (rest := rest) S0 (hM H.size) cw ⟨bh_xblind, fun U hU hW => ⟨rfl, ⟨by rw [hU], by rw [hU]; exact hP, va_K.moved hW.alike hK, hDc⟩, by rw [hU]; exact hE.to hW hS.2.1 hF⟩⟩ rfl hn h.1 hst (lv_room hcat) hdg hf) hS (fun q _ h => hF q h) hF (fun q _ h => hF q h) (fun E ce q9 u t H1 locs1 ht hvm hp hB hz1 hk1 hS1 hce hcv hcl => absurd hB.1 (hnx E)) (fun r u t H1 locs1 ht hvm hp hB hz1 hk1 hS1 => ?_)
  obtain ⟨hP1, hK1, hD1⟩ := hB
  rw [ht] at hP1
  have hP0 : va_P D vwCl (([] : va_W) ++ w) H := hP
  obtain ⟨hP3, hD3⟩ := bh_join hP0 hD2 hk1 hF hP1 hD1
  exact kk r u hp H1 locs1 ls hP3 hD3 hS1 h
end BHS
end
section
/-- the law's number from 0 to n - 1 -/
def lo_low (x n : Int32) : Int32 := (x &&& 2147483647) - (x &&& 2147483647) / n * n
theorem lo_divI {a b : Nat} (ha : a < 2 ^ 31) (hb : b < 2 ^ 31) : nI a / nI b = nI (a / b) := by
  have hab : a / b < 2 ^ 31 := Nat.lt_of_le_of_lt (Nat.div_le_self _ _) ha
  apply Int32.toInt_inj.mp
  rw [Int32.toInt_div, nI_toInt ha, nI_toInt hb, nI_toInt hab]
  have hz : (0 : Int) ≤ (a : Int) / (b : Int) := Int.ediv_nonneg (by omega) (by omega)
  have e : (a : Int).tdiv (b : Int) = ((a / b : Nat) : Int) := by
    rw [Int.tdiv_eq_ediv_of_nonneg (by omega)]; rfl
  rw [e, Int.bmod_eq_of_le (by omega) (by omega)]
theorem lo_low_in (x : Int32) {n : Nat} (h0 : 0 < n) (hn : n < 2 ^ 31) : ∃ j, j < n ∧ lo_low x (nI n) = nI j := by
  obtain ⟨a, ha, ea⟩ := pk_andE x (m := 2147483647) 31 (by decide +kernel)
  have hq : a / n * n ≤ a := Nat.div_mul_le_self a n
  refine ⟨a % n, Nat.mod_lt _ h0, ?_⟩
  unfold lo_low
  rw [ea, lo_divI ha hn, show nI (a / n) * nI n = nI (a / n * n) from (Int32.ofNat_mul _ _).symm]
  have e : a = a / n * n + a % n := by
    have := Nat.div_add_mod a n
    rw [Nat.mul_comm] at this
    exact this.symm
  obtain ⟨u, hu⟩ : ∃ u, u = a / n * n := ⟨_, rfl⟩
  obtain ⟨v, hv⟩ : ∃ v, v = a % n := ⟨_, rfl⟩
  rw [← hu, ← hv] at e
  rw [← hu, ← hv, e, ← nI_add, Int32.add_comm, Int32.add_sub_cancel]
theorem lo_low_ne {n : Nat} (h0 : 0 < n) (hn : n < 2 ^ 31) : ¬ nI n = 0 := nI_ne0 h0 hn
set_option maxRecDepth 100000 in
set_option maxHeartbeats 4000000 in
theorem ct_L_low (l : Launch) (D : va_G) (cI cZ cL : ClassId) (x n : Int32) (hn : ¬ n = 0) : bh_Mi l D (wh_tys cI cZ cL) yL_low wsL_low ({ frames := 0, cells := 0, slots := 0, locals := 0 } : Room) [.int x, .int n] [] (fun r (_ : Unit) => r = lo_low x n) (fun _ => []) 0 0 := by
  refine bh_ofi (cc := cL_low) (maxL := 2) (by decide +kernel) rfl (Nat.le_of_ble_eq_true rfl) ?_
  intro p e s m args below meth c A Q _ C hQ
  refine bh_eqlv (lv' := [(0, .int x), (1, .int n)]) rfl ?_
  refine bh_iload_n C dL_low_0 rfl 0 rfl ?_
  refine bh_ldc (v := 2147483647) C (by decide +kernel) dL_low_1 ?_
  refine bh_iand C dL_low_3 ?_
  refine bh_iload_n C dL_low_4 rfl 1 rfl ?_
  refine bh_irem C dL_low_5 hn ?_
  exact bh_zret C hQ dL_low_6 () (v := lo_low x n) (w := []) rfl rfl (Nat.le_of_ble_eq_true rfl) (Nat.le_of_ble_eq_true rfl) rfl
set_option maxRecDepth 100000 in
set_option maxHeartbeats 4000000 in
theorem ct_L_cell (l : Launch) (D : va_G) (cI cZ cL : ClassId) {b L : Nat} {xs : Nat → Int32} (hL : L ≤ 260) (k : Nat) (hk : k < 1000) : bh_Si l D (wh_tys cI cZ cL) yL_cell wsL_cell ({ frames := 0, cells := 0, slots := 0, locals := 0 } : Room) [.ref b, .int (nI k)] b L xs (fun _ _ => True) := by
  refine bh_ofSi (cc := cL_cell) (maxL := 2) (by decide +kernel) rfl (Nat.le_of_ble_eq_true rfl) ?_
  intro p e s m args below meth c A Q C hQ hX hbl hbA
  refine bh_eqlv (lv' := [(0, .ref b), (1, .int (nI k))]) rfl ?_
  refine bh_iload_n C dL_cell_0 rfl 1 rfl ?_
  refine bh_aload_n C dL_cell_1 rfl 0 rfl ?_
  refine bh_slen C hX hbl hbA dL_cell_2 ?_
  refine bh_icmp_ge (tgt := 12) C dL_cell_3 (by decide) (fun _ => ?_) (fun c3 => ?_)
  · refine bh_ldc (v := 40503) C (by decide +kernel) dL_cell_12 ?_
    refine bh_iload_n C dL_cell_14 rfl 1 rfl ?_
    refine bh_imul C dL_cell_15 ?_
    refine bh_sipush (v := 977) C dL_cell_16 (by decide) ?_
    refine bh_iadd C dL_cell_19 ?_
    exact bh_zret C hQ dL_cell_20 () (wf := fun _ => []) (w := []) rfl rfl (Nat.le_of_ble_eq_true rfl) (Nat.le_of_ble_eq_true rfl) trivial
  · refine bh_aload_n C dL_cell_6 rfl 0 rfl ?_
    refine bh_iload_n C dL_cell_7 rfl 1 rfl ?_
    refine bh_sld C hX hbl hbA (vp_in_nI (n := k) (bh_nle2 (by omega) (by omega) c3) (by omega)) rfl dL_cell_8 ?_
    refine bh_goto (tgt := 20) C dL_cell_9 (by decide) ?_
    exact bh_zret C hQ dL_cell_20 () (wf := fun _ => []) (w := []) rfl rfl (Nat.le_of_ble_eq_true rfl) (Nat.le_of_ble_eq_true rfl) trivial
section
variable {K T : Nat} {M : MT}
theorem co_add_n1 {x : Int32} (h1 : ¬ x < 1) (h2 : x ≤ 1000) : co_add M x ≠ 1 := by
  unfold co_add
  rw [if_neg (fun z => z.elim h1 (fun q => absurd h2 (Int32.not_le.mpr q)))]
  split <;> decide
theorem co_add_2 {x : Int32} (h : co_add M x = 2) : ¬ mq_fc M < 10 := by
  unfold co_add at h
  split at h
  · exact absurd h (by decide)
  · split at h
    · omega
    · exact absurd h (by decide)
theorem co_take_n1 {x r : Int32} (h1 : vp_in x (mq_fc M)) (h2 : vp_in r 40) : co_take M x r ≠ 1 := by
  unfold co_take
  rw [if_pos ⟨mo_in_t h1, mo_in_t h2⟩]
  split <;> decide
theorem co_deci_n1 {b : Int32} (h1 : vp_in b (mq_bc M)) : co_deci M b ≠ 1 := by
  unfold co_deci
  rw [if_pos (mo_in_t h1)]
  split <;> decide
theorem co_send_n1 {b x : Int32} (h1 : vp_in b (mq_bc M)) (h2 : vp_in x (mq_fc M)) : co_send M b x ≠ 1 := by
  unfold co_send
  rw [if_pos ⟨mo_in_t h1, mo_in_t h2⟩]
  split <;> decide
/-- a decision is a move -/
theorem dec_go {k : Nat} (h3 : mq_pl M k = 1 ∨ mq_pl M k = 2 ∨ mq_pl M k = 3) (z : Int32) : ∃ p, mo_dec M k z = mo_bring M k p ∧ GO M k p ∧ (z = 0 → p = mq_pl M k + 1) ∧ (z ≠ 0 → p = 5 ∨ p = 6 ∨ p = 7 ∨ p = 11) := by
  by_cases hz : z = 0
  · refine ⟨mo_nx (mq_pl M k), if_pos hz, ?_, fun _ => ?_, fun h => absurd hz h⟩
    · rcases h3 with q | q | q <;> rw [q] <;> exact GO_lit (by decide +kernel)
    · rcases h3 with q | q | q <;> rw [q] <;> decide +kernel
  · refine ⟨mo_way M (mq_bf M k), (if_neg hz).trans (mo_route_b ?_), GO_way M k, fun h => absurd h hz, fun _ => ?_⟩
    · rcases h3 with q | q | q <;> rw [q] <;> decide
    · rcases mo_way_or M (mq_bf M k) with q | q | q | q
      · exact Or.inr (Or.inr (Or.inr q))
      · exact Or.inr (Or.inr (Or.inl q))
      · exact Or.inl q
      · exact Or.inr (Or.inl q)
theorem send_go {k : Nat} (h3 : mq_pl M k = 10 ∨ mq_pl M k = 11) (x : Int32) : mo_route (mo_snd M k x) k = mo_bring (mo_snd M k x) k (mo_way (mo_snd M k x) (mq_bf (mo_snd M k x) k)) := by
  refine mo_route_b ?_
  show mq_pl M k ≠ 6
  rcases h3 with q | q <;> rw [q] <;> decide
theorem come_go (hI : MI K T M) (x r : Int32) : mo_route (mo_take M x r) (mq_bc M) = mo_bring (mo_take M x r) (mq_bc M) (mo_way (mo_take M x r) (mq_bf (mo_take M x r) (mq_bc M))) := by
  refine mo_route_b ?_
  rw [pl_take hI, (MI_beyond hI (Nat.le_refl _)).1]
  decide
end
set_option maxRecDepth 100000 in
set_option maxHeartbeats 4000000 in
theorem ct_L_addFlight (l : Launch) (hl : l.stackTraces = false) (D : va_G) (cI cZ cL : ClassId) (ad : Nat → Nat) {K T : Nat} (M : MT) (x : Int32) (hI : MI K T M) (hx1 : ¬ x < 1) (hx2 : x ≤ 1000) : bh_Wi l D (wh_tys cI cZ cL) yL_addFlight wsL_addFlight ({ frames := 7, cells := 1, slots := 6, locals := 113 } : Room) [.ref (ad 0), .int x] (wh_hall cI cZ ad M) (fun (r : Int32) (u : MT) => (r = nI (mq_fc M) ∧ co_add M x = 0 ∧ u = mo_add M x) ∨ (r = -3 ∧ ¬ mq_fc M < 10 ∧ u = M)) (fun u => wh_hall cI cZ ad u) 1 6 := by
  refine bh_ofWi (cc := cL_addFlight) (maxL := 3) (by decide +kernel) rfl (Nat.le_of_ble_eq_true rfl) ?_
  intro p e s m args below meth c A Q C hQ hE htab
  refine bh_eqlv (lv' := [(0, .ref (ad 0)), (1, .int x)]) rfl ?_
  refine bh_aload_n C dL_addFlight_0 rfl 0 rfl ?_
  refine bh_iload_n C dL_addFlight_1 rfl 1 rfl ?_
  refine bh_zcalli (As := [.int x]) C hE (ct_X0_addFlight l hl D cI cZ cL ad M x hI) (cwV 1 C.1.2.2.2.2 gL_addFlight_X0_addFlight rfl rfl rfl (by decide +kernel) ⟨Nat.le_of_ble_eq_true rfl, Nat.le_of_ble_eq_true rfl⟩) (ci := 0) rfl 0 rfl rfl rfl (Nat.le_of_ble_eq_true rfl) dL_addFlight_2 ⟨Nat.le_of_ble_eq_true rfl, Nat.le_of_ble_eq_true rfl⟩ (fun E hp => ?_) (fun r u hp => ?_)
  · rcases hp with ⟨rfl, hco⟩ | ⟨rfl, hco⟩
    · exact absurd hco (co_add_n1 hx1 hx2)
    · refine bh_catch C hE htab (E := xe_S) (name := xe_S) [] ⟨0, 5, 6, 15⟩ [] rfl (fun z hz => absurd hz List.not_mem_nil) (by decide) (by decide) (by decide +kernel) (by decide) (fun q9 => ?_)
      refine bh_astore_n (lv' := [(2, .ref q9), (0, .ref (ad 0)), (1, .int x)]) C dL_addFlight_6 rfl (by decide) rfl ?_
      refine bh_bipush (v := (-3)) C dL_addFlight_7 (by decide) ?_
      exact bh_zret C hQ dL_addFlight_9 M (v := (-3)) (w := wh_hall cI cZ ad M) rfl rfl (Nat.le_of_ble_eq_true rfl) (Nat.le_of_ble_eq_true rfl) (Or.inr ⟨rfl, co_add_2 hco, rfl⟩)
  · skip
    obtain ⟨hco, rfl⟩ := hp
    exact bh_zret C hQ dL_addFlight_5 (mo_add M x) (v := (nI (mq_fc M))) (w := wh_hall cI cZ ad (mo_add M x)) rfl rfl (Nat.le_of_ble_eq_true rfl) (Nat.le_of_ble_eq_true rfl) (Or.inl ⟨rfl, hco, rfl⟩)
set_option maxRecDepth 100000 in
set_option maxHeartbeats 4000000 in
theorem ct_L_comes (l : Launch) (hl : l.stackTraces = false) (D : va_G) (cI cZ cL : ClassId) (ad : Nat → Nat) {K T : Nat} (M : MT) (x r0 z : Int32) (hI : MI K T M) (hK4 : K + 4 ≤ 2048) (hx : vp_in x (mq_fc M)) (hr : vp_in r0 40) : bh_Wi l D (wh_tys cI cZ cL) yL_comes wsL_comes ({ frames := 9, cells := 1, slots := 6, locals := 157 } : Room) [.ref (ad 0), .int x, .int r0, .int z] (wh_hall cI cZ ad M) (fun (r : Int32) (u : MT) => (r = nI (mq_bc M) ∧ mq_bc M < 48 ∧ ∃ p, u = mo_bring (mo_take M x r0) (mq_bc M) p ∧ GO (mo_take M x r0) (mq_bc M) p ∧ (z = 0 → p = 1)) ∨ (r = -3 ∧ u = M)) (fun u => wh_hall cI cZ ad u) 1 6 := by
  refine bh_ofWi (cc := cL_comes) (maxL := 5) (by decide +kernel) rfl (Nat.le_of_ble_eq_true rfl) ?_
  intro p e s m args below meth c A Q C hQ hE htab
  refine bh_eqlv (lv' := [(0, .ref (ad 0)), (1, .int x), (2, .int r0), (3, .int z)]) rfl ?_
  refine bh_iload_n C dL_comes_0 rfl 3 rfl ?_
  refine bh_if_eq (tgt := 13) C dL_comes_1 (by decide) (fun cz => ?_) (fun cz => ?_)
  · skip
    refine bh_aload_n C dL_comes_13 rfl 0 rfl ?_
    refine bh_iload_n C dL_comes_14 rfl 1 rfl ?_
    refine bh_iload_n C dL_comes_15 rfl 2 rfl ?_
    refine bh_zcalli (As := [.int x, .int r0]) C hE (ct_X0_checkIn l hl D cI cZ cL ad M x r0 hI hK4) (cwV 2 C.1.2.2.2.2 gL_comes_X0_checkIn rfl rfl rfl (by decide +kernel) ⟨Nat.le_of_ble_eq_true rfl, Nat.le_of_ble_eq_true rfl⟩) (ci := 0) rfl 0 rfl rfl rfl (Nat.le_of_ble_eq_true rfl) dL_comes_16 ⟨Nat.le_of_ble_eq_true rfl, Nat.le_of_ble_eq_true rfl⟩ (fun E hp => ?_) (fun r u hp => ?_)
    · rcases hp with ⟨rfl, hco⟩ | ⟨rfl, hco⟩
      · exact absurd hco (co_take_n1 hx hr)
      · refine bh_catch C hE htab (E := xe_S) (name := xe_S) [] ⟨0, 19, 20, 15⟩ [] rfl (fun z hz => absurd hz List.not_mem_nil) (by decide) (by decide) (by decide +kernel) (by decide) (fun q9 => ?_)
        refine bh_astore (lv' := [(4, .ref q9), (0, .ref (ad 0)), (1, .int x), (2, .int r0), (3, .int z)]) C dL_comes_20 (by decide) rfl ?_
        refine bh_bipush (v := (-3)) C dL_comes_22 (by decide) ?_
        exact bh_zret C hQ dL_comes_24 M (v := (-3)) (w := wh_hall cI cZ ad M) rfl rfl (Nat.le_of_ble_eq_true rfl) (Nat.le_of_ble_eq_true rfl) (Or.inr ⟨rfl, rfl⟩)
    · skip
      obtain ⟨hco, -, -, hb48, rfl⟩ := hp
      exact bh_zret C hQ dL_comes_19 (mo_bring (mo_take M x r0) (mq_bc M) 1) (v := (nI (mq_bc M))) (w := wh_hall cI cZ ad (mo_bring (mo_take M x r0) (mq_bc M) 1)) rfl rfl (Nat.le_of_ble_eq_true rfl) (Nat.le_of_ble_eq_true rfl) (Or.inl ⟨rfl, hb48, 1, rfl, GO_lit (by decide), fun _ => rfl⟩)
  · skip
    refine bh_aload_n C dL_comes_4 rfl 0 rfl ?_
    refine bh_iload_n C dL_comes_5 rfl 1 rfl ?_
    refine bh_iload_n C dL_comes_6 rfl 2 rfl ?_
    refine bh_zcalli (As := [.int x, .int r0]) C hE (ct_X0_transfer l hl D cI cZ cL ad M x r0 hI hK4) (cwV 2 C.1.2.2.2.2 gL_comes_X0_transfer rfl rfl rfl (by decide +kernel) ⟨Nat.le_of_ble_eq_true rfl, Nat.le_of_ble_eq_true rfl⟩) (ci := 0) rfl 0 rfl rfl rfl (Nat.le_of_ble_eq_true rfl) dL_comes_7 ⟨Nat.le_of_ble_eq_true rfl, Nat.le_of_ble_eq_true rfl⟩ (fun E hp => ?_) (fun r u hp => ?_)
    · rcases hp with ⟨rfl, hco⟩ | ⟨rfl, hco⟩
      · exact absurd hco (co_take_n1 hx hr)
      · refine bh_catch C hE htab (E := xe_S) (name := xe_S) [] ⟨0, 19, 20, 15⟩ [] rfl (fun z hz => absurd hz List.not_mem_nil) (by decide) (by decide) (by decide +kernel) (by decide) (fun q9 => ?_)
        refine bh_astore (lv' := [(4, .ref q9), (0, .ref (ad 0)), (1, .int x), (2, .int r0), (3, .int z)]) C dL_comes_20 (by decide) rfl ?_
        refine bh_bipush (v := (-3)) C dL_comes_22 (by decide) ?_
        exact bh_zret C hQ dL_comes_24 M (v := (-3)) (w := wh_hall cI cZ ad M) rfl rfl (Nat.le_of_ble_eq_true rfl) (Nat.le_of_ble_eq_true rfl) (Or.inr ⟨rfl, rfl⟩)
    · skip
      obtain ⟨hco, -, -, hb48, rfl⟩ := hp
      refine bh_goto (tgt := 19) C dL_comes_10 (by decide) ?_
      exact bh_zret C hQ dL_comes_19 (mo_route (mo_take M x r0) (mq_bc M)) (v := (nI (mq_bc M))) (w := wh_hall cI cZ ad (mo_route (mo_take M x r0) (mq_bc M))) rfl rfl (Nat.le_of_ble_eq_true rfl) (Nat.le_of_ble_eq_true rfl) (Or.inl ⟨rfl, hb48, _, come_go hI x r0, GO_way _ _, fun q => absurd q cz⟩)
set_option maxRecDepth 100000 in
set_option maxHeartbeats 4000000 in
theorem ct_L_decide (l : Launch) (hl : l.stackTraces = false) (D : va_G) (cI cZ cL : ClassId) (ad : Nat → Nat) {K T : Nat} (M : MT) (k : Nat) (z : Int32) (hI : MI K T M) (hK4 : K + 4 ≤ 2048) (hk : k < mq_bc M) (h3 : mq_pl M k = 1 ∨ mq_pl M k = 2 ∨ mq_pl M k = 3) : bh_Wi l D (wh_tys cI cZ cL) yL_decide wsL_decide ({ frames := 8, cells := 1, slots := 6, locals := 134 } : Room) [.ref (ad 0), .int (nI k), .int z] (wh_hall cI cZ ad M) (fun (r : Int32) (u : MT) => (u = mo_bring M k r ∧ GO M k r ∧ (z = 0 → r = mq_pl M k + 1) ∧ (z ≠ 0 → r = 5 ∨ r = 6 ∨ r = 7 ∨ r = 11)) ∨ (r = -3 ∧ u = M)) (fun u => wh_hall cI cZ ad u) 1 6 := by
  refine bh_ofWi (cc := cL_decide) (maxL := 4) (by decide +kernel) rfl (Nat.le_of_ble_eq_true rfl) ?_
  intro p e s m args below meth c A Q C hQ hE htab
  refine bh_eqlv (lv' := [(0, .ref (ad 0)), (1, .int (nI k)), (2, .int z)]) rfl ?_
  refine bh_aload_n C dL_decide_0 rfl 0 rfl ?_
  refine bh_iload_n C dL_decide_1 rfl 1 rfl ?_
  refine bh_iload_n C dL_decide_2 rfl 2 rfl ?_
  refine bh_zcalli (As := [.int (nI k), .int z]) C hE (ct_X0_decide l hl D cI cZ cL ad M (nI k) z hI hK4) (cwV 2 C.1.2.2.2.2 gL_decide_X0_decide rfl rfl rfl (by decide +kernel) ⟨Nat.le_of_ble_eq_true rfl, Nat.le_of_ble_eq_true rfl⟩) (ci := 0) rfl 0 rfl rfl rfl (Nat.le_of_ble_eq_true rfl) dL_decide_3 ⟨Nat.le_of_ble_eq_true rfl, Nat.le_of_ble_eq_true rfl⟩ (fun E hp => ?_) (fun r u hp => ?_)
  · rcases hp with ⟨rfl, hco⟩ | ⟨rfl, hco⟩
    · exact absurd hco (co_deci_n1 (vp_in_nI hk (by have := MI_bc hI; omega)))
    · refine bh_catch C hE htab (E := xe_S) (name := xe_S) [] ⟨0, 6, 7, 15⟩ [] rfl (fun z hz => absurd hz List.not_mem_nil) (by decide) (by decide) (by decide +kernel) (by decide) (fun q9 => ?_)
      refine bh_astore_n (lv' := [(3, .ref q9), (0, .ref (ad 0)), (1, .int (nI k)), (2, .int z)]) C dL_decide_7 rfl (by decide) rfl ?_
      refine bh_bipush (v := (-3)) C dL_decide_8 (by decide) ?_
      exact bh_zret C hQ dL_decide_10 M (v := (-3)) (w := wh_hall cI cZ ad M) rfl rfl (Nat.le_of_ble_eq_true rfl) (Nat.le_of_ble_eq_true rfl) (Or.inr ⟨rfl, rfl⟩)
  · skip
    have hb := MI_bc hI
    have hk9 : (nI k).toNatClampNeg = k := nI_clamp (by omega)
    obtain ⟨pp, e1, hg, h0, h1⟩ := dec_go h3 z
    have hr : r = pp := by rw [hp.2, hk9, e1]; exact bh_upd_same _ _ _
    subst hr
    exact bh_zret C hQ dL_decide_6 (mo_bring M k r) (v := r) (w := wh_hall cI cZ ad (mo_dec M (nI k).toNatClampNeg z)) (by rw [hk9, e1]) rfl (Nat.le_of_ble_eq_true rfl) (Nat.le_of_ble_eq_true rfl) (Or.inl ⟨rfl, hg, h0, h1⟩)
set_option maxRecDepth 100000 in
set_option maxHeartbeats 4000000 in
theorem ct_L_sendOn (l : Launch) (hl : l.stackTraces = false) (D : va_G) (cI cZ cL : ClassId) (ad : Nat → Nat) {K T : Nat} (M : MT) (k : Nat) (x : Int32) (hI : MI K T M) (hK4 : K + 4 ≤ 2048) (hk : k < mq_bc M) (hx : vp_in x (mq_fc M)) (h3 : mq_pl M k = 10 ∨ mq_pl M k = 11) : bh_Wi l D (wh_tys cI cZ cL) yL_sendOn wsL_sendOn ({ frames := 8, cells := 1, slots := 6, locals := 133 } : Room) [.ref (ad 0), .int (nI k), .int x] (wh_hall cI cZ ad M) (fun (r : Int32) (u : MT) => (u = mo_bring (mo_snd M k x) k r ∧ GO (mo_snd M k x) k r) ∨ (r = -3 ∧ u = M)) (fun u => wh_hall cI cZ ad u) 1 6 := by
  refine bh_ofWi (cc := cL_sendOn) (maxL := 4) (by decide +kernel) rfl (Nat.le_of_ble_eq_true rfl) ?_
  intro p e s m args below meth c A Q C hQ hE htab
  refine bh_eqlv (lv' := [(0, .ref (ad 0)), (1, .int (nI k)), (2, .int x)]) rfl ?_
  refine bh_aload_n C dL_sendOn_0 rfl 0 rfl ?_
  refine bh_iload_n C dL_sendOn_1 rfl 1 rfl ?_
  refine bh_iload_n C dL_sendOn_2 rfl 2 rfl ?_
  refine bh_zcalli (As := [.int (nI k), .int x]) C hE (ct_X0_sendOn l hl D cI cZ cL ad M (nI k) x hI hK4) (cwV 2 C.1.2.2.2.2 gL_sendOn_X0_sendOn rfl rfl rfl (by decide +kernel) ⟨Nat.le_of_ble_eq_true rfl, Nat.le_of_ble_eq_true rfl⟩) (ci := 0) rfl 0 rfl rfl rfl (Nat.le_of_ble_eq_true rfl) dL_sendOn_3 ⟨Nat.le_of_ble_eq_true rfl, Nat.le_of_ble_eq_true rfl⟩ (fun E hp => ?_) (fun r u hp => ?_)
  · rcases hp with ⟨rfl, hco⟩ | ⟨rfl, hco⟩
    · exact absurd hco (co_send_n1 (vp_in_nI hk (by have := MI_bc hI; omega)) hx)
    · refine bh_catch C hE htab (E := xe_S) (name := xe_S) [] ⟨0, 6, 7, 15⟩ [] rfl (fun z hz => absurd hz List.not_mem_nil) (by decide) (by decide) (by decide +kernel) (by decide) (fun q9 => ?_)
      refine bh_astore_n (lv' := [(3, .ref q9), (0, .ref (ad 0)), (1, .int (nI k)), (2, .int x)]) C dL_sendOn_7 rfl (by decide) rfl ?_
      refine bh_bipush (v := (-3)) C dL_sendOn_8 (by decide) ?_
      exact bh_zret C hQ dL_sendOn_10 M (v := (-3)) (w := wh_hall cI cZ ad M) rfl rfl (Nat.le_of_ble_eq_true rfl) (Nat.le_of_ble_eq_true rfl) (Or.inr ⟨rfl, rfl⟩)
  · skip
    have hb := MI_bc hI
    have hk9 : (nI k).toNatClampNeg = k := nI_clamp (by omega)
    have e1 := send_go h3 x
    have hr : r = mo_way (mo_snd M k x) (mq_bf (mo_snd M k x) k) := by rw [hp.2, hk9, e1]; exact bh_upd_same _ _ _
    rw [← hr] at e1
    exact bh_zret C hQ dL_sendOn_6 (mo_bring (mo_snd M k x) k r) (v := r) (w := wh_hall cI cZ ad (mo_route (mo_snd M (nI k).toNatClampNeg x) (nI k).toNatClampNeg)) (by rw [hk9, e1]) rfl (Nat.le_of_ble_eq_true rfl) (Nat.le_of_ble_eq_true rfl) (Or.inl ⟨rfl, by rw [hr]; exact GO_way _ _⟩)
end
section
section
variable {K T : Nat} {M : MT}
theorem MI_bcb (h : MI K T M) : mq_bc M < 2 ^ 31 := by
  have := MI_bc h
  omega
theorem MI_fcb (h : MI K T M) : mq_fc M < 2 ^ 31 := by
  have := MI_fc h
  omega
theorem MI_scb (h : MI K T M) : mq_sc M < 2 ^ 31 := by
  have := MI_sc h
  omega
theorem co_count0 {k : Nat} (h : k < 11) : co_count (nI (k + 1)) = 0 := by
  refine if_neg ?_
  intro z
  rcases z with z | z
  · have := (nI_ltI (a := k + 1) (b := 1) (by omega) (by decide)).mp z
    omega
  · have := (nI_ltI (a := 11) (b := k + 1) (by decide) (by omega)).mp z
    omega
theorem uc_ok (x : Int32) : ¬ (if 0 < x then x else 0) < 0 := by
  by_cases h : 0 < x
  · rw [if_pos h]
    exact fun z => absurd (Int32.lt_trans h z) (by decide)
  · rw [if_neg h]; decide
theorem lat_ge {x : Int32} (h : x = -1 ∨ vp_in x 4) : ¬ x < -1 := by
  rcases h with h | h
  · rw [h]; decide
  · obtain ⟨j, hj, rfl⟩ := vp_in_of h (by decide)
    rw [Int32.lt_iff_toInt_lt, nI_toInt (by omega), show (-1 : Int32).toInt = -1 from by decide]
    omega
theorem lat_le {x : Int32} (h : x = -1 ∨ vp_in x 4) : ¬ 3 < x := by
  rcases h with h | h
  · rw [h]; decide
  · obtain ⟨j, hj, rfl⟩ := vp_in_of h (by decide)
    exact fun z => by
      have := (nI_ltI (a := 3) (b := j) (by decide) (by omega)).mp z
      omega
theorem pl_ge {x : Int32} (h : vp_in x 12) (h0 : x ≠ 0) : ¬ x < 1 := by
  obtain ⟨j, hj, rfl⟩ := vp_in_of h (by decide)
  intro z
  have := (nI_ltI (a := j) (b := 1) (by omega) (by decide)).mp z
  exact h0 (by rw [show j = 0 by omega]; rfl)
theorem pl_le {x : Int32} (h : vp_in x 12) : ¬ 11 < x := by
  obtain ⟨j, hj, rfl⟩ := vp_in_of h (by decide)
  intro z
  have := (nI_ltI (a := 11) (b := j) (by decide) (by omega)).mp z
  omega
theorem vp_ge {x : Int32} {n : Nat} (h : vp_in x n) (hn : n < 2 ^ 31) : ¬ x < 0 := by
  obtain ⟨j, hj, rfl⟩ := vp_in_of h hn
  exact nI_pos (by omega)
theorem vp_lt {x : Int32} {n : Nat} (h : vp_in x n) (hn : n < 2 ^ 31) : ¬ nI n ≤ x := by
  obtain ⟨j, hj, rfl⟩ := vp_in_of h hn
  intro z
  have := (nI_leI hn (by omega)).mp z
  omega
theorem unm_le (M : MT) (x : Int32) : mo_unm M x ≤ mq_bc M := mo_cn_le _ _
theorem at5_le (h : PX K T M) : mo_cn (fun j => decide (mq_pl M j = 5)) (mq_bc M) ≤ 8 := by
  rw [cn_at h (by decide)]
  exact h.2.2.1
end
set_option maxRecDepth 100000 in
set_option maxHeartbeats 4000000 in
theorem ct_L_holds (l : Launch) (hl : l.stackTraces = false) (D : va_G) (cI cZ cL : ClassId) (ad : Nat → Nat) {K T : Nat} (M : MT)  (hP : PX K T M) : bh_Xi l D (wh_tys cI cZ cL) yL_holds wsL_holds ({ frames := 8, cells := 1, slots := 6, locals := 134 } : Room) [.ref (ad 0), .int (nI (mq_fc M))] (wh_hall cI cZ ad M) (fun r (_ : Unit) => r = 1) (fun _ => wh_hall cI cZ ad M) (fun _ => False) 1 6 := by
  refine bh_ofXi (cc := cL_holds) (maxL := 7) (by decide +kernel) rfl (Nat.le_of_ble_eq_true rfl) ?_
  intro p e s m args below meth c A Q C hQ hE hno
  refine bh_eqlv (lv' := [(0, .ref (ad 0)), (1, .int (nI (mq_fc M)))]) rfl ?_
  have hbc := MI_bc hP.1; have hfc := MI_fc hP.1; have hsc := MI_sc hP.1; have hnow := MI_now2 hP.1
  refine bh_iconst (v := 0) C dL_holds_0 (by decide) ?_
  refine bh_istore_n (lv' := [(2, .int 0), (0, .ref (ad 0)), (1, .int (nI (mq_fc M)))]) C dL_holds_1 rfl (by decide) rfl ?_
  refine bh_iconst (v := 1) C dL_holds_2 (by decide) ?_
  refine bh_istore_n (lv' := [(3, .int 1), (2, .int 0), (0, .ref (ad 0)), (1, .int (nI (mq_fc M)))]) C dL_holds_3 rfl (by decide) rfl ?_
  refine bh_iconst (v := 1) C dL_holds_4 (by decide) ?_
  refine bh_istore (lv' := [(4, .int 1), (3, .int 1), (2, .int 0), (0, .ref (ad 0)), (1, .int (nI (mq_fc M)))]) C dL_holds_5 (by decide) rfl ?_
  have loop1 : ∀ (n : Nat) (k : Nat), 12 ≤ k + n → k ≤ 11 → bh_W p l e ({ frames := 8, cells := 1, slots := 6, locals := 134 } : Room) s m args below meth c 7 D A 0 0 Q (wh_hall cI cZ ad M) ([(4, .int (nI (k + 1))), (0, .ref (ad 0)), (1, .int (nI (mq_fc M))), (2, .int (nI (mo_sum (fun i => mo_cn (fun j => decide (mq_pl M j = nI (i + 1))) (mq_bc M)) k))), (3, .int 1)]) 7 [] := by
    intro n
    induction n with
    | zero => intro k h1 h2; exact absurd h1 (by omega)
    | succ n ih =>
      intro k h1 h2
      refine bh_iload C dL_holds_7 0 rfl ?_
      refine bh_bipush (v := 11) C dL_holds_9 (by decide) ?_
      refine bh_icmp_gt (tgt := 29) C dL_holds_11 (by decide) (fun c_11 => ?_) (fun c_11 => ?_)
      · skip
        have c_11 := (nI_ltI (a := 11) (b := k + 1) (by decide) (by omega)).mp c_11
        have hkb : k = 11 := by omega
        subst hkb
        refine bh_lv (lv' := [(0, .ref (ad 0)), (1, .int (nI (mq_fc M))), (2, .int (nI (mo_sum (fun i => mo_cn (fun j => decide (mq_pl M j = nI (i + 1))) (mq_bc M)) 11))), (3, .int 1)]) [1, 2, 3, 4] rfl ?_
        refine bh_eqlv (lv' := [(0, .ref (ad 0)), (1, .int (nI (mq_fc M))), (2, .int (nI (mq_bc M))), (3, .int 1)]) (by rw [sum_places hP]) ?_
        refine bh_iconst (v := 0) C dL_holds_29 (by decide) ?_
        refine bh_istore (lv' := [(4, .int 0), (0, .ref (ad 0)), (1, .int (nI (mq_fc M))), (2, .int (nI (mq_bc M))), (3, .int 1)]) C dL_holds_30 (by decide) rfl ?_
        refine bh_iconst (v := 0) C dL_holds_32 (by decide) ?_
        refine bh_istore (lv' := [(5, .int 0), (4, .int 0), (0, .ref (ad 0)), (1, .int (nI (mq_fc M))), (2, .int (nI (mq_bc M))), (3, .int 1)]) C dL_holds_33 (by decide) rfl ?_
        have loop2 : ∀ (n : Nat) (k2 : Nat), 5 ≤ k2 + n → k2 ≤ 4 → bh_W p l e ({ frames := 8, cells := 1, slots := 6, locals := 134 } : Room) s m args below meth c 7 D A 0 0 Q (wh_hall cI cZ ad M) ([(5, .int (nI k2)), (0, .ref (ad 0)), (1, .int (nI (mq_fc M))), (2, .int (nI (mq_bc M))), (3, .int 1), (4, .int (nI (mo_sum (fun i => mo_atl M (nI i)) k2)))]) 35 [] := by
          intro n
          induction n with
          | zero => intro k2 h1 h2; exact absurd h1 (by omega)
          | succ n ih =>
            intro k2 h1 h2
            refine bh_iload C dL_holds_35 0 rfl ?_
            refine bh_iconst (v := 4) C dL_holds_37 (by decide) ?_
            refine bh_icmp_ge (tgt := 58) C dL_holds_38 (by decide) (fun c_38 => ?_) (fun c_38 => ?_)
            · skip
              have c_38 := bh_le (a := 4) (by decide) (by omega) c_38
              have hkb : k2 = 4 := by omega
              subst hkb
              refine bh_lv (lv' := [(0, .ref (ad 0)), (1, .int (nI (mq_fc M))), (2, .int (nI (mq_bc M))), (3, .int 1), (4, .int (nI (mo_sum (fun i => mo_atl M (nI i)) 4)))]) [1, 2, 3, 4, 5] rfl ?_
              refine bh_eqlv (lv' := [(0, .ref (ad 0)), (1, .int (nI (mq_fc M))), (2, .int (nI (mq_bc M))), (3, .int 1), (4, .int (nI (mo_cn (fun j => decide (mq_pl M j = 7)) (mq_bc M))))]) (by rw [sum_laterals hP]) ?_
              refine bh_iconst (v := 0) C dL_holds_58 (by decide) ?_
              refine bh_istore (lv' := [(5, .int 0), (0, .ref (ad 0)), (1, .int (nI (mq_fc M))), (2, .int (nI (mq_bc M))), (3, .int 1), (4, .int (nI (mo_cn (fun j => decide (mq_pl M j = 7)) (mq_bc M))))]) C dL_holds_59 (by decide) rfl ?_
              refine bh_iconst (v := 0) C dL_holds_61 (by decide) ?_
              refine bh_istore (lv' := [(6, .int 0), (5, .int 0), (0, .ref (ad 0)), (1, .int (nI (mq_fc M))), (2, .int (nI (mq_bc M))), (3, .int 1), (4, .int (nI (mo_cn (fun j => decide (mq_pl M j = 7)) (mq_bc M))))]) C dL_holds_62 (by decide) rfl ?_
              have loop3 : ∀ (n : Nat) (k3 : Nat), mq_fc M + 1 ≤ k3 + n → k3 ≤ mq_fc M → bh_W p l e ({ frames := 8, cells := 1, slots := 6, locals := 134 } : Room) s m args below meth c 7 D A 0 0 Q (wh_hall cI cZ ad M) ([(6, .int (nI k3)), (5, .int (nI (mo_sum (fun i => mo_unm M (nI i)) k3))), (0, .ref (ad 0)), (1, .int (nI (mq_fc M))), (2, .int (nI (mq_bc M))), (3, .int 1), (4, .int (nI (mo_cn (fun j => decide (mq_pl M j = 7)) (mq_bc M))))]) 64 [] := by
                intro n
                induction n with
                | zero => intro k3 h1 h2; exact absurd h1 (by omega)
                | succ n ih =>
                  intro k3 h1 h2
                  refine bh_iload C dL_holds_64 0 rfl ?_
                  refine bh_iload_n C dL_holds_66 rfl 3 rfl ?_
                  refine bh_icmp_ge (tgt := 135) C dL_holds_67 (by decide) (fun c_67 => ?_) (fun c_67 => ?_)
                  · skip
                    have c_67 := bh_le (by omega) (by omega) c_67
                    have hkb : k3 = mq_fc M := by omega
                    subst hkb
                    refine bh_lv (lv' := [(0, .ref (ad 0)), (1, .int (nI (mq_fc M))), (2, .int (nI (mq_bc M))), (3, .int 1), (4, .int (nI (mo_cn (fun j => decide (mq_pl M j = 7)) (mq_bc M)))), (5, .int (nI (mo_sum (fun i => mo_unm M (nI i)) (mq_fc M))))]) [2, 3, 4, 5, 6, 1] rfl ?_
                    refine bh_iconst (v := 0) C dL_holds_135 (by decide) ?_
                    refine bh_istore (lv' := [(6, .int 0), (0, .ref (ad 0)), (1, .int (nI (mq_fc M))), (2, .int (nI (mq_bc M))), (3, .int 1), (4, .int (nI (mo_cn (fun j => decide (mq_pl M j = 7)) (mq_bc M)))), (5, .int (nI (mo_sum (fun i => mo_unm M (nI i)) (mq_fc M))))]) C dL_holds_136 (by decide) rfl ?_
                    have loop4 : ∀ (n : Nat) (k4 : Nat), mq_bc M + 1 ≤ k4 + n → k4 ≤ mq_bc M → bh_W p l e ({ frames := 8, cells := 1, slots := 6, locals := 134 } : Room) s m args below meth c 7 D A 0 0 Q (wh_hall cI cZ ad M) ([(6, .int (nI k4)), (0, .ref (ad 0)), (1, .int (nI (mq_fc M))), (2, .int (nI (mq_bc M))), (3, .int 1), (4, .int (nI (mo_cn (fun j => decide (mq_pl M j = 7)) (mq_bc M)))), (5, .int (nI (mo_sum (fun i => mo_unm M (nI i)) (mq_fc M))))]) 138 [] := by
                      intro n
                      induction n with
                      | zero => intro k4 h1 h2; exact absurd h1 (by omega)
                      | succ n ih =>
                        intro k4 h1 h2
                        refine bh_iload C dL_holds_138 0 rfl ?_
                        refine bh_aload_n C dL_holds_140 rfl 1 rfl ?_
                        refine bh_calli_0 (As := []) C (ct_X0_bags l D cI cZ cL ad M) (cwV 0 C.1.2.2.2.2 gL_holds_X0_bags rfl rfl rfl (by decide +kernel) ⟨Nat.le_of_ble_eq_true rfl, Nat.le_of_ble_eq_true rfl⟩) (ci := 0) rfl 0 rfl rfl rfl (Nat.le_of_ble_eq_true rfl) dL_holds_141 ⟨Nat.le_of_ble_eq_true rfl, Nat.le_of_ble_eq_true rfl⟩ (fun r_141 u_141 hp_141 => ?_)
                        subst hp_141
                        refine bh_icmp_ge (tgt := 222) C dL_holds_144 (by decide) (fun c_144 => ?_) (fun c_144 => ?_)
                        · skip
                          have c_144 := bh_le (by omega) (by omega) c_144
                          refine bh_iload_n C dL_holds_222 rfl 4 rfl ?_
                          refine bh_if_eq (tgt := 281) C dL_holds_223 (by decide) (fun c_223 => absurd c_223 (by decide)) (fun c_223 => ?_)
                          refine bh_iload_n C dL_holds_226 rfl 3 rfl ?_
                          refine bh_aload_n C dL_holds_227 rfl 1 rfl ?_
                          refine bh_calli_0 (As := []) C (ct_X0_bags l D cI cZ cL ad M) (cwV 0 C.1.2.2.2.2 gL_holds_X0_bags rfl rfl rfl (by decide +kernel) ⟨Nat.le_of_ble_eq_true rfl, Nat.le_of_ble_eq_true rfl⟩) (ci := 0) rfl 0 rfl rfl rfl (Nat.le_of_ble_eq_true rfl) dL_holds_228 ⟨Nat.le_of_ble_eq_true rfl, Nat.le_of_ble_eq_true rfl⟩ (fun r_228 u_228 hp_228 => ?_)
                          subst hp_228
                          refine bh_icmp_ne (tgt := 281) C dL_holds_231 (by decide) (fun c_231 => absurd rfl c_231) (fun c_231 => ?_)
                          refine bh_aload_n C dL_holds_234 rfl 1 rfl ?_
                          refine bh_iconst (v := 5) C dL_holds_235 (by decide) ?_
                          refine bh_ycalli (As := [.int 5]) C hE (ct_X0_count l hl D cI cZ cL ad M 5 hP.1) (cwV 1 C.1.2.2.2.2 gL_holds_X0_count rfl rfl rfl (by decide +kernel) ⟨Nat.le_of_ble_eq_true rfl, Nat.le_of_ble_eq_true rfl⟩) (ci := 0) rfl 0 rfl rfl rfl (Nat.le_of_ble_eq_true rfl) dL_holds_236 ⟨Nat.le_of_ble_eq_true rfl, Nat.le_of_ble_eq_true rfl⟩ (fun E h9 => no_px (show co_count 5 = 0 by decide +kernel) h9) (fun r_236 u_236 hp_236 => ?_)
                          obtain ⟨-, rfl⟩ := hp_236
                          refine bh_bipush (v := 8) C dL_holds_239 (by decide) ?_
                          have hc5 := at5_le hP
                          refine bh_icmp_gt (tgt := 281) C dL_holds_241 (by decide) (fun c_241 => absurd ((nI_ltI (a := 8) (by decide) (by omega)).mp c_241) (Nat.not_lt.mpr (at5_le hP))) (fun c_241 => ?_)
                          refine bh_iload C dL_holds_244 5 rfl ?_
                          refine bh_aload_n C dL_holds_246 rfl 1 rfl ?_
                          refine bh_bipush (v := 7) C dL_holds_247 (by decide) ?_
                          refine bh_ycalli (As := [.int 7]) C hE (ct_X0_count l hl D cI cZ cL ad M 7 hP.1) (cwV 1 C.1.2.2.2.2 gL_holds_X0_count rfl rfl rfl (by decide +kernel) ⟨Nat.le_of_ble_eq_true rfl, Nat.le_of_ble_eq_true rfl⟩) (ci := 0) rfl 0 rfl rfl rfl (Nat.le_of_ble_eq_true rfl) dL_holds_249 ⟨Nat.le_of_ble_eq_true rfl, Nat.le_of_ble_eq_true rfl⟩ (fun E h9 => no_px (show co_count 7 = 0 by decide +kernel) h9) (fun r_249 u_249 hp_249 => ?_)
                          obtain ⟨-, rfl⟩ := hp_249
                          refine bh_icmp_ne (tgt := 281) C dL_holds_252 (by decide) (fun c_252 => absurd rfl c_252) (fun c_252 => ?_)
                          refine bh_iload C dL_holds_255 6 rfl ?_
                          refine bh_aload_n C dL_holds_257 rfl 1 rfl ?_
                          refine bh_bipush (v := 8) C dL_holds_258 (by decide) ?_
                          refine bh_ycalli (As := [.int 8]) C hE (ct_X0_count l hl D cI cZ cL ad M 8 hP.1) (cwV 1 C.1.2.2.2.2 gL_holds_X0_count rfl rfl rfl (by decide +kernel) ⟨Nat.le_of_ble_eq_true rfl, Nat.le_of_ble_eq_true rfl⟩) (ci := 0) rfl 0 rfl rfl rfl (Nat.le_of_ble_eq_true rfl) dL_holds_260 ⟨Nat.le_of_ble_eq_true rfl, Nat.le_of_ble_eq_true rfl⟩ (fun E h9 => no_px (show co_count 8 = 0 by decide +kernel) h9) (fun r_260 u_260 hp_260 => ?_)
                          obtain ⟨-, rfl⟩ := hp_260
                          have hu8 := sum_unm hP
                          have hc8 := mo_cn_le (fun j => decide (mq_pl M j = 8)) (mq_bc M)
                          refine bh_icmp_gt (tgt := 281) C dL_holds_263 (by decide) (fun c_263 => absurd ((nI_ltI (by omega) (by omega)).mp c_263) (Nat.not_lt.mpr hu8)) (fun c_263 => ?_)
                          refine bh_aload_n C dL_holds_266 rfl 1 rfl ?_
                          refine bh_calli_0 (As := []) C (ct_X0_scans l D cI cZ cL ad M) (cwV 0 C.1.2.2.2.2 gL_holds_X0_scans rfl rfl rfl (by decide +kernel) ⟨Nat.le_of_ble_eq_true rfl, Nat.le_of_ble_eq_true rfl⟩) (ci := 0) rfl 0 rfl rfl rfl (Nat.le_of_ble_eq_true rfl) dL_holds_267 ⟨Nat.le_of_ble_eq_true rfl, Nat.le_of_ble_eq_true rfl⟩ (fun r_267 u_267 hp_267 => ?_)
                          subst hp_267
                          refine bh_aload_n C dL_holds_270 rfl 1 rfl ?_
                          refine bh_calli_0 (As := []) C (ct_X0_bags l D cI cZ cL ad M) (cwV 0 C.1.2.2.2.2 gL_holds_X0_bags rfl rfl rfl (by decide +kernel) ⟨Nat.le_of_ble_eq_true rfl, Nat.le_of_ble_eq_true rfl⟩) (ci := 0) rfl 0 rfl rfl rfl (Nat.le_of_ble_eq_true rfl) dL_holds_271 ⟨Nat.le_of_ble_eq_true rfl, Nat.le_of_ble_eq_true rfl⟩ (fun r_271 u_271 hp_271 => ?_)
                          subst hp_271
                          refine bh_icmp_lt (tgt := 281) C dL_holds_274 (by decide) (fun c_274 => absurd ((nI_ltI (by omega) (by omega)).mp c_274) (Nat.not_lt.mpr hP.2.2.2.1)) (fun c_274 => ?_)
                          refine bh_iconst (v := 1) C dL_holds_277 (by decide) ?_
                          refine bh_goto (tgt := 282) C dL_holds_278 (by decide) ?_
                          exact bh_xzret C hQ dL_holds_282 () (v := 1) (w := wh_hall cI cZ ad M) rfl rfl (Nat.le_of_ble_eq_true rfl) (Nat.le_of_ble_eq_true rfl) rfl
                        · skip
                          have c_144 := bh_nle2 (by omega) (by omega) c_144
                          have hb4 := hP.2.2.2.2.2 k4 c_144
                          have hpl := MI_pl hP.1 k4
                          refine bh_iload_n C dL_holds_147 rfl 4 rfl ?_
                          refine bh_if_eq (tgt := 222) C dL_holds_148 (by decide) (fun c_148 => absurd c_148 (by decide)) (fun c_148 => ?_)
                          refine bh_aload_n C dL_holds_151 rfl 1 rfl ?_
                          refine bh_iload C dL_holds_152 0 rfl ?_
                          refine bh_ycalli (As := [.int (nI k4)]) C hE (ct_X0_placeOf l hl D cI cZ cL ad M (nI k4) hP.1) (cwV 1 C.1.2.2.2.2 gL_holds_X0_placeOf rfl rfl rfl (by decide +kernel) ⟨Nat.le_of_ble_eq_true rfl, Nat.le_of_ble_eq_true rfl⟩) (ci := 0) rfl 0 rfl rfl rfl (Nat.le_of_ble_eq_true rfl) dL_holds_154 ⟨Nat.le_of_ble_eq_true rfl, Nat.le_of_ble_eq_true rfl⟩ (fun E h9 => no_px (co_in0 (vp_in_nI (n := k4) (by omega) (MI_bcb hP.1))) h9) (fun r_154 u_154 hp_154 => ?_)
                          obtain ⟨-, rfl⟩ := hp_154
                          refine bh_topi (congrArg (mq_pl M) (nI_clamp (n := k4) (by omega))) ?_
                          refine bh_iconst (v := 1) C dL_holds_157 (by decide) ?_
                          refine bh_icmp_lt (tgt := 214) C dL_holds_158 (by decide) (fun c_158 => absurd c_158 (pl_ge hpl hb4.2.1)) (fun c_158 => ?_)
                          refine bh_aload_n C dL_holds_161 rfl 1 rfl ?_
                          refine bh_iload C dL_holds_162 0 rfl ?_
                          refine bh_ycalli (As := [.int (nI k4)]) C hE (ct_X0_placeOf l hl D cI cZ cL ad M (nI k4) hP.1) (cwV 1 C.1.2.2.2.2 gL_holds_X0_placeOf rfl rfl rfl (by decide +kernel) ⟨Nat.le_of_ble_eq_true rfl, Nat.le_of_ble_eq_true rfl⟩) (ci := 0) rfl 0 rfl rfl rfl (Nat.le_of_ble_eq_true rfl) dL_holds_164 ⟨Nat.le_of_ble_eq_true rfl, Nat.le_of_ble_eq_true rfl⟩ (fun E h9 => no_px (co_in0 (vp_in_nI (n := k4) (by omega) (MI_bcb hP.1))) h9) (fun r_164 u_164 hp_164 => ?_)
                          obtain ⟨-, rfl⟩ := hp_164
                          refine bh_topi (congrArg (mq_pl M) (nI_clamp (n := k4) (by omega))) ?_
                          refine bh_bipush (v := 11) C dL_holds_167 (by decide) ?_
                          refine bh_icmp_gt (tgt := 214) C dL_holds_169 (by decide) (fun c_169 => absurd c_169 (pl_le hpl)) (fun c_169 => ?_)
                          refine bh_aload_n C dL_holds_172 rfl 1 rfl ?_
                          refine bh_iload C dL_holds_173 0 rfl ?_
                          refine bh_aload_n C dL_holds_175 rfl 1 rfl ?_
                          refine bh_calli_0 (As := []) C (ct_X0_time l D cI cZ cL ad M) (cwV 0 C.1.2.2.2.2 gL_holds_X0_time rfl rfl rfl (by decide +kernel) ⟨Nat.le_of_ble_eq_true rfl, Nat.le_of_ble_eq_true rfl⟩) (ci := 0) rfl 0 rfl rfl rfl (Nat.le_of_ble_eq_true rfl) dL_holds_176 ⟨Nat.le_of_ble_eq_true rfl, Nat.le_of_ble_eq_true rfl⟩ (fun r_176 u_176 hp_176 => ?_)
                          subst hp_176
                          refine bh_ycalli (As := [.int (nI k4), .int (nI (mq_now M))]) C hE (ct_X0_placeByScans l hl D cI cZ cL ad M (nI k4) (nI (mq_now M)) hP.1) (cwV 2 C.1.2.2.2.2 gL_holds_X0_placeByScans rfl rfl rfl (by decide +kernel) ⟨Nat.le_of_ble_eq_true rfl, Nat.le_of_ble_eq_true rfl⟩) (ci := 0) rfl 0 rfl rfl rfl (Nat.le_of_ble_eq_true rfl) dL_holds_179 ⟨Nat.le_of_ble_eq_true rfl, Nat.le_of_ble_eq_true rfl⟩ (fun E h9 => no_px (co_pbs0 (vp_in_nI c_144 (MI_bcb hP.1)) (nI_pos (by omega)) (Int32.le_refl _)) h9) (fun r_179 u_179 hp_179 => ?_)
                          obtain ⟨-, rfl⟩ := hp_179
                          refine bh_topi (pbs_now hP c_144) ?_
                          refine bh_aload_n C dL_holds_182 rfl 1 rfl ?_
                          refine bh_iload C dL_holds_183 0 rfl ?_
                          refine bh_ycalli (As := [.int (nI k4)]) C hE (ct_X0_placeOf l hl D cI cZ cL ad M (nI k4) hP.1) (cwV 1 C.1.2.2.2.2 gL_holds_X0_placeOf rfl rfl rfl (by decide +kernel) ⟨Nat.le_of_ble_eq_true rfl, Nat.le_of_ble_eq_true rfl⟩) (ci := 0) rfl 0 rfl rfl rfl (Nat.le_of_ble_eq_true rfl) dL_holds_185 ⟨Nat.le_of_ble_eq_true rfl, Nat.le_of_ble_eq_true rfl⟩ (fun E h9 => no_px (co_in0 (vp_in_nI (n := k4) (by omega) (MI_bcb hP.1))) h9) (fun r_185 u_185 hp_185 => ?_)
                          obtain ⟨-, rfl⟩ := hp_185
                          refine bh_topi (congrArg (mq_pl M) (nI_clamp (n := k4) (by omega))) ?_
                          refine bh_icmp_ne (tgt := 214) C dL_holds_188 (by decide) (fun c_188 => absurd rfl c_188) (fun c_188 => ?_)
                          refine bh_aload_n C dL_holds_191 rfl 1 rfl ?_
                          refine bh_iload C dL_holds_192 0 rfl ?_
                          refine bh_ycalli (As := [.int (nI k4)]) C hE (ct_X0_flightOf l hl D cI cZ cL ad M (nI k4) hP.1) (cwV 1 C.1.2.2.2.2 gL_holds_X0_flightOf rfl rfl rfl (by decide +kernel) ⟨Nat.le_of_ble_eq_true rfl, Nat.le_of_ble_eq_true rfl⟩) (ci := 0) rfl 0 rfl rfl rfl (Nat.le_of_ble_eq_true rfl) dL_holds_194 ⟨Nat.le_of_ble_eq_true rfl, Nat.le_of_ble_eq_true rfl⟩ (fun E h9 => no_px (co_in0 (vp_in_nI (n := k4) (by omega) (MI_bcb hP.1))) h9) (fun r_194 u_194 hp_194 => ?_)
                          obtain ⟨-, rfl⟩ := hp_194
                          refine bh_topi (congrArg (mq_bf M) (nI_clamp (n := k4) (by omega))) ?_
                          refine bh_if_lt (tgt := 214) C dL_holds_197 (by decide) (fun c_197 => absurd c_197 (vp_ge hb4.1 (by omega))) (fun c_197 => ?_)
                          refine bh_aload_n C dL_holds_200 rfl 1 rfl ?_
                          refine bh_iload C dL_holds_201 0 rfl ?_
                          refine bh_ycalli (As := [.int (nI k4)]) C hE (ct_X0_flightOf l hl D cI cZ cL ad M (nI k4) hP.1) (cwV 1 C.1.2.2.2.2 gL_holds_X0_flightOf rfl rfl rfl (by decide +kernel) ⟨Nat.le_of_ble_eq_true rfl, Nat.le_of_ble_eq_true rfl⟩) (ci := 0) rfl 0 rfl rfl rfl (Nat.le_of_ble_eq_true rfl) dL_holds_203 ⟨Nat.le_of_ble_eq_true rfl, Nat.le_of_ble_eq_true rfl⟩ (fun E h9 => no_px (co_in0 (vp_in_nI (n := k4) (by omega) (MI_bcb hP.1))) h9) (fun r_203 u_203 hp_203 => ?_)
                          obtain ⟨-, rfl⟩ := hp_203
                          refine bh_topi (congrArg (mq_bf M) (nI_clamp (n := k4) (by omega))) ?_
                          refine bh_iload_n C dL_holds_206 rfl 2 rfl ?_
                          refine bh_icmp_ge (tgt := 214) C dL_holds_207 (by decide) (fun c_207 => absurd c_207 (vp_lt hb4.1 (by omega))) (fun c_207 => ?_)
                          refine bh_iconst (v := 1) C dL_holds_210 (by decide) ?_
                          refine bh_goto (tgt := 215) C dL_holds_211 (by decide) ?_
                          refine bh_istore_n (lv' := [(3, .int 1), (6, .int (nI k4)), (0, .ref (ad 0)), (1, .int (nI (mq_fc M))), (2, .int (nI (mq_bc M))), (4, .int (nI (mo_cn (fun j => decide (mq_pl M j = 7)) (mq_bc M)))), (5, .int (nI (mo_sum (fun i => mo_unm M (nI i)) (mq_fc M))))]) C dL_holds_215 rfl (by decide) rfl ?_
                          refine bh_iinc (v := (nI (k4 + 1))) (lv' := [(6, .int (nI (k4 + 1))), (3, .int 1), (0, .ref (ad 0)), (1, .int (nI (mq_fc M))), (2, .int (nI (mq_bc M))), (4, .int (nI (mo_cn (fun j => decide (mq_pl M j = 7)) (mq_bc M)))), (5, .int (nI (mo_sum (fun i => mo_unm M (nI i)) (mq_fc M))))]) C dL_holds_216 (k := 1) rfl (nI_1 _) (by decide) rfl ?_
                          refine bh_goto (tgt := 138) C dL_holds_219 (by decide) ?_
                          exact bh_lv [0, 2, 3, 4, 1, 5, 6] rfl (ih (k4 + 1) (by omega) (by omega))
                    exact bh_lv [0, 1, 2, 3, 4, 5, 6] rfl (loop4 (mq_bc M + 1) 0 (by omega) (by omega))
                  · skip
                    have c_67 := bh_nle2 (by omega) (by omega) c_67
                    have hlat := hP.2.1 k3 c_67
                    have hun := unm_le M (nI k3)
                    refine bh_iload_n C dL_holds_70 rfl 5 rfl ?_
                    refine bh_if_eq (tgt := 135) C dL_holds_71 (by decide) (fun c_71 => absurd c_71 (by decide)) (fun c_71 => ?_)
                    refine bh_aload_n C dL_holds_74 rfl 2 rfl ?_
                    refine bh_iload C dL_holds_75 0 rfl ?_
                    refine bh_ycalli (As := [.int (nI k3)]) C hE (ct_X0_lateralOf l hl D cI cZ cL ad M (nI k3) hP.1) (cwV 1 C.1.2.2.2.2 gL_holds_X0_lateralOf rfl rfl rfl (by decide +kernel) ⟨Nat.le_of_ble_eq_true rfl, Nat.le_of_ble_eq_true rfl⟩) (ci := 0) rfl 0 rfl rfl rfl (Nat.le_of_ble_eq_true rfl) dL_holds_77 ⟨Nat.le_of_ble_eq_true rfl, Nat.le_of_ble_eq_true rfl⟩ (fun E h9 => no_px (co_in0 (vp_in_nI (n := k3) (by omega) (MI_fcb hP.1))) h9) (fun r_77 u_77 hp_77 => ?_)
                    obtain ⟨-, rfl⟩ := hp_77
                    refine bh_topi (congrArg (mq_lat M) (nI_clamp (n := k3) (by omega))) ?_
                    refine bh_iconst (v := (-1)) C dL_holds_80 (by decide) ?_
                    refine bh_icmp_lt (tgt := 116) C dL_holds_81 (by decide) (fun c_81 => absurd c_81 (lat_ge hlat)) (fun c_81 => ?_)
                    refine bh_aload_n C dL_holds_84 rfl 2 rfl ?_
                    refine bh_iload C dL_holds_85 0 rfl ?_
                    refine bh_ycalli (As := [.int (nI k3)]) C hE (ct_X0_lateralOf l hl D cI cZ cL ad M (nI k3) hP.1) (cwV 1 C.1.2.2.2.2 gL_holds_X0_lateralOf rfl rfl rfl (by decide +kernel) ⟨Nat.le_of_ble_eq_true rfl, Nat.le_of_ble_eq_true rfl⟩) (ci := 0) rfl 0 rfl rfl rfl (Nat.le_of_ble_eq_true rfl) dL_holds_87 ⟨Nat.le_of_ble_eq_true rfl, Nat.le_of_ble_eq_true rfl⟩ (fun E h9 => no_px (co_in0 (vp_in_nI (n := k3) (by omega) (MI_fcb hP.1))) h9) (fun r_87 u_87 hp_87 => ?_)
                    obtain ⟨-, rfl⟩ := hp_87
                    refine bh_topi (congrArg (mq_lat M) (nI_clamp (n := k3) (by omega))) ?_
                    refine bh_iconst (v := 3) C dL_holds_90 (by decide) ?_
                    refine bh_icmp_gt (tgt := 116) C dL_holds_91 (by decide) (fun c_91 => absurd c_91 (lat_le hlat)) (fun c_91 => ?_)
                    refine bh_aload_n C dL_holds_94 rfl 2 rfl ?_
                    refine bh_iload C dL_holds_95 0 rfl ?_
                    refine bh_ycalli (As := [.int (nI k3)]) C hE (ct_X0_unmatched l hl D cI cZ cL ad M (nI k3) hP.1) (cwV 1 C.1.2.2.2.2 gL_holds_X0_unmatched rfl rfl rfl (by decide +kernel) ⟨Nat.le_of_ble_eq_true rfl, Nat.le_of_ble_eq_true rfl⟩) (ci := 0) rfl 0 rfl rfl rfl (Nat.le_of_ble_eq_true rfl) dL_holds_97 ⟨Nat.le_of_ble_eq_true rfl, Nat.le_of_ble_eq_true rfl⟩ (fun E h9 => no_px (co_in0 (vp_in_nI (n := k3) (by omega) (MI_fcb hP.1))) h9) (fun r_97 u_97 hp_97 => ?_)
                    obtain ⟨-, rfl⟩ := hp_97
                    refine bh_if_lt (tgt := 116) C dL_holds_100 (by decide) (fun c_100 => absurd c_100 (nI_pos (by omega))) (fun c_100 => ?_)
                    refine bh_aload_n C dL_holds_103 rfl 2 rfl ?_
                    refine bh_iload C dL_holds_104 0 rfl ?_
                    refine bh_ycalli (As := [.int (nI k3)]) C hE (ct_X0_untilClose l hl D cI cZ cL ad M (nI k3) hP.1) (cwV 1 C.1.2.2.2.2 gL_holds_X0_untilClose rfl rfl rfl (by decide +kernel) ⟨Nat.le_of_ble_eq_true rfl, Nat.le_of_ble_eq_true rfl⟩) (ci := 0) rfl 0 rfl rfl rfl (Nat.le_of_ble_eq_true rfl) dL_holds_106 ⟨Nat.le_of_ble_eq_true rfl, Nat.le_of_ble_eq_true rfl⟩ (fun E h9 => no_px (co_in0 (vp_in_nI (n := k3) (by omega) (MI_fcb hP.1))) h9) (fun r_106 u_106 hp_106 => ?_)
                    obtain ⟨-, rfl⟩ := hp_106
                    refine bh_if_lt (tgt := 116) C dL_holds_109 (by decide) (fun c_109 => absurd c_109 (uc_ok _)) (fun c_109 => ?_)
                    refine bh_iconst (v := 1) C dL_holds_112 (by decide) ?_
                    refine bh_goto (tgt := 117) C dL_holds_113 (by decide) ?_
                    refine bh_istore_n (lv' := [(3, .int 1), (6, .int (nI k3)), (5, .int (nI (mo_sum (fun i => mo_unm M (nI i)) k3))), (0, .ref (ad 0)), (1, .int (nI (mq_fc M))), (2, .int (nI (mq_bc M))), (4, .int (nI (mo_cn (fun j => decide (mq_pl M j = 7)) (mq_bc M))))]) C dL_holds_117 rfl (by decide) rfl ?_
                    refine bh_iload C dL_holds_118 2 rfl ?_
                    refine bh_aload_n C dL_holds_120 rfl 3 rfl ?_
                    refine bh_iload C dL_holds_121 1 rfl ?_
                    refine bh_ycalli (As := [.int (nI k3)]) C hE (ct_X0_unmatched l hl D cI cZ cL ad M (nI k3) hP.1) (cwV 1 C.1.2.2.2.2 gL_holds_X0_unmatched rfl rfl rfl (by decide +kernel) ⟨Nat.le_of_ble_eq_true rfl, Nat.le_of_ble_eq_true rfl⟩) (ci := 0) rfl 0 rfl rfl rfl (Nat.le_of_ble_eq_true rfl) dL_holds_123 ⟨Nat.le_of_ble_eq_true rfl, Nat.le_of_ble_eq_true rfl⟩ (fun E h9 => no_px (co_in0 (vp_in_nI (n := k3) (by omega) (MI_fcb hP.1))) h9) (fun r_123 u_123 hp_123 => ?_)
                    obtain ⟨-, rfl⟩ := hp_123
                    refine bh_iadd C dL_holds_126 ?_
                    refine bh_topi (nI_add _ _) ?_
                    refine bh_istore (lv' := [(5, .int (nI ((mo_sum (fun i => mo_unm M (nI i)) k3) + (mo_unm M (nI k3))))), (3, .int 1), (6, .int (nI k3)), (0, .ref (ad 0)), (1, .int (nI (mq_fc M))), (2, .int (nI (mq_bc M))), (4, .int (nI (mo_cn (fun j => decide (mq_pl M j = 7)) (mq_bc M))))]) C dL_holds_127 (by decide) rfl ?_
                    refine bh_iinc (v := (nI (k3 + 1))) (lv' := [(6, .int (nI (k3 + 1))), (5, .int (nI ((mo_sum (fun i => mo_unm M (nI i)) k3) + (mo_unm M (nI k3))))), (3, .int 1), (0, .ref (ad 0)), (1, .int (nI (mq_fc M))), (2, .int (nI (mq_bc M))), (4, .int (nI (mo_cn (fun j => decide (mq_pl M j = 7)) (mq_bc M))))]) C dL_holds_129 (k := 2) rfl (nI_1 _) (by decide) rfl ?_
                    refine bh_goto (tgt := 64) C dL_holds_132 (by decide) ?_
                    exact bh_lv [0, 1, 3, 4, 5, 2, 6] rfl (ih (k3 + 1) (by omega) (by omega))
              exact bh_lv [0, 1, 2, 3, 4, 5, 6] rfl (loop3 (mq_fc M + 1) 0 (by omega) (by omega))
            · skip
              have c_38 := bh_nle2 (a := 4) (by decide) (by omega) c_38
              refine bh_iload C dL_holds_41 5 rfl ?_
              refine bh_aload_n C dL_holds_43 rfl 1 rfl ?_
              refine bh_iload C dL_holds_44 0 rfl ?_
              refine bh_ycalli (As := [.int (nI k2)]) C hE (ct_X0_atLateral l hl D cI cZ cL ad M (nI k2) hP.1) (cwV 1 C.1.2.2.2.2 gL_holds_X0_atLateral rfl rfl rfl (by decide +kernel) ⟨Nat.le_of_ble_eq_true rfl, Nat.le_of_ble_eq_true rfl⟩) (ci := 0) rfl 0 rfl rfl rfl (Nat.le_of_ble_eq_true rfl) dL_holds_46 ⟨Nat.le_of_ble_eq_true rfl, Nat.le_of_ble_eq_true rfl⟩ (fun E h9 => no_px (co_in0 (vp_in_nI (n := k2) (by omega) (by decide))) h9) (fun r_46 u_46 hp_46 => ?_)
              obtain ⟨-, rfl⟩ := hp_46
              refine bh_iadd C dL_holds_49 ?_
              refine bh_topi (nI_add _ _) ?_
              refine bh_istore (lv' := [(4, .int (nI ((mo_sum (fun i => mo_atl M (nI i)) k2) + (mo_atl M (nI k2))))), (5, .int (nI k2)), (0, .ref (ad 0)), (1, .int (nI (mq_fc M))), (2, .int (nI (mq_bc M))), (3, .int 1)]) C dL_holds_50 (by decide) rfl ?_
              refine bh_iinc (v := (nI (k2 + 1))) (lv' := [(5, .int (nI (k2 + 1))), (4, .int (nI ((mo_sum (fun i => mo_atl M (nI i)) k2) + (mo_atl M (nI k2))))), (0, .ref (ad 0)), (1, .int (nI (mq_fc M))), (2, .int (nI (mq_bc M))), (3, .int 1)]) C dL_holds_52 (k := 1) rfl (nI_1 _) (by decide) rfl ?_
              refine bh_goto (tgt := 35) C dL_holds_55 (by decide) ?_
              exact bh_lv [0, 2, 3, 4, 5, 1] rfl (ih (k2 + 1) (by omega) (by omega))
        exact bh_lv [0, 2, 3, 4, 5, 1] rfl (loop2 5 0 (by omega) (by omega))
      · skip
        have c_11 : ¬ 11 < k + 1 := fun q => c_11 ((nI_ltI (a := 11) (b := k + 1) (by decide) (by omega)).mpr q)
        refine bh_iload_n C dL_holds_14 rfl 3 rfl ?_
        refine bh_aload_n C dL_holds_15 rfl 1 rfl ?_
        refine bh_iload C dL_holds_16 0 rfl ?_
        refine bh_ycalli (As := [.int (nI (k + 1))]) C hE (ct_X0_count l hl D cI cZ cL ad M (nI (k + 1)) hP.1) (cwV 1 C.1.2.2.2.2 gL_holds_X0_count rfl rfl rfl (by decide +kernel) ⟨Nat.le_of_ble_eq_true rfl, Nat.le_of_ble_eq_true rfl⟩) (ci := 0) rfl 0 rfl rfl rfl (Nat.le_of_ble_eq_true rfl) dL_holds_18 ⟨Nat.le_of_ble_eq_true rfl, Nat.le_of_ble_eq_true rfl⟩ (fun E h9 => no_px (co_count0 (k := k) (by omega)) h9) (fun r_18 u_18 hp_18 => ?_)
        obtain ⟨-, rfl⟩ := hp_18
        refine bh_iadd C dL_holds_21 ?_
        refine bh_topi (nI_add _ _) ?_
        refine bh_istore_n (lv' := [(2, .int (nI ((mo_sum (fun i => mo_cn (fun j => decide (mq_pl M j = nI (i + 1))) (mq_bc M)) k) + (mo_cn (fun j => decide (mq_pl M j = (nI (k + 1)))) (mq_bc M))))), (4, .int (nI (k + 1))), (0, .ref (ad 0)), (1, .int (nI (mq_fc M))), (3, .int 1)]) C dL_holds_22 rfl (by decide) rfl ?_
        refine bh_iinc (v := (nI ((k + 1) + 1))) (lv' := [(4, .int (nI ((k + 1) + 1))), (2, .int (nI ((mo_sum (fun i => mo_cn (fun j => decide (mq_pl M j = nI (i + 1))) (mq_bc M)) k) + (mo_cn (fun j => decide (mq_pl M j = (nI (k + 1)))) (mq_bc M))))), (0, .ref (ad 0)), (1, .int (nI (mq_fc M))), (3, .int 1)]) C dL_holds_23 (k := 1) rfl (nI_1 _) (by decide) rfl ?_
        refine bh_goto (tgt := 7) C dL_holds_26 (by decide) ?_
        exact bh_lv [0, 2, 3, 1, 4] rfl (ih (k + 1) (by omega) (by omega))
  exact bh_lv [0, 3, 4, 2, 1] rfl (loop1 12 0 (by omega) (by omega))
set_option maxRecDepth 100000 in
set_option maxHeartbeats 4000000 in
theorem ct_L_scanned (l : Launch) (hl : l.stackTraces = false) (D : va_G) (cI cZ cL : ClassId) (ad : Nat → Nat) {K T : Nat} (M : MT) (a0 k : Nat) (q0 : Int32) (hI : MI K T M) (hs : SC a0 M k q0) (hk : k < mq_bc M) : bh_Xi l D (wh_tys cI cZ cL) yL_scanned wsL_scanned ({ frames := 8, cells := 1, slots := 6, locals := 132 } : Room) [.ref (ad 0), .int (nI a0), .int (nI k), .int q0] (wh_hall cI cZ ad M) (fun r (_ : Unit) => r = 1) (fun _ => wh_hall cI cZ ad M) (fun _ => False) 1 6 := by
  refine bh_ofXi (cc := cL_scanned) (maxL := 4) (by decide +kernel) rfl (Nat.le_of_ble_eq_true rfl) ?_
  intro p e s m args below meth c A Q C hQ hE hno
  refine bh_eqlv (lv' := [(0, .ref (ad 0)), (1, .int (nI a0)), (2, .int (nI k)), (3, .int q0)]) rfl ?_
  have hP := And.intro hI trivial
  have hbc := MI_bc hI; have hsc := MI_sc hI; have hs1 := hs.1
  refine bh_aload_n C dL_scanned_0 rfl 0 rfl ?_
  refine bh_calli_0 (As := []) C (ct_X0_scans l D cI cZ cL ad M) (cwV 0 C.1.2.2.2.2 gL_scanned_X0_scans rfl rfl rfl (by decide +kernel) ⟨Nat.le_of_ble_eq_true rfl, Nat.le_of_ble_eq_true rfl⟩) (ci := 0) rfl 0 rfl rfl rfl (Nat.le_of_ble_eq_true rfl) dL_scanned_1 ⟨Nat.le_of_ble_eq_true rfl, Nat.le_of_ble_eq_true rfl⟩ (fun r_1 u_1 hp_1 => ?_)
  subst hp_1
  refine bh_iload_n C dL_scanned_4 rfl 1 rfl ?_
  refine bh_iconst (v := 1) C dL_scanned_5 (by decide) ?_
  refine bh_iadd C dL_scanned_6 ?_
  refine bh_topi (nI_1 _) ?_
  refine bh_icmp_ne (tgt := 41) C dL_scanned_7 (by decide) (fun c_7 => absurd (congrArg nI hs.1) c_7) (fun c_7 => ?_)
  refine bh_aload_n C dL_scanned_10 rfl 0 rfl ?_
  refine bh_iload_n C dL_scanned_11 rfl 1 rfl ?_
  refine bh_ycalli (As := [.int (nI a0)]) C hE (ct_X0_bagOfScan l hl D cI cZ cL ad M (nI a0) hP.1) (cwV 1 C.1.2.2.2.2 gL_scanned_X0_bagOfScan rfl rfl rfl (by decide +kernel) ⟨Nat.le_of_ble_eq_true rfl, Nat.le_of_ble_eq_true rfl⟩) (ci := 0) rfl 0 rfl rfl rfl (Nat.le_of_ble_eq_true rfl) dL_scanned_12 ⟨Nat.le_of_ble_eq_true rfl, Nat.le_of_ble_eq_true rfl⟩ (fun E h9 => no_px (co_in0 (vp_in_nI (n := a0) (by rw [hs.1]; omega) (MI_scb hP.1))) h9) (fun r_12 u_12 hp_12 => ?_)
  obtain ⟨-, rfl⟩ := hp_12
  refine bh_topi (congrArg (mq_sb M) (nI_clamp (n := a0) (by omega))) ?_
  refine bh_iload_n C dL_scanned_15 rfl 2 rfl ?_
  refine bh_icmp_ne (tgt := 41) C dL_scanned_16 (by decide) (fun c_16 => absurd hs.2.1 c_16) (fun c_16 => ?_)
  refine bh_aload_n C dL_scanned_19 rfl 0 rfl ?_
  refine bh_iload_n C dL_scanned_20 rfl 1 rfl ?_
  refine bh_ycalli (As := [.int (nI a0)]) C hE (ct_X0_placeOfScan l hl D cI cZ cL ad M (nI a0) hP.1) (cwV 1 C.1.2.2.2.2 gL_scanned_X0_placeOfScan rfl rfl rfl (by decide +kernel) ⟨Nat.le_of_ble_eq_true rfl, Nat.le_of_ble_eq_true rfl⟩) (ci := 0) rfl 0 rfl rfl rfl (Nat.le_of_ble_eq_true rfl) dL_scanned_21 ⟨Nat.le_of_ble_eq_true rfl, Nat.le_of_ble_eq_true rfl⟩ (fun E h9 => no_px (co_in0 (vp_in_nI (n := a0) (by rw [hs.1]; omega) (MI_scb hP.1))) h9) (fun r_21 u_21 hp_21 => ?_)
  obtain ⟨-, rfl⟩ := hp_21
  refine bh_topi (congrArg (mq_sp M) (nI_clamp (n := a0) (by omega))) ?_
  refine bh_iload_n C dL_scanned_24 rfl 3 rfl ?_
  refine bh_icmp_ne (tgt := 41) C dL_scanned_25 (by decide) (fun c_25 => absurd hs.2.2.1 c_25) (fun c_25 => ?_)
  refine bh_aload_n C dL_scanned_28 rfl 0 rfl ?_
  refine bh_iload_n C dL_scanned_29 rfl 2 rfl ?_
  refine bh_ycalli (As := [.int (nI k)]) C hE (ct_X0_placeOf l hl D cI cZ cL ad M (nI k) hP.1) (cwV 1 C.1.2.2.2.2 gL_scanned_X0_placeOf rfl rfl rfl (by decide +kernel) ⟨Nat.le_of_ble_eq_true rfl, Nat.le_of_ble_eq_true rfl⟩) (ci := 0) rfl 0 rfl rfl rfl (Nat.le_of_ble_eq_true rfl) dL_scanned_30 ⟨Nat.le_of_ble_eq_true rfl, Nat.le_of_ble_eq_true rfl⟩ (fun E h9 => no_px (co_in0 (vp_in_nI (n := k) hk (MI_bcb hP.1))) h9) (fun r_30 u_30 hp_30 => ?_)
  obtain ⟨-, rfl⟩ := hp_30
  refine bh_topi (congrArg (mq_pl M) (nI_clamp (n := k) (by omega))) ?_
  refine bh_iload_n C dL_scanned_33 rfl 3 rfl ?_
  refine bh_icmp_ne (tgt := 41) C dL_scanned_34 (by decide) (fun c_34 => absurd hs.2.2.2 c_34) (fun c_34 => ?_)
  refine bh_iconst (v := 1) C dL_scanned_37 (by decide) ?_
  refine bh_goto (tgt := 42) C dL_scanned_38 (by decide) ?_
  exact bh_xzret C hQ dL_scanned_42 () (v := 1) (w := wh_hall cI cZ ad M) rfl rfl (Nat.le_of_ble_eq_true rfl) (Nat.le_of_ble_eq_true rfl) rfl
end
