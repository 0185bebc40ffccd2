/-! THE CLAIM OUT OF ONE WALK OF THE LAW'S BODY. Your part is whole_start (and what it stands on); all else here is the same for every law, but numbers. -/
def R_law : String := "BagHallLaw"
def lw_P (b : Addr) (xs : List Int32) (args : Array Value) (s : State) : Prop := args = #[.ref b] ∧ s.IntsAt b xs ∧ xs.length ≤ 1536 ∧ (Jvm.Cond.and given_1 narrow_1).before args s = true
def lw_Q (_ : Array Value) (s : State) (o : Outcome) (t : State) : Prop := o = .returned (some (.int 1)) ∧ Framed s o t [] 1065 21124
def lw_Z (below : List Frame) (a : Array Value) (s : State) : State → Prop := fun t => ∃ o, t.status = .running ∧ Ended t below o ∧ lw_Q a s o t
/-- the law's own end, with 1 on the stack, nothing written that was there before, its room as the claim has it -/
theorem lw_ret {p : Program} {l : Launch} {e : Env} {s : State} {m : MethodId} {below : List Frame} {meth : Method} {c : Code} {b : Nat} (hx : p.tables.exec = Jvm.exec) (hb : c.code = code) (hr : meth.sig.returnType = ret) (hlocks : meth.locks = false) {pc : Nat} {H : Heap} {ls : Array Slot} (hdg : decode code pc = .ok (.ireturn, 1)) : W p l e room_1 s m #[Value.ref b] below meth c H [] 1065 21124 (lw_Z below #[Value.ref b] s) (F0 m pc ls [.int 1]) := by
  intro T hT X
  obtain ⟨fs, hret, hrun, hended, hW, hframe⟩ := X.leave (v := some (.int 1)) (hlocks := hlocks) (fun h => by rw [hr] at h; cases h)
  have hmeth' : T.vm.method? m = some meth := X.method'
  refine ⟨T.setFrames fs, ?_, .returned (some (.int 1)), hrun, hended, rfl, ⟨_, rfl⟩, hW, hframe⟩
  jvm_step X.here [X.here.top, hx, hb, hdg, hmeth', hr, ret, narrow_b1]
  (try refine ⟨rfl, ?_⟩); (try refine ⟨rfl, ?_⟩)
  first | (intro acts; rw [hret _ acts rfl rfl rfl]) | rw [hret _ _ rfl rfl rfl]
  exact Steps.refl _
/-- what holds at the law's entry: the machine, the code, the tables' words (any of lw_tbl by 'hts w (by decide +kernel)'), the script of L ints xs at the cell b, what the Statement gives of the start (any of its parts by flat_of_before) -/
def lw_At (p : Program) (s : State) (m : MethodId) (meth : Method) (c : Code) (b L : Nat) (xs : Nat → Int32) : Prop :=
  p.tables.exec = Jvm.exec ∧ c.code = code ∧ meth.sig.returnType = ret ∧ c.maxLocals = 7 ∧ s.vm.findClass R_law = some m.cls ∧ (∀ w ∈ lw_tbl, w.before #[Value.ref b] s = true) ∧ va_X b L xs s s.heap ∧ b < s.heap.size ∧ meth.locks = false ∧ (Jvm.Cond.and given_1 narrow_1).before #[Value.ref b] s = true

theorem law_lt {i L : Nat} (hL : L ≤ 1536) (hi : i ≤ 512) (h : ¬ nI L - 3 < nI (3 * i)) : 3 * i + 2 < L := by
  rw [Int32.lt_iff_toInt_lt, Int32.toInt_sub, nI_toInt (by omega), nI_toInt (by omega), show (3 : Int32).toInt = 3 from by decide, Int.bmod_eq_of_le (by omega) (by omega)] at h
  omega
/-- the law's end -/
theorem law_end {p : Program} {l : Launch} {e : Env} {s : State} {m : MethodId} {below : List Frame} {meth : Method} {c : Code} {b : Nat} {D : va_G} {A : Nat → Prop} {cells slots : Nat} {w : va_W} {lv : List (Nat × Value)} {tys : List (ClassId × FieldType)} (C : bh_C p s m #[.ref b] meth c cL_law 7 wsL_law RL D tys A ret) (hAs : ∀ q, A q → s.heap.size ≤ q) (hc : cells ≤ 1065) (hs : slots ≤ 21124) :
    bh_W p l e room_1 s m #[.ref b] below meth c 7 D A cells slots (lw_Z below #[.ref b] s) w lv 1421 [.int 1] := by
  intro H locs ls hP hD hS h
  obtain ⟨⟨hx, hb, hml, hown, hts⟩, hK, hA, hr, hlk⟩ := C
  exact va_forget (fun q hq => hAs _ (hS.2.2 q hq)) (W.widen hc hs (lw_ret hx hb hr hlk dL_law_1421))
set_option maxRecDepth 100000 in
set_option maxHeartbeats 4000000 in
theorem law_loop {p : Program} {e : Env} {s : State} {m : MethodId} {below : List Frame} {meth : Method} {c : Code} {l : Launch} (hl : l.stackTraces = false) {D : va_G} {cI cZ cL : ClassId} {A : Nat → Prop} {b L : Nat} {xs : Nat → Int32} {ad bd : Nat → Nat} {o : Nat} (C : bh_C p s m #[.ref b] meth c cL_law 7 wsL_law RL D (wh_tys cI cZ cL) A ret) (hE : xe_E A s s.heap) (hX : va_X b L xs s s.heap) (hbl : b < s.heap.size) (hbA : ¬ A b) (hAs : ∀ q, A q → s.heap.size ≤ q) (hL : L ≤ 1536) :
    ∀ (n i : Nat) (M : MT) (thr : Int32) (g : Nat → Int64), 513 ≤ i + n → i ≤ 512 → MI (4 * i) (200 * i) M → bh_W p l e room_1 s m #[.ref b] below meth c 7 D A (26 + i) (12900 + 6 * i) (lw_Z below #[.ref b] s) (wh_modl cI bd M thr ++ (wh_hall cI cZ ad M ++ [wh_out cL o g])) [(4, .int (nI (3 * i))), (3, .ref o), (2, .ref (bd 0)), (1, .ref (ad 0)), (0, .ref b)] 23 [] := by
  intro n
  induction n with
  | zero => intro i M thr g h1 h2; exact absurd h1 (by omega)
  | succ n ih =>
    intro i M thr g h1 h2 hI
    refine bh_iload C dL_law_23 0 rfl ?_
    refine bh_aload_n C dL_law_25 rfl 4 rfl ?_
    refine bh_slen C hX hbl hbA dL_law_26 ?_
    refine bh_iconst (v := 3) C dL_law_27 (by decide) ?_
    refine bh_isub C dL_law_28 ?_
    refine bh_icmp_gt (tgt := 1420) C dL_law_29 (by decide) (fun _ => ?_) (fun c29 => ?_)
    · refine bh_iconst (v := 1) C dL_law_1420 (by decide) ?_
      exact law_end C hAs (by omega) (by omega)
    · have hi := law_lt hL h2 c29
      have kont : ∀ (M9 : MT) (t9 : Int32) (g9 : Nat → Int64), MI (4 * i + 4) (200 * i + 200) M9 → bh_W p l e room_1 s m #[.ref b] below meth c 7 D A (26 + i + 1) (12900 + 6 * i + 6) (lw_Z below #[.ref b] s) (wh_modl cI bd M9 t9 ++ (wh_hall cI cZ ad M9 ++ [wh_out cL o g9])) [(4, .int (nI (3 * i))), (3, .ref o), (2, .ref (bd 0)), (1, .ref (ad 0)), (0, .ref b)] 1414 [] := by
        intro M9 t9 g9 hI9
        refine bh_iinc (v := nI (3 * i + 3)) (lv' := [(4, .int (nI (3 * i + 3))), (3, .ref o), (2, .ref (bd 0)), (1, .ref (ad 0)), (0, .ref b)]) C dL_law_1414 (k := 0) rfl (nI_add _ 3) (by decide) rfl ?_
        refine bh_goto (tgt := 23) C dL_law_1417 (by decide) ?_
        exact ih (i + 1) M9 t9 g9 (by omega) (by omega) hI9
      refine bh_aload_n C dL_law_32 rfl 4 rfl ?_
      refine bh_iload C dL_law_33 0 rfl ?_
      refine bh_sld C hX hbl hbA (vp_in_nI (n := 3 * i) (by omega) (by omega)) rfl dL_law_35 ?_
      refine bh_bipush (v := 31) C dL_law_36 (by decide) ?_
      refine bh_iand C dL_law_38 ?_
      obtain ⟨j, hj, ej⟩ := nI_and (xs (nI (3 * i)).toNatClampNeg)
      refine bh_topi ej ?_
      by_cases j0 : j = 0
      · rw [j0]
        refine bh_tabIn (off := 105) (tgt := 144) C dL_law_39 (by decide +kernel) (by decide +kernel) (by decide +kernel) (by decide) ?_
        exact law_addFlight hl C hE hX hbl hbA hL hi hI kont
      by_cases j1 : j = 1
      · rw [j1]
        refine bh_tabIn (off := 161) (tgt := 200) C dL_law_39 (by decide +kernel) (by decide +kernel) (by decide +kernel) (by decide) ?_
        exact law_board hl C hE hX hbl hbA hL hi hI kont
      by_cases j2 : j = 2
      · rw [j2]
        refine bh_tabIn (off := 252) (tgt := 291) C dL_law_39 (by decide +kernel) (by decide +kernel) (by decide +kernel) (by decide) ?_
        exact law_pass hl C hE hX hbl hbA hL hi hI kont
      by_cases j3 : j = 3
      · rw [j3]
        refine bh_tabIn (off := 308) (tgt := 347) C dL_law_39 (by decide +kernel) (by decide +kernel) (by decide +kernel) (by decide) ?_
        exact law_time hl C hE hX hbl hbA hL hi hI kont
      by_cases j4 : j = 4
      · rw [j4]
        refine bh_tabIn (off := 321) (tgt := 360) C dL_law_39 (by decide +kernel) (by decide +kernel) (by decide +kernel) (by decide) ?_
        exact law_lateralOf hl C hE hX hbl hbA hL hi hI kont
      by_cases j5 : j = 5
      · rw [j5]
        refine bh_tabIn (off := 377) (tgt := 416) C dL_law_39 (by decide +kernel) (by decide +kernel) (by decide +kernel) (by decide) ?_
        exact law_checkIn hl C hE hX hbl hbA hL hi hI kont
      by_cases j6 : j = 6
      · rw [j6]
        refine bh_tabIn (off := 445) (tgt := 484) C dL_law_39 (by decide +kernel) (by decide +kernel) (by decide +kernel) (by decide) ?_
        exact law_transfer hl C hE hX hbl hbA hL hi hI kont
      by_cases j7 : j = 7
      · rw [j7]
        refine bh_tabIn (off := 513) (tgt := 552) C dL_law_39 (by decide +kernel) (by decide +kernel) (by decide +kernel) (by decide) ?_
        exact law_decide hl C hE hX hbl hbA hL hi hI kont
      by_cases j8 : j = 8
      · rw [j8]
        refine bh_tabIn (off := 597) (tgt := 636) C dL_law_39 (by decide +kernel) (by decide +kernel) (by decide +kernel) (by decide) ?_
        exact law_letGo hl C hE hX hbl hbA hL hi hI kont
      by_cases j9 : j = 9
      · rw [j9]
        refine bh_tabIn (off := 653) (tgt := 692) C dL_law_39 (by decide +kernel) (by decide +kernel) (by decide +kernel) (by decide) ?_
        exact law_load hl C hE hX hbl hbA hL hi hI kont
      by_cases j10 : j = 10
      · rw [j10]
        refine bh_tabIn (off := 709) (tgt := 748) C dL_law_39 (by decide +kernel) (by decide +kernel) (by decide +kernel) (by decide) ?_
        exact law_offload hl C hE hX hbl hbA hL hi hI kont
      by_cases j11 : j = 11
      · rw [j11]
        refine bh_tabIn (off := 765) (tgt := 804) C dL_law_39 (by decide +kernel) (by decide +kernel) (by decide +kernel) (by decide) ?_
        exact law_sendOn hl C hE hX hbl hbA hL hi hI kont
      by_cases j12 : j = 12
      · rw [j12]
        refine bh_tabIn (off := 833) (tgt := 872) C dL_law_39 (by decide +kernel) (by decide +kernel) (by decide +kernel) (by decide) ?_
        exact law_bags hl C hE hX hbl hbA hL hi hI kont
      by_cases j13 : j = 13
      · rw [j13]
        refine bh_tabIn (off := 846) (tgt := 885) C dL_law_39 (by decide +kernel) (by decide +kernel) (by decide +kernel) (by decide) ?_
        exact law_placeOf hl C hE hX hbl hbA hL hi hI kont
      by_cases j14 : j = 14
      · rw [j14]
        refine bh_tabIn (off := 902) (tgt := 941) C dL_law_39 (by decide +kernel) (by decide +kernel) (by decide +kernel) (by decide) ?_
        exact law_placeByScans hl C hE hX hbl hbA hL hi hI kont
      by_cases j15 : j = 15
      · rw [j15]
        refine bh_tabIn (off := 970) (tgt := 1009) C dL_law_39 (by decide +kernel) (by decide +kernel) (by decide +kernel) (by decide) ?_
        exact law_flightOf hl C hE hX hbl hbA hL hi hI kont
      by_cases j16 : j = 16
      · rw [j16]
        refine bh_tabIn (off := 1026) (tgt := 1065) C dL_law_39 (by decide +kernel) (by decide +kernel) (by decide +kernel) (by decide) ?_
        exact law_count hl C hE hX hbl hbA hL hi hI kont
      by_cases j17 : j = 17
      · rw [j17]
        refine bh_tabIn (off := 1082) (tgt := 1121) C dL_law_39 (by decide +kernel) (by decide +kernel) (by decide +kernel) (by decide) ?_
        exact law_atLateral hl C hE hX hbl hbA hL hi hI kont
      by_cases j18 : j = 18
      · rw [j18]
        refine bh_tabIn (off := 1138) (tgt := 1177) C dL_law_39 (by decide +kernel) (by decide +kernel) (by decide +kernel) (by decide) ?_
        exact law_unmatched hl C hE hX hbl hbA hL hi hI kont
      by_cases j19 : j = 19
      · rw [j19]
        refine bh_tabIn (off := 1194) (tgt := 1233) C dL_law_39 (by decide +kernel) (by decide +kernel) (by decide +kernel) (by decide) ?_
        exact law_untilClose hl C hE hX hbl hbA hL hi hI kont
      by_cases j20 : j = 20
      · rw [j20]
        refine bh_tabIn (off := 1250) (tgt := 1289) C dL_law_39 (by decide +kernel) (by decide +kernel) (by decide +kernel) (by decide) ?_
        exact law_scans hl C hE hX hbl hbA hL hi hI kont
      by_cases j21 : j = 21
      · rw [j21]
        refine bh_tabIn (off := 1263) (tgt := 1302) C dL_law_39 (by decide +kernel) (by decide +kernel) (by decide +kernel) (by decide) ?_
        exact law_bagOfScan hl C hE hX hbl hbA hL hi hI kont
      by_cases j22 : j = 22
      · rw [j22]
        refine bh_tabIn (off := 1319) (tgt := 1358) C dL_law_39 (by decide +kernel) (by decide +kernel) (by decide +kernel) (by decide) ?_
        exact law_placeOfScan hl C hE hX hbl hbA hL hi hI kont
      refine bh_tabOut (tgt := 1414) C dL_law_39 (Or.inr (by rw [nI_toInt (by omega)]; omega)) (by decide) ?_
      refine bh_widen (k := 26 + i + 1) (n := 12900 + 6 * i + 6) (by omega) (by omega) ?_
      exact kont M thr g (MO_M hI (by omega) (by omega))
theorem law_str {b : Nat} {s : State} (hgv : (Jvm.Cond.and given_1 narrow_1).before #[Value.ref b] s = true) (hts : ∀ w ∈ lw_tbl, w.before #[Value.ref b] s = true) : ∀ q ∈ xe_strs, ∃ a : Nat, vk_R RX0 q.1 q.2 a s := by
  have h1 : ∀ q ∈ xe_strs, Cond.exactly (.string RX0 q.1) "java/lang/String" ∈ flatC (Jvm.Cond.and given_1 narrow_1) := by decide +kernel
  have h2 : ∀ q ∈ xe_strs, Cond.stringRef RX0 q.1 q.2 ∈ lw_tbl := by decide +kernel
  intro q hq
  obtain ⟨a, c, cA, kA, q1, -⟩ := Cond.exactly_spec (args := #[Value.ref b]) (first := s) (o := none) (s := s) (idx := []) (t := .string RX0 q.1) (cls := "java/lang/String") (flat_of_before _ hgv _ (h1 q hq))
  exact ⟨a, vk_R.of (hts _ (h2 q hq)) q1⟩
theorem law_E {b : Nat} {s : State} (hgv : (Jvm.Cond.and given_1 narrow_1).before #[Value.ref b] s = true) (hts : ∀ w ∈ lw_tbl, w.before #[Value.ref b] s = true) : xe_E (fun q : Nat => s.heap.size ≤ q) s s.heap := by
  have hA : ∀ a : Nat, a < s.heap.size → ¬ (fun q : Nat => s.heap.size ≤ q) a := fun a h => Nat.not_le.mpr h
  have hb : ∀ z ∈ xe_bad, z ∈ lw_tbl := by decide +kernel
  have ho : ∀ z ∈ xe_bad, z.onTables = true := by decide +kernel
  have hn : ∀ q ∈ xe_nc, Cond.not (.castable q.1 q.2) ∈ flatC (Jvm.Cond.and given_1 narrow_1) := by decide +kernel
  have u1 : Cond.isRef (.static Bundle.tN "UNASSIGNED_STACK" Bundle.steD) ∈ flatC (Jvm.Cond.and given_1 narrow_1) := by decide +kernel
  have u2 : Cond.isRef (.static Bundle.tN "SUPPRESSED_SENTINEL" Bundle.listD) ∈ flatC (Jvm.Cond.and given_1 narrow_1) := by decide +kernel
  exact ⟨law_str hgv hts, fun z hz => va_Nw.of (ho z hz) (hts _ (hb z hz)), fun q hq => va_Nc.of (flat_of_before _ hgv _ (hn q hq)),
    vx_Zqof (hts (.laysStatic Bundle.tN "UNASSIGNED_STACK" Bundle.steD) (by decide +kernel)) (hts (.initialized Bundle.tN) (by decide +kernel)) (flat_of_before _ hgv _ u1) hA,
    vx_Zqof (hts (.laysStatic Bundle.tN "SUPPRESSED_SENTINEL" Bundle.listD) (by decide +kernel)) (hts (.initialized Bundle.tN) (by decide +kernel)) (flat_of_before _ hgv _ u2) hA⟩
theorem law_rl : R_law = RL := rfl
set_option maxRecDepth 100000 in
set_option maxHeartbeats 4000000 in
theorem whole_start {p : Program} {e : Env} {s : State} {m : MethodId} {below : List Frame} {meth : Method} {c : Code} (l : Launch) (hflags : l.flags = flags0) {b L : Nat} {xs : Nat → Int32} (hL : L ≤ 1536) (C0 : lw_At p s m meth c b L xs) : W p l e room_1 s m #[Value.ref b] below meth c s.heap [] 0 0 (lw_Z below #[Value.ref b] s) (entryFrame m ([Value.ref b] : List Value).toArray 7) := by
  obtain ⟨hx, hb, hr, hml, hown, hts, hX, hbl, hlocks, hgv⟩ := id C0
  have hA : ∀ q : Nat, s.heap.size ≤ q → (fun q : Nat => s.heap.size ≤ q) q := fun _ h => h
  have hbA : ¬ (fun q : Nat => s.heap.size ≤ q) b := Nat.not_le.mpr hbl
  have hl : l.stackTraces = false := by
    unfold Launch.stackTraces
    rw [hflags]
    decide +kernel
  have hE := law_E hgv hts
  have htw : ∀ w ∈ wsL_law, w.before #[Value.ref b] s = true := fun w h => hts w (wsL_law_in w h)
  obtain ⟨c0, iS0, hKn0⟩ := u_known (C := RX0) (T := TX0) (N := 17) (n := 17) hts inX0 (hts (.instantiable RX0 17) (by decide +kernel))
  obtain ⟨c1, iS1, hKn1⟩ := u_known (C := RX1) (T := TX1) (N := 14) (n := 14) hts inX1 (hts (.instantiable RX1 14) (by decide +kernel))
  obtain ⟨cI, aI, nI9⟩ := arr_known (hts (.arrayClass .int) (by decide +kernel))
  obtain ⟨cZ, aZ, nZ9⟩ := arr_known (hts (.arrayClass .boolean) (by decide +kernel))
  obtain ⟨cL, aL, nL9⟩ := arr_known (hts (.arrayClass .long) (by decide +kernel))
  obtain ⟨D, hKc⟩ : ∃ D : va_G, ∀ (k : Nat) (q : vw_C), vwCl[k]? = some q → u_Kn s q.1 q.2.1 q.2.2 (D.1 k) (D.2 k) := by
    refine ⟨(fun k => if k = 0 then c0 else c1, fun k => if k = 0 then iS0 else iS1), ?_⟩
    intro k q hq
    match k, hq with
    | 0, hq => cases hq; exact hKn0
    | 1, hq => cases hq; exact hKn1
    | k + 2, hq => simp [vwCl] at hq
  have hK : va_K D vwCl (wh_tys cI cZ cL) s := by
    refine ⟨hKc, fun k q h => ?_⟩
    match k, h with
    | 0, h => cases h; exact ⟨aI, nI9⟩
    | 1, h => cases h; exact ⟨aZ, nZ9⟩
    | 2, h => cases h; exact ⟨aL, nL9⟩
    | k + 3, h => simp [wh_tys] at h
  have C : bh_C p s m #[.ref b] meth c cL_law 7 wsL_law RL D (wh_tys cI cZ cL) (fun q : Nat => s.heap.size ≤ q) ret := ⟨⟨hx, hb, hml, hown, htw⟩, hK, hA, hr, hlocks⟩
  have hlv := lv_entry ([.ref b]) (n := 7) (Nat.le_of_ble_eq_true rfl)
  rw [lg_entry_eq]
  have key : bh_W p l e room_1 s m #[.ref b] below meth c 7 D (fun q : Nat => s.heap.size ≤ q) 0 0 (lw_Z below #[.ref b] s) [] [(0, .ref b)] 0 [] := by
    refine bh_new (ci := 0) (fs := wh_dX0) C (Cn := RX0) (T := TX0) (N := 17) inlX0 tyX0 tyX0_ok (by decide +kernel) (by decide +kernel) (by decide +kernel) rfl (by decide +kernel) (Nat.le_of_ble_eq_true rfl) (Nat.le_of_ble_eq_true rfl) dL_law_0 (fun q0 => ?_)
    refine bh_dup C dL_law_3 rfl ?_
    refine bh_callv_I (As := []) (wr := []) C (ct_X0_init l D cI cZ cL q0) (cwI 0 C.1.2.2.2.2 gL_law_X0_init rfl rfl rfl (C.1.2.2.2.2 _ (by decide +kernel)) (C.1.2.2.2.2 _ (by decide +kernel)) (C.1.2.2.2.2 _ (by decide +kernel)) rfl (by decide +kernel) ⟨Nat.le_of_ble_eq_true rfl, Nat.le_of_ble_eq_true rfl⟩) rfl rfl (Nat.le_of_ble_eq_true rfl) dL_law_4 ⟨Nat.le_of_ble_eq_true rfl, Nat.le_of_ble_eq_true rfl⟩ (fun ad had => ?_)
    subst had
    refine bh_astore_n (lv' := [(1, .ref (ad 0)), (0, .ref b)]) C dL_law_7 rfl (by decide) rfl ?_
    refine bh_new (ci := 1) (fs := wh_dX1) C (Cn := RX1) (T := TX1) (N := 14) inlX1 tyX1 tyX1_ok (by decide +kernel) (by decide +kernel) (by decide +kernel) rfl (by decide +kernel) (Nat.le_of_ble_eq_true rfl) (Nat.le_of_ble_eq_true rfl) dL_law_8 (fun q1 => ?_)
    refine bh_dup C dL_law_11 rfl ?_
    refine bh_callv_I (As := []) (wr := wh_hall cI cZ ad mo_0) C (ct_X1_init l D cI cZ cL q1) (cwI 0 C.1.2.2.2.2 gL_law_X1_init rfl rfl rfl (C.1.2.2.2.2 _ (by decide +kernel)) (C.1.2.2.2.2 _ (by decide +kernel)) (C.1.2.2.2.2 _ (by decide +kernel)) rfl (by decide +kernel) ⟨Nat.le_of_ble_eq_true rfl, Nat.le_of_ble_eq_true rfl⟩) rfl rfl (Nat.le_of_ble_eq_true rfl) dL_law_12 ⟨Nat.le_of_ble_eq_true rfl, Nat.le_of_ble_eq_true rfl⟩ (fun bd hbd => ?_)
    subst hbd
    refine bh_astore_n (lv' := [(2, .ref (bd 0)), (1, .ref (ad 0)), (0, .ref b)]) C dL_law_15 rfl (by decide) rfl ?_
    refine bh_iconst (v := 1) C dL_law_16 (by decide) ?_
    refine bh_newa C (atype := .long) (by decide +kernel) rfl 2 rfl (nm := "[J") (fun _ h => h) (a0 := (1, .inr (.inl (fun _ => 0)))) (fun _ => rfl) (by decide) (by decide) (Nat.le_of_ble_eq_true rfl) (Nat.le_of_ble_eq_true rfl) (Nat.le_of_ble_eq_true rfl) dL_law_17 (fun o => ?_)
    refine bh_perm (w' := wh_modl cI bd mo_0 0 ++ (wh_hall cI cZ ad mo_0 ++ [wh_out cL o (fun _ => 0)])) ?_ ?_
    · rw [← List.append_assoc]
      exact List.Perm.append_right _ List.perm_append_comm
    refine bh_astore_n (lv' := [(3, .ref o), (2, .ref (bd 0)), (1, .ref (ad 0)), (0, .ref b)]) C dL_law_19 rfl (by decide) rfl ?_
    refine bh_iconst (v := 0) C dL_law_20 (by decide) ?_
    refine bh_istore (lv' := [(4, .int 0), (3, .ref o), (2, .ref (bd 0)), (1, .ref (ad 0)), (0, .ref b)]) C dL_law_21 (by decide) rfl ?_
    refine bh_widen (k := 26 + 0) (n := 12900 + 6 * 0) (Nat.le_of_ble_eq_true rfl) (Nat.le_of_ble_eq_true rfl) ?_
    exact law_loop hl C hE hX hbl hbA hA hL 513 0 mo_0 0 (fun _ => 0) (by omega) (by omega) MI_0
  exact key s.heap [] _ (fun k q h => by simp at h) ⟨fun i j p q h => by simp at h, fun k q h => by simp at h⟩ va_S.rf hlv
-- ===== YOUR PART ENDS =====
set_option maxHeartbeats 4000000 in
theorem lw_walk (l : Launch) (hflags : l.flags = flags0) (b : Addr) (xs : List Int32) : MetFree l x (headSpec (Jvm.Cond.code x code maxLocals ret :: tables_1) room_1) (lw_P b xs) (fun _ _ _ _ _ => True) lw_Q := by
  refine MetFree.of_bodyS (code := code) (maxLocals := maxLocals) (ret := ret) (by decide) ?_ ?_
  · intro args s m h hn
    obtain ⟨meth, c, h1, h2, h3, h4, h5, h6, -, -⟩ := Cond.code_spec hn (atoms_spec (ws := Jvm.Cond.code x code maxLocals ret :: tables_1) h _ List.mem_cons_self)
    exact ⟨meth, c, h1, h2, h3, h4, h5, h6⟩
  · intro p e s m args below meth c s₁ B hml0 hP _
    obtain ⟨rfl, hx, hbd, hgv⟩ := hP
    obtain ⟨scr, harrAt, hlist, hof, hsmall⟩ := hx
    obtain ⟨hcb, hkn, -, -⟩ := State.arrayAt?_spec harrAt
    have hown : s.vm.findClass R_law = some m.cls := findClass_of_methodNamed B.named
    have hts0 : ∀ c ∈ (Jvm.Cond.code x code maxLocals ret :: tables_1), c.before #[Value.ref b] s = true := atoms_spec (ws := Jvm.Cond.code x code maxLocals ret :: tables_1) B.pre
    have hts : ∀ w ∈ lw_tbl, w.before #[Value.ref b] s = true := k2_hts_sels lw_privs (fun w hw => hts0 w (List.mem_cons_of_mem _ hw)) lw_privs_ok
    have hml : c.maxLocals = 7 := B.maxLocals_eq (hts0 _ List.mem_cons_self)
    have X₀ : Stand p l e room_1 s m #[Value.ref b] below meth c s₁ [] 0 0 := Stand.of_body B
    have hh0 : s₁.heap = s.heap := by rw [B.state]; rfl
    have hsz : scr.slots.size = xs.length := by rw [← Array.length_toList, hlist, List.length_map]
    have hval : ∀ j : Nat, j < xs.length → scr.slots[j]? = some (.int (xs.getD j 0)) := fun j hj => by
      rw [← Array.getElem?_toList, hlist]
      simp [hj]
    have hbl : b < s.heap.size := (Array.getElem?_eq_some_iff.mp hcb).1
    have hX : va_X b xs.length (fun j => xs.getD j 0) s s.heap := ⟨scr, hcb, hof, hkn, hsz, hval⟩
    have K : W p l e room_1 s m #[Value.ref b] below meth c s₁.heap [] 0 0 (lw_Z below #[Value.ref b] s) (entryFrame m ([Value.ref b] : List Value).toArray 7) := by
      rw [hh0]
      exact whole_start l hflags hbd ⟨B.exec, B.bytes, B.returns, hml, hown, hts, hX, hbl, B.notSynchronized, hgv⟩
    obtain ⟨t, a1, o, b1, b2, b3⟩ := K s₁ rfl X₀
    exact ⟨t, o, a1, b1, b2, b3⟩
theorem lw_pre_spec {args : Array Value} {s : State} (h : (Jvm.Cond.and given_1 narrow_1).before args s = true) (hr : rest_1_c.before args s = true) : ∃ (b : Addr) (xs : List Int32), lw_P b xs args s := by
  have hs := flat_of_before _ h
  have hq := flat_of_before _ hr
  have hc : (Cond.count 1).before args s = true := hs _ (by decide +kernel)
  have harr : (Cond.arrayOf (.arg 0) .int).before args s = true := hs _ (by decide +kernel)
  have hle : (Cond.le (.length (.arg 0)) (.int 1536)).before args s = true := hs _ (by decide +kernel)
  have hlen : (Cond.isInt (.length (.arg 0))).before args s = true := hq _ (by decide +kernel)
  have hall : (Cond.all (.arg 0) (.isInt (.elem (.arg 0) (.index 0)))).before args s = true := hq _ (by decide +kernel)
  obtain ⟨b, xs, hb, hx⟩ := State.ints_of_pre rfl harr hlen hall
  have hsm : xs.length < 2 ^ 31 := hx.choose_spec.2.2.2
  have hev : (Term.length (.arg 0)).eval args s none [] s = some (.int xs.length.toInt32) := hx.length_eval hb
  have hv := Cond.le_ints hev (show (Term.int 1536).eval args s none [] s = some (.int 1536) from rfl)
  have hd : xs.length.toInt32 ≤ 1536 := by
    simpa [Cond.before, Cond.holds, hv] using hle
  have hN : xs.length ≤ 1536 := (Int32.ofNat_le_ofNat hsm (by decide)).mp (show Int32.ofNat xs.length ≤ Int32.ofNat 1536 from hd)
  exact ⟨b, xs, Cond.one_arg hc (show args[0]? = some (.ref b) from hb), hx, hN, h⟩
theorem lw_comes (l : Launch) (hflags : l.flags = flags0) : Comes l x (Jvm.Cond.code x code maxLocals ret :: tables_1) room_1 (fun tb e args s => Calls_1 tb e args s ∧ rest_1 tb e args s ∧ Pre_1 tb e args s)
    (fun _ _ args s o t => lw_Q args s o t) := by
  intro p e ha hc hk s m args below hf hfit hheap happ hpre
  obtain ⟨b, xs, hP⟩ := lw_pre_spec hpre.2.2 hpre.2.1
  obtain ⟨k, o, h1, h2, h3, hQ⟩ := lw_walk l hflags b xs p e ha hc hk s m args below hf ((Spec.applies_iff_loose hf).mp happ).1 hP trivial
  exact ⟨k, o, h1, h2, h3, hQ⟩
theorem lw_frame {s t : State} {o : Outcome} {args : Array Value} (h : Framed s o t [] 1065 21124) :
    Framed s o t (fieldLocs frame_1_writes args s ++ arrayLocs frame_1_arrays args s ++ staticLocs frame_1_statics s) 1065 21124 := h
theorem lw_limb (L : Cond) (hL : ∀ (args : Array Value) (s t : State), L.after args s (.returned (some (.int 1))) t = true) :
    ArmFor flags0 classFile x code maxLocals ret World_1 tables_1 room_1 Calls_1 rest_1 Pre_1
      (fun tb e a s o t => postC L tb e a s o t ∧ Framed s o t (fieldLocs frame_1_writes a s ++ arrayLocs frame_1_arrays a s ++ staticLocs frame_1_statics s) 1065 21124) := by
  intro l hflags _ _ p e ha hc hk s m args below hf hfit hheap happ hpre
  obtain ⟨k, o, h1, h2, h3, rfl, hF⟩ := lw_comes l hflags p e ha hc hk s m args below hf hfit hheap happ hpre
  exact ⟨k, _, h1, h2, h3, hL args s _, lw_frame hF⟩
theorem i_vc : Claimed_1_1 ∧ Claimed_1_2 := ⟨lw_limb limb_1_1 (fun args s t => by simp [limb_1_1, Cond.after, Cond.holds, Cond.value]), lw_limb limb_1_2 (fun args s t => Cond.after_iff.mpr (by
  first | (rw [show limb_1_2 = Cond.eq .result (.int 1) from rfl, Cond.eq_ints (x := 1) (y := 1) rfl rfl]; simp; done) | (simp [limb_1_2, Cond.value, Term.eval]; done)))⟩

