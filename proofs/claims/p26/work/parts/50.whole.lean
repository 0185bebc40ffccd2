/-! THE CLAIM OUT OF ONE WALK OF THE LAW'S BODY. Your part is whole_start (and what it stands on); all else here is the same for every law, but numbers. -/
def R_law : String := "BagHallLaw"
def lw_P (b : Addr) (xs : List Int32) (args : Array Value) (s : State) : Prop := args = #[.ref b] ∧ s.IntsAt b xs ∧ xs.length ≤ 260 ∧ (Jvm.Cond.and given_1 narrow_1).before args s = true
def lw_Q (_ : Array Value) (s : State) (o : Outcome) (t : State) : Prop := o = .returned (some (.int 1)) ∧ Framed s o t [] 202 7993
def lw_Z (below : List Frame) (a : Array Value) (s : State) : State → Prop := fun t => ∃ o, t.status = .running ∧ Ended t below o ∧ lw_Q a s o t
/-- the law's own end, with 1 on the stack, nothing written that was there before, its room as the claim has it -/
theorem lw_ret {p : Program} {l : Launch} {e : Env} {s : State} {m : MethodId} {below : List Frame} {meth : Method} {c : Code} {b : Nat} (hx : p.tables.exec = Jvm.exec) (hb : c.code = code) (hr : meth.sig.returnType = ret) (hlocks : meth.locks = false) {pc : Nat} {H : Heap} {ls : Array Slot} (hdg : decode code pc = .ok (.ireturn, 1)) : W p l e room_1 s m #[Value.ref b] below meth c H [] 202 7993 (lw_Z below #[Value.ref b] s) (F0 m pc ls [.int 1]) := by
  intro T hT X
  obtain ⟨fs, hret, hrun, hended, hW, hframe⟩ := X.leave (v := some (.int 1)) (hlocks := hlocks) (fun h => by rw [hr] at h; cases h)
  have hmeth' : T.vm.method? m = some meth := X.method'
  refine ⟨T.setFrames fs, ?_, .returned (some (.int 1)), hrun, hended, rfl, ⟨_, rfl⟩, hW, hframe⟩
  jvm_step X.here [X.here.top, hx, hb, hdg, hmeth', hr, ret, narrow_b1]
  (try refine ⟨rfl, ?_⟩); (try refine ⟨rfl, ?_⟩)
  first | (intro acts; rw [hret _ acts rfl rfl rfl]) | rw [hret _ _ rfl rfl rfl]
  exact Steps.refl _
/-- what holds at the law's entry: the machine, the code, the tables' words (any of lw_tbl by 'hts w (by decide +kernel)'), the script of L ints xs at the cell b, what the Statement gives of the start (any of its parts by flat_of_before) -/
def lw_At (p : Program) (s : State) (m : MethodId) (meth : Method) (c : Code) (b L : Nat) (xs : Nat → Int32) : Prop :=
  p.tables.exec = Jvm.exec ∧ c.code = code ∧ meth.sig.returnType = ret ∧ c.maxLocals = 11 ∧ s.vm.findClass R_law = some m.cls ∧ (∀ w ∈ lw_tbl, w.before #[Value.ref b] s = true) ∧ va_X b L xs s s.heap ∧ b < s.heap.size ∧ meth.locks = false ∧ (Jvm.Cond.and given_1 narrow_1).before #[Value.ref b] s = true

theorem MI_0 : MI 0 0 mo_0 := by
  have hz : ∀ n : Nat, 0 < n → vp_in 0 n := fun n hn => by
    rw [vp_in_iff, Int32.toInt_zero]; omega
  refine ⟨Nat.zero_le _, Nat.zero_le _, fun i => hz _ (by decide), fun i => hz _ (by decide), fun i => hz _ (by decide), fun i => hz _ (by decide), fun i => Or.inl rfl, fun i => Or.inl rfl, fun q hq => ?_, fun i _ => ⟨rfl, rfl⟩, fun i => ⟨hz _ (by decide), hz _ (by decide), hz _ (by decide)⟩, fun i hi => absurd rfl hi, fun i => hz _ (by decide), ?_, Nat.le_refl _, by decide, by decide⟩
  · have h : ∀ q, q < 12 → mq_at mo_0 q = nI (mo_at mo_0 (nI q)) := by decide +kernel
    exact h q hq
  · decide +kernel
theorem PX_0 : PX 0 0 mo_0 := ⟨MI_0, fun i h => absurd h (Nat.not_lt_zero i), by decide +kernel, Nat.le_refl _, fun j h => absurd h (Nat.not_lt_zero j), fun i h => absurd h (Nat.not_lt_zero i)⟩
/-- the law's end -/
theorem law_end {p : Program} {l : Launch} {e : Env} {s : State} {m : MethodId} {below : List Frame} {meth : Method} {c : Code} {b : Nat} {D : va_G} {A : Nat → Prop} {cells slots : Nat} {w : va_W} {lv : List (Nat × Value)} {tys : List (ClassId × FieldType)} (C : bh_C p s m #[.ref b] meth c cL_law 11 wsL_law RL D tys A ret) (hAs : ∀ q, A q → s.heap.size ≤ q) (hc : cells ≤ 202) (hs : slots ≤ 7993) :
    bh_W p l e room_1 s m #[.ref b] below meth c 11 D A cells slots (lw_Z below #[.ref b] s) w lv 512 [.int 1] := by
  intro H locs ls hP hD hS h
  obtain ⟨⟨hx, hb, hml, hown, hts⟩, hK, hA, hr, hlk⟩ := C
  exact va_forget (fun q hq => hAs _ (hS.2.2 q hq)) (W.widen hc hs (lw_ret hx hb hr hlk dL_law_512))
set_option maxRecDepth 100000 in
set_option maxHeartbeats 4000000 in
theorem law_loop {p : Program} {e : Env} {s : State} {m : MethodId} {below : List Frame} {meth : Method} {c : Code} {l : Launch} (hl : l.stackTraces = false) {D : va_G} {cI cZ cL : ClassId} {A : Nat → Prop} {b L : Nat} {xs : Nat → Int32} {ad : Nat → Nat} (C : bh_C p s m #[.ref b] meth c cL_law 11 wsL_law RL D (wh_tys cI cZ cL) A ret) (hE : xe_E A s s.heap) (hX : va_X b L xs s s.heap) (hbl : b < s.heap.size) (hbA : ¬ A b) (hAs : ∀ q, A q → s.heap.size ≤ q) (hL : L ≤ 260) {t : Nat} (ht : t < 60) :
    ∀ (n i : Nat) (M : MT), t + 1 ≤ i + n → i ≤ t → PX (4 * i) (200 * i) M → bh_W p l e room_1 s m #[.ref b] below meth c 11 D A (14 + 2 * i) (6521 + 12 * i) (lw_Z below #[.ref b] s) (wh_hall cI cZ ad M) [(5, .int (nI i)), (4, .int (nI t)), (3, .int 1), (2, .int (nI (mq_fc M))), (1, .ref (ad 0)), (0, .ref b)] 55 [] := by
  intro n
  induction n with
  | zero => intro i M h1 h2; exact absurd h1 (by omega)
  | succ n ih =>
    intro i M h1 h2 hP
    have hK4 : 4 * i + 4 ≤ 2048 := by omega
    have hT : 200 * i + 200 ≤ 102400 := by omega
    have hbc := MI_bc hP.1; have hfc := MI_fc hP.1; have hsc := MI_sc hP.1; have hnow := MI_now2 hP.1
    refine bh_iload C dL_law_55 0 rfl ?_
    refine bh_iload C dL_law_57 1 rfl ?_
    refine bh_icmp_ge (tgt := 511) C dL_law_59 (by decide) (fun c_59 => ?_) (fun c_59 => ?_)
    · skip
      refine bh_iload_n C dL_law_511 rfl 2 rfl ?_
      exact law_end C hAs (by omega) (by omega)
    · skip
      have c_59 := bh_nle2 (by omega) (by omega) c_59
      have kont : ∀ (M9 : MT), PX (4 * i + 4) (200 * i + 200) M9 → bh_W p l e room_1 s m #[.ref b] below meth c 11 D A (14 + 2 * i + 2) (6521 + 12 * i + 12) (lw_Z below #[.ref b] s) (wh_hall cI cZ ad M9) [(3, .int 1), (2, .int (nI (mq_fc M9))), (5, .int (nI i)), (4, .int (nI t)), (1, .ref (ad 0)), (0, .ref b)] 487 [] := by
        intro M9 hP9
        refine bh_iload_n C dL_law_487 rfl 0 rfl ?_
        refine bh_if_eq (tgt := 503) C dL_law_488 (by decide) (fun c_488 => absurd c_488 (by decide)) (fun c_488 => ?_)
        refine bh_aload_n C dL_law_491 rfl 4 rfl ?_
        refine bh_iload_n C dL_law_492 rfl 1 rfl ?_
        refine bh_calli_X (As := [.ref (ad 0), .int (nI (mq_fc M9))]) C hE (ct_L_holds l hl D cI cZ cL ad M9 hP9) ⟨callB_of 2 C.1.2.2.2.2 ggL_law_L_holds rfl rfl rfl (C.1.2.2.2.2 _ (by decide +kernel)) (C.1.2.2.2.2 _ (by decide +kernel)) (by decide +kernel) ⟨Nat.le_of_ble_eq_true rfl, Nat.le_of_ble_eq_true rfl⟩, C.1.2.2.2.2 _ (by decide +kernel)⟩ rfl rfl (Nat.le_of_ble_eq_true rfl) dL_law_493 ⟨by show _ ≤ 202; omega, by show _ ≤ 7993; omega⟩ (fun _ h9 => h9) (fun r_493 u_493 hp_493 => ?_)
        subst hp_493
        refine bh_if_eq (tgt := 503) C dL_law_496 (by decide) (fun c_496 => absurd c_496 (by decide)) (fun c_496 => ?_)
        refine bh_iconst (v := 1) C dL_law_499 (by decide) ?_
        refine bh_goto (tgt := 504) C dL_law_500 (by decide) ?_
        refine bh_istore_n (lv' := [(3, .int 1), (2, .int (nI (mq_fc M9))), (5, .int (nI i)), (4, .int (nI t)), (1, .ref (ad 0)), (0, .ref b)]) C dL_law_504 rfl (by decide) rfl ?_
        refine bh_iinc (v := (nI (i + 1))) (lv' := [(5, .int (nI (i + 1))), (3, .int 1), (2, .int (nI (mq_fc M9))), (4, .int (nI t)), (1, .ref (ad 0)), (0, .ref b)]) C dL_law_505 (k := 2) rfl (nI_1 _) (by decide) rfl ?_
        refine bh_goto (tgt := 55) C dL_law_508 (by decide) ?_
        refine bh_lv (lv' := [(5, .int (nI (i + 1))), (4, .int (nI t)), (3, .int 1), (2, .int (nI (mq_fc M9))), (1, .ref (ad 0)), (0, .ref b)]) [0, 3, 1, 2, 4, 5] rfl ?_
        refine bh_widen (k := 14 + 2 * (i + 1)) (n := 6521 + 12 * (i + 1)) (by omega) (by omega) ?_
        exact ih (i + 1) M9 (by omega) (by omega) hP9
      refine bh_iload_n C dL_law_62 rfl 2 rfl ?_
      refine bh_if_eq (tgt := 511) C dL_law_63 (by decide) (fun c_63 => absurd c_63 (by decide)) (fun c_63 => ?_)
      refine bh_aload_n C dL_law_66 rfl 5 rfl ?_
      refine bh_iconst (v := 1) C dL_law_67 (by decide) ?_
      refine bh_iload C dL_law_68 0 rfl ?_
      refine bh_iadd C dL_law_70 ?_
      refine bh_topi (show (1 : Int32) + nI i = nI (1 + i) from nI_add 1 i) ?_
      refine bh_calli_C (As := [.ref b, .int (nI (1 + i))]) C hX hbl hbA (ct_L_cell l D cI cZ cL hL (1 + i) (by omega)) ⟨callB_of 2 C.1.2.2.2.2 ggL_law_L_cell rfl rfl rfl (C.1.2.2.2.2 _ (by decide +kernel)) (C.1.2.2.2.2 _ (by decide +kernel)) (by decide +kernel) ⟨Nat.le_of_ble_eq_true rfl, Nat.le_of_ble_eq_true rfl⟩, C.1.2.2.2.2 _ (by decide +kernel)⟩ rfl rfl (Nat.le_of_ble_eq_true rfl) dL_law_71 ⟨by show _ ≤ 202; omega, by show _ ≤ 7993; omega⟩ (fun v _ => ?_)
      refine bh_istore (lv' := [(6, .int v), (5, .int (nI i)), (4, .int (nI t)), (3, .int 1), (2, .int (nI (mq_fc M))), (1, .ref (ad 0)), (0, .ref b)]) C dL_law_74 (by decide) rfl ?_
      refine bh_iload C dL_law_76 0 rfl ?_
      refine bh_bipush (v := 20) C dL_law_78 (by decide) ?_
      refine bh_ishr C dL_law_80 ?_
      refine bh_bipush (v := 14) C dL_law_81 (by decide) ?_
      refine bh_calli_N (As := [.int (v >>> (20 &&& 31)), .int 14]) C (ct_L_low l D cI cZ cL (v >>> (20 &&& 31)) 14 (by decide)) ⟨callB_of 2 C.1.2.2.2.2 ggL_law_L_low rfl rfl rfl (C.1.2.2.2.2 _ (by decide +kernel)) (C.1.2.2.2.2 _ (by decide +kernel)) (by decide +kernel) ⟨Nat.le_of_ble_eq_true rfl, Nat.le_of_ble_eq_true rfl⟩, C.1.2.2.2.2 _ (by decide +kernel)⟩ rfl rfl (Nat.le_of_ble_eq_true rfl) dL_law_83 ⟨by show _ ≤ 202; omega, by show _ ≤ 7993; omega⟩ (fun r_83 u_83 hp_83 => ?_)
      subst hp_83
      refine bh_istore (lv' := [(7, .int (lo_low (v >>> (20 &&& 31)) 14)), (6, .int v), (5, .int (nI i)), (4, .int (nI t)), (3, .int 1), (2, .int (nI (mq_fc M))), (1, .ref (ad 0)), (0, .ref b)]) C dL_law_86 (by decide) rfl ?_
      refine bh_iload_n C dL_law_88 rfl 5 rfl ?_
      refine bh_if_eq (tgt := 98) C dL_law_89 (by decide) (fun c_89 => ?_) (fun c_89 => ?_)
      · skip
        refine bh_lv (lv' := [(7, .int (lo_low (v >>> (20 &&& 31)) 14)), (6, .int v), (5, .int (nI i)), (4, .int (nI t)), (3, .int 1), (2, .int (nI (mq_fc M))), (1, .ref (ad 0)), (0, .ref b)]) [0, 1, 2, 3, 4, 5, 6, 7] rfl ?_
        exact law_add hl C hE (by omega) hP kont
      · skip
        have hf0 : 0 < mq_fc M := Nat.pos_of_ne_zero (fun q => c_89 (by rw [q]; rfl))
        refine bh_iload C dL_law_92 0 rfl ?_
        refine bh_iconst (v := 2) C dL_law_94 (by decide) ?_
        refine bh_icmp_ge (tgt := 182) C dL_law_95 (by decide) (fun c_95 => ?_) (fun c_95 => ?_)
        · skip
          refine bh_iload C dL_law_182 0 rfl ?_
          refine bh_bipush (v := 6) C dL_law_184 (by decide) ?_
          refine bh_icmp_ge (tgt := 318) C dL_law_186 (by decide) (fun c_186 => ?_) (fun c_186 => ?_)
          · skip
            refine bh_iload C dL_law_318 0 rfl ?_
            refine bh_bipush (v := 10) C dL_law_320 (by decide) ?_
            refine bh_icmp_ge (tgt := 343) C dL_law_322 (by decide) (fun c_322 => ?_) (fun c_322 => ?_)
            · skip
              refine bh_iload C dL_law_343 0 rfl ?_
              refine bh_bipush (v := 11) C dL_law_345 (by decide) ?_
              refine bh_icmp_ge (tgt := 413) C dL_law_347 (by decide) (fun c_347 => ?_) (fun c_347 => ?_)
              · skip
                refine bh_lv (lv' := [(7, .int (lo_low (v >>> (20 &&& 31)) 14)), (6, .int v), (5, .int (nI i)), (4, .int (nI t)), (3, .int 1), (2, .int (nI (mq_fc M))), (1, .ref (ad 0)), (0, .ref b)]) [0, 1, 2, 3, 4, 5, 6, 7] rfl ?_
                exact law_pass hl C hE (by omega) hP kont
              · skip
                refine bh_lv (lv' := [(7, .int (lo_low (v >>> (20 &&& 31)) 14)), (6, .int v), (5, .int (nI i)), (4, .int (nI t)), (3, .int 1), (2, .int (nI (mq_fc M))), (1, .ref (ad 0)), (0, .ref b)]) [0, 1, 2, 3, 4, 5, 6, 7] rfl ?_
                exact law_board hl C hE (by omega) hP kont
            · skip
              refine bh_aload_n C dL_law_325 rfl 6 rfl ?_
              refine bh_calli_0 (As := []) C (ct_X0_bags l D cI cZ cL ad M) (cwV 0 C.1.2.2.2.2 gL_law_X0_bags rfl rfl rfl (by decide +kernel) ⟨Nat.le_of_ble_eq_true rfl, Nat.le_of_ble_eq_true rfl⟩) (ci := 0) rfl 0 rfl rfl rfl (Nat.le_of_ble_eq_true rfl) dL_law_326 ⟨by show _ ≤ 202; omega, by show _ ≤ 7993; omega⟩ (fun r_326 u_326 hp_326 => ?_)
              subst hp_326
              refine bh_if_le (tgt := 343) C dL_law_329 (by decide) (fun c_329 => ?_) (fun c_329 => ?_)
              · skip
                refine bh_iload C dL_law_343 0 rfl ?_
                refine bh_bipush (v := 11) C dL_law_345 (by decide) ?_
                refine bh_icmp_ge (tgt := 413) C dL_law_347 (by decide) (fun c_347 => ?_) (fun c_347 => ?_)
                · skip
                  refine bh_lv (lv' := [(7, .int (lo_low (v >>> (20 &&& 31)) 14)), (6, .int v), (5, .int (nI i)), (4, .int (nI t)), (3, .int 1), (2, .int (nI (mq_fc M))), (1, .ref (ad 0)), (0, .ref b)]) [0, 1, 2, 3, 4, 5, 6, 7] rfl ?_
                  exact law_pass hl C hE (by omega) hP kont
                · skip
                  refine bh_lv (lv' := [(7, .int (lo_low (v >>> (20 &&& 31)) 14)), (6, .int v), (5, .int (nI i)), (4, .int (nI t)), (3, .int 1), (2, .int (nI (mq_fc M))), (1, .ref (ad 0)), (0, .ref b)]) [0, 1, 2, 3, 4, 5, 6, 7] rfl ?_
                  exact law_board hl C hE (by omega) hP kont
              · skip
                have hb0 : 0 < mq_bc M := Nat.pos_of_ne_zero (fun q => c_329 (by rw [q]; decide +kernel))
                refine bh_lv (lv' := [(7, .int (lo_low (v >>> (20 &&& 31)) 14)), (6, .int v), (5, .int (nI i)), (4, .int (nI t)), (3, .int 1), (2, .int (nI (mq_fc M))), (1, .ref (ad 0)), (0, .ref b)]) [0, 1, 2, 3, 4, 5, 6, 7] rfl ?_
                exact law_work hl C hE (by omega) hP kont hf0 hb0
          · skip
            refine bh_lv (lv' := [(7, .int (lo_low (v >>> (20 &&& 31)) 14)), (6, .int v), (5, .int (nI i)), (4, .int (nI t)), (3, .int 1), (2, .int (nI (mq_fc M))), (1, .ref (ad 0)), (0, .ref b)]) [0, 1, 2, 3, 4, 5, 6, 7] rfl ?_
            exact law_come hl C hE (by omega) hP kont hf0
        · skip
          refine bh_lv (lv' := [(7, .int (lo_low (v >>> (20 &&& 31)) 14)), (6, .int v), (5, .int (nI i)), (4, .int (nI t)), (3, .int 1), (2, .int (nI (mq_fc M))), (1, .ref (ad 0)), (0, .ref b)]) [0, 1, 2, 3, 4, 5, 6, 7] rfl ?_
          exact law_add hl C hE (by omega) hP kont
theorem law_str {b : Nat} {s : State} (hgv : (Jvm.Cond.and given_1 narrow_1).before #[Value.ref b] s = true) (hts : ∀ w ∈ lw_tbl, w.before #[Value.ref b] s = true) : ∀ q ∈ xe_strs, ∃ a : Nat, vk_R RX0 q.1 q.2 a s := by
  have h1 : ∀ q ∈ xe_strs, Cond.exactly (.string RX0 q.1) "java/lang/String" ∈ flatC (Jvm.Cond.and given_1 narrow_1) := by decide +kernel
  have h2 : ∀ q ∈ xe_strs, Cond.stringRef RX0 q.1 q.2 ∈ lw_tbl := by decide +kernel
  intro q hq
  obtain ⟨a, c, cA, kA, q1, -⟩ := Cond.exactly_spec (args := #[Value.ref b]) (first := s) (o := none) (s := s) (idx := []) (t := .string RX0 q.1) (cls := "java/lang/String") (flat_of_before _ hgv _ (h1 q hq))
  exact ⟨a, vk_R.of (hts _ (h2 q hq)) q1⟩
theorem law_E {b : Nat} {s : State} (hgv : (Jvm.Cond.and given_1 narrow_1).before #[Value.ref b] s = true) (hts : ∀ w ∈ lw_tbl, w.before #[Value.ref b] s = true) : xe_E (fun q : Nat => s.heap.size ≤ q) s s.heap := by
  have hA : ∀ a : Nat, a < s.heap.size → ¬ (fun q : Nat => s.heap.size ≤ q) a := fun a h => Nat.not_le.mpr h
  have hb : ∀ z ∈ xe_bad, z ∈ lw_tbl := by decide +kernel
  have ho : ∀ z ∈ xe_bad, z.onTables = true := by decide +kernel
  have hn : ∀ q ∈ xe_nc, Cond.not (.castable q.1 q.2) ∈ flatC (Jvm.Cond.and given_1 narrow_1) := by decide +kernel
  have u1 : Cond.isRef (.static Bundle.tN "UNASSIGNED_STACK" Bundle.steD) ∈ flatC (Jvm.Cond.and given_1 narrow_1) := by decide +kernel
  have u2 : Cond.isRef (.static Bundle.tN "SUPPRESSED_SENTINEL" Bundle.listD) ∈ flatC (Jvm.Cond.and given_1 narrow_1) := by decide +kernel
  exact ⟨law_str hgv hts, fun z hz => va_Nw.of (ho z hz) (hts _ (hb z hz)), fun q hq => va_Nc.of (flat_of_before _ hgv _ (hn q hq)),
    vx_Zqof (hts (.laysStatic Bundle.tN "UNASSIGNED_STACK" Bundle.steD) (by decide +kernel)) (hts (.initialized Bundle.tN) (by decide +kernel)) (flat_of_before _ hgv _ u1) hA,
    vx_Zqof (hts (.laysStatic Bundle.tN "SUPPRESSED_SENTINEL" Bundle.listD) (by decide +kernel)) (hts (.initialized Bundle.tN) (by decide +kernel)) (flat_of_before _ hgv _ u2) hA⟩
theorem law_rl : R_law = RL := rfl
set_option maxRecDepth 100000 in
set_option maxHeartbeats 4000000 in
theorem whole_start {p : Program} {e : Env} {s : State} {m : MethodId} {below : List Frame} {meth : Method} {c : Code} (l : Launch) (hflags : l.flags = flags0) {b L : Nat} {xs : Nat → Int32} (hL : L ≤ 260) (C0 : lw_At p s m meth c b L xs) : W p l e room_1 s m #[Value.ref b] below meth c s.heap [] 0 0 (lw_Z below #[Value.ref b] s) (entryFrame m ([Value.ref b] : List Value).toArray 11) := by
  obtain ⟨hx, hb, hr, hml, hown, hts, hX, hbl, hlocks, hgv⟩ := id C0
  have hA : ∀ q : Nat, s.heap.size ≤ q → (fun q : Nat => s.heap.size ≤ q) q := fun _ h => h
  have hbA : ¬ (fun q : Nat => s.heap.size ≤ q) b := Nat.not_le.mpr hbl
  have hl : l.stackTraces = false := by
    unfold Launch.stackTraces
    rw [hflags]
    decide +kernel
  have hE := law_E hgv hts
  have htw : ∀ w ∈ wsL_law, w.before #[Value.ref b] s = true := fun w h => hts w (wsL_law_in w h)
  obtain ⟨c0, iS0, hKn0⟩ := u_known (C := RX0) (T := TX0) (N := 17) (n := 17) hts inX0 (hts (.instantiable RX0 17) (by decide +kernel))
  obtain ⟨cI, aI, nI9⟩ := arr_known (hts (.arrayClass .int) (by decide +kernel))
  obtain ⟨cZ, aZ, nZ9⟩ := arr_known (hts (.arrayClass .boolean) (by decide +kernel))
  obtain ⟨D, hKc⟩ : ∃ D : va_G, ∀ (k : Nat) (q : vw_C), vwCl[k]? = some q → u_Kn s q.1 q.2.1 q.2.2 (D.1 k) (D.2 k) := by
    refine ⟨(fun _ => c0, fun _ => iS0), ?_⟩
    intro k q hq
    match k, hq with
    | 0, hq => cases hq; exact hKn0
    | k + 1, hq => simp [vwCl] at hq
  have hK : va_K D vwCl (wh_tys cI cZ cI) s := by
    refine ⟨hKc, fun k q h => ?_⟩
    match k, h with
    | 0, h => cases h; exact ⟨aI, nI9⟩
    | 1, h => cases h; exact ⟨aZ, nZ9⟩
    | k + 2, h => simp [wh_tys] at h
  have C : bh_C p s m #[.ref b] meth c cL_law 11 wsL_law RL D (wh_tys cI cZ cI) (fun q : Nat => s.heap.size ≤ q) ret := ⟨⟨hx, hb, hml, hown, htw⟩, hK, hA, hr, hlocks⟩
  have hlv := lv_entry ([.ref b]) (n := 11) (Nat.le_of_ble_eq_true rfl)
  rw [lg_entry_eq]
  have key : bh_W p l e room_1 s m #[.ref b] below meth c 11 D (fun q : Nat => s.heap.size ≤ q) 0 0 (lw_Z below #[.ref b] s) [] [(0, .ref b)] 0 [] := by
    refine bh_new (ci := 0) (fs := wh_dX0) C (Cn := RX0) (T := TX0) (N := 17) inlX0 tyX0 tyX0_ok (by decide +kernel) (by decide +kernel) (by decide +kernel) rfl (by decide +kernel) (Nat.le_of_ble_eq_true rfl) (Nat.le_of_ble_eq_true rfl) dL_law_0 (fun q0 => ?_)
    refine bh_dup C dL_law_3 rfl ?_
    refine bh_callv_I (As := []) (wr := []) C (ct_X0_init l D cI cZ cI q0) (cwI 0 C.1.2.2.2.2 gL_law_X0_init rfl rfl rfl (C.1.2.2.2.2 _ (by decide +kernel)) (C.1.2.2.2.2 _ (by decide +kernel)) (C.1.2.2.2.2 _ (by decide +kernel)) rfl (by decide +kernel) ⟨Nat.le_of_ble_eq_true rfl, Nat.le_of_ble_eq_true rfl⟩) rfl rfl (Nat.le_of_ble_eq_true rfl) dL_law_4 ⟨Nat.le_of_ble_eq_true rfl, Nat.le_of_ble_eq_true rfl⟩ (fun ad had => ?_)
    subst had
    refine bh_astore_n (lv' := [(1, .ref (ad 0)), (0, .ref b)]) C dL_law_7 rfl (by decide) rfl ?_
    refine bh_eqw (w' := wh_hall cI cZ ad mo_0) rfl ?_
    refine bh_widen (k := 14) (n := 6521) (Nat.le_of_ble_eq_true rfl) (Nat.le_of_ble_eq_true rfl) ?_
    refine bh_iconst (v := 0) C dL_law_8 (by decide) ?_
    refine bh_istore_n (lv' := [(2, .int 0), (1, .ref (ad 0)), (0, .ref b)]) C dL_law_9 rfl (by decide) rfl ?_
    refine bh_aload_n C dL_law_10 rfl 1 rfl ?_
    refine bh_calli_0 (As := []) C (ct_X0_time l D cI cZ cI ad mo_0) (cwV 0 C.1.2.2.2.2 gL_law_X0_time rfl rfl rfl (by decide +kernel) ⟨Nat.le_of_ble_eq_true rfl, Nat.le_of_ble_eq_true rfl⟩) (ci := 0) rfl 0 rfl rfl rfl (Nat.le_of_ble_eq_true rfl) dL_law_11 ⟨Nat.le_of_ble_eq_true rfl, Nat.le_of_ble_eq_true rfl⟩ (fun r_11 u_11 hp_11 => ?_)
    subst hp_11
    refine bh_if_ne (tgt := 36) C dL_law_14 (by decide) (fun c_14 => absurd rfl c_14) (fun c_14 => ?_)
    refine bh_aload_n C dL_law_17 rfl 1 rfl ?_
    refine bh_calli_0 (As := []) C (ct_X0_bags l D cI cZ cI ad mo_0) (cwV 0 C.1.2.2.2.2 gL_law_X0_bags rfl rfl rfl (by decide +kernel) ⟨Nat.le_of_ble_eq_true rfl, Nat.le_of_ble_eq_true rfl⟩) (ci := 0) rfl 0 rfl rfl rfl (Nat.le_of_ble_eq_true rfl) dL_law_18 ⟨Nat.le_of_ble_eq_true rfl, Nat.le_of_ble_eq_true rfl⟩ (fun r_18 u_18 hp_18 => ?_)
    subst hp_18
    refine bh_if_ne (tgt := 36) C dL_law_21 (by decide) (fun c_21 => absurd rfl c_21) (fun c_21 => ?_)
    refine bh_aload_n C dL_law_24 rfl 1 rfl ?_
    refine bh_iconst (v := 0) C dL_law_25 (by decide) ?_
    refine bh_topi (show (0 : Int32) = nI (mq_fc mo_0) from rfl) ?_
    refine bh_calli_X (As := [.ref (ad 0), .int (nI (mq_fc mo_0))]) C hE (ct_L_holds l hl D cI cZ cI ad mo_0 PX_0) ⟨callB_of 2 C.1.2.2.2.2 ggL_law_L_holds rfl rfl rfl (C.1.2.2.2.2 _ (by decide +kernel)) (C.1.2.2.2.2 _ (by decide +kernel)) (by decide +kernel) ⟨Nat.le_of_ble_eq_true rfl, Nat.le_of_ble_eq_true rfl⟩, C.1.2.2.2.2 _ (by decide +kernel)⟩ rfl rfl (Nat.le_of_ble_eq_true rfl) dL_law_26 ⟨Nat.le_of_ble_eq_true rfl, Nat.le_of_ble_eq_true rfl⟩ (fun _ h9 => h9) (fun r_26 u_26 hp_26 => ?_)
    subst hp_26
    refine bh_if_eq (tgt := 36) C dL_law_29 (by decide) (fun c_29 => absurd c_29 (by decide)) (fun c_29 => ?_)
    refine bh_iconst (v := 1) C dL_law_32 (by decide) ?_
    refine bh_goto (tgt := 37) C dL_law_33 (by decide) ?_
    refine bh_istore_n (lv' := [(3, .int 1), (2, .int 0), (1, .ref (ad 0)), (0, .ref b)]) C dL_law_37 rfl (by decide) rfl ?_
    refine bh_iconst (v := 5) C dL_law_38 (by decide) ?_
    refine bh_aload_n C dL_law_39 rfl 3 rfl ?_
    refine bh_iconst (v := 0) C dL_law_40 (by decide) ?_
    refine bh_topi (show (0 : Int32) = nI 0 from rfl) ?_
    refine bh_calli_C (As := [.ref b, .int (nI 0)]) C hX hbl hbA (ct_L_cell l D cI cZ cI hL 0 (by omega)) ⟨callB_of 2 C.1.2.2.2.2 ggL_law_L_cell rfl rfl rfl (C.1.2.2.2.2 _ (by decide +kernel)) (C.1.2.2.2.2 _ (by decide +kernel)) (by decide +kernel) ⟨Nat.le_of_ble_eq_true rfl, Nat.le_of_ble_eq_true rfl⟩, C.1.2.2.2.2 _ (by decide +kernel)⟩ rfl rfl (Nat.le_of_ble_eq_true rfl) dL_law_41 ⟨Nat.le_of_ble_eq_true rfl, Nat.le_of_ble_eq_true rfl⟩ (fun v0 _ => ?_)
    refine bh_bipush (v := 55) C dL_law_44 (by decide) ?_
    obtain ⟨j, hj, ej⟩ := low_at v0 (c := 55) (n := 55) rfl (by decide) (by decide)
    refine bh_calli_N (As := [.int v0, .int 55]) C (ct_L_low l D cI cZ cI v0 55 (by decide)) ⟨callB_of 2 C.1.2.2.2.2 ggL_law_L_low rfl rfl rfl (C.1.2.2.2.2 _ (by decide +kernel)) (C.1.2.2.2.2 _ (by decide +kernel)) (by decide +kernel) ⟨Nat.le_of_ble_eq_true rfl, Nat.le_of_ble_eq_true rfl⟩, C.1.2.2.2.2 _ (by decide +kernel)⟩ rfl rfl (Nat.le_of_ble_eq_true rfl) dL_law_46 ⟨Nat.le_of_ble_eq_true rfl, Nat.le_of_ble_eq_true rfl⟩ (fun r_46 u_46 hp_46 => ?_)
    subst hp_46
    refine bh_topi ej ?_
    refine bh_iadd C dL_law_49 ?_
    refine bh_topi (show (5 : Int32) + nI j = nI (5 + j) from nI_add 5 j) ?_
    refine bh_istore (lv' := [(4, .int (nI (5 + j))), (3, .int 1), (2, .int 0), (1, .ref (ad 0)), (0, .ref b)]) C dL_law_50 (by decide) rfl ?_
    refine bh_iconst (v := 0) C dL_law_52 (by decide) ?_
    refine bh_istore (lv' := [(5, .int 0), (4, .int (nI (5 + j))), (3, .int 1), (2, .int 0), (1, .ref (ad 0)), (0, .ref b)]) C dL_law_53 (by decide) rfl ?_
    refine bh_lv (lv' := [(5, .int 0), (4, .int (nI (5 + j))), (3, .int 1), (2, .int 0), (1, .ref (ad 0)), (0, .ref b)]) [0, 1, 2, 3, 4, 5] rfl ?_
    refine bh_eqlv (lv' := [(5, .int (nI 0)), (4, .int (nI (5 + j))), (3, .int 1), (2, .int (nI (mq_fc mo_0))), (1, .ref (ad 0)), (0, .ref b)]) rfl ?_
    refine bh_widen (k := 14 + 2 * 0) (n := 6521 + 12 * 0) (Nat.le_of_ble_eq_true rfl) (Nat.le_of_ble_eq_true rfl) ?_
    exact law_loop hl C hE hX hbl hbA hA hL (t := 5 + j) (by omega) (5 + j + 1) 0 mo_0 (by omega) (by omega) PX_0
  exact key s.heap [] _ (fun k q h => by simp at h) ⟨fun i j p q h => by simp at h, fun k q h => by simp at h⟩ va_S.rf hlv
-- ===== YOUR PART ENDS =====
set_option maxHeartbeats 4000000 in
theorem lw_walk (l : Launch) (hflags : l.flags = flags0) (b : Addr) (xs : List Int32) : MetFree l x (headSpec (Jvm.Cond.code x code maxLocals ret :: tables_1) room_1) (lw_P b xs) (fun _ _ _ _ _ => True) lw_Q := by
  refine MetFree.of_bodyS (code := code) (maxLocals := maxLocals) (ret := ret) (by decide) ?_ ?_
  · intro args s m h hn
    obtain ⟨meth, c, h1, h2, h3, h4, h5, h6, -, -⟩ := Cond.code_spec hn (atoms_spec (ws := Jvm.Cond.code x code maxLocals ret :: tables_1) h _ List.mem_cons_self)
    exact ⟨meth, c, h1, h2, h3, h4, h5, h6⟩
  · intro p e s m args below meth c s₁ B hml0 hP _
    obtain ⟨rfl, hx, hbd, hgv⟩ := hP
    obtain ⟨scr, harrAt, hlist, hof, hsmall⟩ := hx
    obtain ⟨hcb, hkn, -, -⟩ := State.arrayAt?_spec harrAt
    have hown : s.vm.findClass R_law = some m.cls := findClass_of_methodNamed B.named
    have hts0 : ∀ c ∈ (Jvm.Cond.code x code maxLocals ret :: tables_1), c.before #[Value.ref b] s = true := atoms_spec (ws := Jvm.Cond.code x code maxLocals ret :: tables_1) B.pre
    have hts : ∀ w ∈ lw_tbl, w.before #[Value.ref b] s = true := k2_hts_sels lw_privs (fun w hw => hts0 w (List.mem_cons_of_mem _ hw)) lw_privs_ok
    have hml : c.maxLocals = 11 := B.maxLocals_eq (hts0 _ List.mem_cons_self)
    have X₀ : Stand p l e room_1 s m #[Value.ref b] below meth c s₁ [] 0 0 := Stand.of_body B
    have hh0 : s₁.heap = s.heap := by rw [B.state]; rfl
    have hsz : scr.slots.size = xs.length := by rw [← Array.length_toList, hlist, List.length_map]
    have hval : ∀ j : Nat, j < xs.length → scr.slots[j]? = some (.int (xs.getD j 0)) := fun j hj => by
      rw [← Array.getElem?_toList, hlist]
      simp [hj]
    have hbl : b < s.heap.size := (Array.getElem?_eq_some_iff.mp hcb).1
    have hX : va_X b xs.length (fun j => xs.getD j 0) s s.heap := ⟨scr, hcb, hof, hkn, hsz, hval⟩
    have K : W p l e room_1 s m #[Value.ref b] below meth c s₁.heap [] 0 0 (lw_Z below #[Value.ref b] s) (entryFrame m ([Value.ref b] : List Value).toArray 11) := by
      rw [hh0]
      exact whole_start l hflags hbd ⟨B.exec, B.bytes, B.returns, hml, hown, hts, hX, hbl, B.notSynchronized, hgv⟩
    obtain ⟨t, a1, o, b1, b2, b3⟩ := K s₁ rfl X₀
    exact ⟨t, o, a1, b1, b2, b3⟩
theorem lw_pre_spec {args : Array Value} {s : State} (h : (Jvm.Cond.and given_1 narrow_1).before args s = true) (hr : rest_1_c.before args s = true) : ∃ (b : Addr) (xs : List Int32), lw_P b xs args s := by
  have hs := flat_of_before _ h
  have hq := flat_of_before _ hr
  have hc : (Cond.count 1).before args s = true := hs _ (by decide +kernel)
  have harr : (Cond.arrayOf (.arg 0) .int).before args s = true := hs _ (by decide +kernel)
  have hle : (Cond.le (.length (.arg 0)) (.int 260)).before args s = true := hs _ (by decide +kernel)
  have hlen : (Cond.isInt (.length (.arg 0))).before args s = true := hq _ (by decide +kernel)
  have hall : (Cond.all (.arg 0) (.isInt (.elem (.arg 0) (.index 0)))).before args s = true := hq _ (by decide +kernel)
  obtain ⟨b, xs, hb, hx⟩ := State.ints_of_pre rfl harr hlen hall
  have hsm : xs.length < 2 ^ 31 := hx.choose_spec.2.2.2
  have hev : (Term.length (.arg 0)).eval args s none [] s = some (.int xs.length.toInt32) := hx.length_eval hb
  have hv := Cond.le_ints hev (show (Term.int 260).eval args s none [] s = some (.int 260) from rfl)
  have hd : xs.length.toInt32 ≤ 260 := by
    simpa [Cond.before, Cond.holds, hv] using hle
  have hN : xs.length ≤ 260 := (Int32.ofNat_le_ofNat hsm (by decide)).mp (show Int32.ofNat xs.length ≤ Int32.ofNat 260 from hd)
  exact ⟨b, xs, Cond.one_arg hc (show args[0]? = some (.ref b) from hb), hx, hN, h⟩
theorem lw_comes (l : Launch) (hflags : l.flags = flags0) : Comes l x (Jvm.Cond.code x code maxLocals ret :: tables_1) room_1 (fun tb e args s => Calls_1 tb e args s ∧ rest_1 tb e args s ∧ Pre_1 tb e args s)
    (fun _ _ args s o t => lw_Q args s o t) := by
  intro p e ha hc hk s m args below hf hfit hheap happ hpre
  obtain ⟨b, xs, hP⟩ := lw_pre_spec hpre.2.2 hpre.2.1
  obtain ⟨k, o, h1, h2, h3, hQ⟩ := lw_walk l hflags b xs p e ha hc hk s m args below hf ((Spec.applies_iff_loose hf).mp happ).1 hP trivial
  exact ⟨k, o, h1, h2, h3, hQ⟩
theorem lw_frame {s t : State} {o : Outcome} {args : Array Value} (h : Framed s o t [] 202 7993) :
    Framed s o t (fieldLocs frame_1_writes args s ++ arrayLocs frame_1_arrays args s ++ staticLocs frame_1_statics s) 202 7993 := h
theorem lw_limb (L : Cond) (hL : ∀ (args : Array Value) (s t : State), L.after args s (.returned (some (.int 1))) t = true) :
    ArmFor flags0 classFile x code maxLocals ret World_1 tables_1 room_1 Calls_1 rest_1 Pre_1
      (fun tb e a s o t => postC L tb e a s o t ∧ Framed s o t (fieldLocs frame_1_writes a s ++ arrayLocs frame_1_arrays a s ++ staticLocs frame_1_statics s) 202 7993) := by
  intro l hflags _ _ p e ha hc hk s m args below hf hfit hheap happ hpre
  obtain ⟨k, o, h1, h2, h3, rfl, hF⟩ := lw_comes l hflags p e ha hc hk s m args below hf hfit hheap happ hpre
  exact ⟨k, _, h1, h2, h3, hL args s _, lw_frame hF⟩
theorem i_vc : Claimed_1_1 ∧ Claimed_1_2 := ⟨lw_limb limb_1_1 (fun args s t => by simp [limb_1_1, Cond.after, Cond.holds, Cond.value]), lw_limb limb_1_2 (fun args s t => Cond.after_iff.mpr (by
  first | (rw [show limb_1_2 = Cond.eq .result (.int 1) from rfl, Cond.eq_ints (x := 1) (y := 1) rfl rfl]; simp; done) | (simp [limb_1_2, Cond.value, Term.eval]; done)))⟩

