theorem ct_X0_isLoadedFor_in : ∀ w ∈ wsX00, w ∈ wsX0_isLoadedFor := by decide +kernel
set_option maxRecDepth 100000 in
set_option maxHeartbeats 4000000 in
theorem ct_X0_isLoadedFor (l : Launch) (D : va_G) (cI cZ cL : ClassId) (ad : Nat → Nat) {K T : Nat} (M : MT) (k : Nat) (x : Int32) (hI : MI K T M) (hk : k < 48) : bh_Mi l D (wh_tys cI cZ cL) yX0_isLoadedFor wsX0_isLoadedFor ({ frames := 0, cells := 0, slots := 0, locals := 0 } : Room) [.ref (ad 0), .int (nI k), .int x] (wh_hall cI cZ ad M) (fun r (_ : Unit) => r = if mq_pl M k = 8 ∧ mq_bf M k = x then 1 else 0) (fun _ => wh_hall cI cZ ad M) 0 0 := by
  refine bh_ofi (cc := cX0_isLoadedFor) (maxL := 3) (by decide +kernel) rfl (Nat.le_of_ble_eq_true rfl) ?_
  intro p e s m args below meth c A Q _ C hQ
  refine bh_eqlv (lv' := [(0, .ref (ad 0)), (1, .int (nI k)), (2, .int x)]) rfl ?_
  have hfc := MI_fc hI; have hbc := MI_bc hI; have hsc := MI_sc hI; have hnow := MI_now2 hI
  refine bh_aload_n C dX0_isLoadedFor_0 rfl 0 rfl ?_
  refine bh_get C ct_X0_isLoadedFor_in 0 rfl rfl 9 (by decide) (by decide +kernel) rfl (v := .ref (ad 9)) rfl dX0_isLoadedFor_1 ?_
  refine bh_iload_n C dX0_isLoadedFor_4 rfl 1 rfl ?_
  refine bh_iald C 7 0 (f := (mq_pl M)) rfl rfl (i := (nI k)) (vp_in_nI (n := k) (by omega) (by decide)) (x := ((mq_pl M) k)) (congrArg (mq_pl M) (nI_clamp (n := k) (by omega))) dX0_isLoadedFor_5 ?_
  refine bh_bipush (v := 8) C dX0_isLoadedFor_6 (by decide) ?_
  refine bh_icmp_ne (tgt := 25) C dX0_isLoadedFor_8 (by decide) (fun c_8 => ?_) (fun c_8 => ?_)
  · skip
    refine bh_iconst (v := 0) C dX0_isLoadedFor_25 (by decide) ?_
    exact bh_zret C hQ dX0_isLoadedFor_26 () (v := 0) (w := wh_hall cI cZ ad M) rfl rfl (Nat.le_of_ble_eq_true rfl) (Nat.le_of_ble_eq_true rfl) (by first | exact (if_pos ⟨c_8, c_18⟩).symm | exact (if_neg (fun z => c_8 z.1)).symm | exact (if_neg (fun z => c_18 z.2)).symm)
  · skip
    refine bh_aload_n C dX0_isLoadedFor_11 rfl 0 rfl ?_
    refine bh_get C ct_X0_isLoadedFor_in 0 rfl rfl 6 (by decide) (by decide +kernel) rfl (v := .ref (ad 6)) rfl dX0_isLoadedFor_12 ?_
    refine bh_iload_n C dX0_isLoadedFor_15 rfl 1 rfl ?_
    refine bh_iald C 4 0 (f := (mq_bf M)) rfl rfl (i := (nI k)) (vp_in_nI (n := k) (by omega) (by decide)) (x := ((mq_bf M) k)) (congrArg (mq_bf M) (nI_clamp (n := k) (by omega))) dX0_isLoadedFor_16 ?_
    refine bh_iload_n C dX0_isLoadedFor_17 rfl 2 rfl ?_
    refine bh_icmp_ne (tgt := 25) C dX0_isLoadedFor_18 (by decide) (fun c_18 => ?_) (fun c_18 => ?_)
    · skip
      refine bh_iconst (v := 0) C dX0_isLoadedFor_25 (by decide) ?_
      exact bh_zret C hQ dX0_isLoadedFor_26 () (v := 0) (w := wh_hall cI cZ ad M) rfl rfl (Nat.le_of_ble_eq_true rfl) (Nat.le_of_ble_eq_true rfl) (by first | exact (if_pos ⟨c_8, c_18⟩).symm | exact (if_neg (fun z => c_8 z.1)).symm | exact (if_neg (fun z => c_18 z.2)).symm)
    · skip
      refine bh_iconst (v := 1) C dX0_isLoadedFor_21 (by decide) ?_
      refine bh_goto (tgt := 26) C dX0_isLoadedFor_22 (by decide) ?_
      exact bh_zret C hQ dX0_isLoadedFor_26 () (v := 1) (w := wh_hall cI cZ ad M) rfl rfl (Nat.le_of_ble_eq_true rfl) (Nat.le_of_ble_eq_true rfl) (by first | exact (if_pos ⟨c_8, c_18⟩).symm | exact (if_neg (fun z => c_8 z.1)).symm | exact (if_neg (fun z => c_18 z.2)).symm)
theorem ct_X0_loadedBags_in : ∀ w ∈ wsX00, w ∈ wsX0_loadedBags := by decide +kernel
set_option maxRecDepth 100000 in
set_option maxHeartbeats 4000000 in
theorem ct_X0_loadedBags (l : Launch) (D : va_G) (cI cZ cL : ClassId) (ad : Nat → Nat) {K T : Nat} (M : MT) (x : Int32) (hI : MI K T M) : bh_Mi l D (wh_tys cI cZ cL) yX0_loadedBags wsX0_loadedBags ({ frames := 1, cells := 0, slots := 0, locals := 22 } : Room) [.ref (ad 0), .int x] (wh_hall cI cZ ad M) (fun r (_ : Unit) => r = nI (mo_ld M x)) (fun _ => wh_hall cI cZ ad M) 0 0 := by
  refine bh_ofi (cc := cX0_loadedBags) (maxL := 4) (by decide +kernel) rfl (Nat.le_of_ble_eq_true rfl) ?_
  intro p e s m args below meth c A Q _ C hQ
  refine bh_eqlv (lv' := [(0, .ref (ad 0)), (1, .int x)]) rfl ?_
  have hfc := MI_fc hI; have hbc := MI_bc hI; have hsc := MI_sc hI; have hnow := MI_now2 hI
  refine bh_iconst (v := 0) C dX0_loadedBags_0 (by decide) ?_
  refine bh_istore_n (lv' := [(2, .int 0), (0, .ref (ad 0)), (1, .int x)]) C dX0_loadedBags_1 rfl (by decide) rfl ?_
  refine bh_iconst (v := 0) C dX0_loadedBags_2 (by decide) ?_
  refine bh_istore_n (lv' := [(3, .int 0), (2, .int 0), (0, .ref (ad 0)), (1, .int x)]) C dX0_loadedBags_3 rfl (by decide) rfl ?_
  have loop : ∀ (n : Nat) (k : Nat), mq_bc M + 1 ≤ k + n → k ≤ mq_bc M → bh_W p l e ({ frames := 1, cells := 0, slots := 0, locals := 22 } : Room) s m args below meth c 4 D A 0 0 Q (wh_hall cI cZ ad M) ([(3, .int (nI k)), (2, .int (nI (mo_cn (fun j => decide (mq_pl M j = 8 ∧ mq_bf M j = x)) k))), (0, .ref (ad 0)), (1, .int x)]) 4 [] := by
    intro n
    induction n with
    | zero => intro k h1 h2; exact absurd h1 (by omega)
    | succ n ih =>
      intro k h1 h2
      refine bh_iload_n C dX0_loadedBags_4 rfl 0 rfl ?_
      refine bh_aload_n C dX0_loadedBags_5 rfl 2 rfl ?_
      refine bh_get C ct_X0_loadedBags_in 0 rfl rfl 5 (by decide) (by decide +kernel) rfl (v := .int (nI (mq_bc M))) rfl dX0_loadedBags_6 ?_
      refine bh_icmp_ge (tgt := 30) C dX0_loadedBags_9 (by decide) (fun c_9 => ?_) (fun c_9 => ?_)
      · skip
        have c_9 := bh_le (by omega) (by omega) c_9
        have hkb : k = mq_bc M := by omega
        refine bh_iload_n C dX0_loadedBags_30 rfl 1 rfl ?_
        exact bh_zret C hQ dX0_loadedBags_31 () (v := (nI (mo_cn (fun j => decide (mq_pl M j = 8 ∧ mq_bf M j = x)) k))) (w := wh_hall cI cZ ad M) rfl rfl (Nat.le_of_ble_eq_true rfl) (Nat.le_of_ble_eq_true rfl) (by rw [hkb]; rfl)
      · skip
        have c_9 := bh_nle2 (by omega) (by omega) c_9
        refine bh_aload_n C dX0_loadedBags_12 rfl 2 rfl ?_
        refine bh_iload_n C dX0_loadedBags_13 rfl 0 rfl ?_
        refine bh_iload_n C dX0_loadedBags_14 rfl 3 rfl ?_
        refine bh_calli_0 (As := [.int (nI k), .int x]) C (ct_X0_isLoadedFor l D cI cZ cL ad M k x hI (by omega)) (cwV 2 C.1.2.2.2.2 gX0_loadedBags_X0_isLoadedFor rfl rfl rfl (by decide +kernel) ⟨Nat.le_of_ble_eq_true rfl, Nat.le_of_ble_eq_true rfl⟩) (ci := 0) rfl 0 rfl rfl rfl (Nat.le_of_ble_eq_true rfl) dX0_loadedBags_15 ⟨Nat.le_of_ble_eq_true rfl, Nat.le_of_ble_eq_true rfl⟩ (fun r_15 u_15 hp_15 => ?_)
        subst hp_15
        refine bh_if_eq (tgt := 24) C dX0_loadedBags_18 (by decide) (fun c_18 => ?_) (fun c_18 => ?_)
        · skip
          replace c_18 := bh_eq0 c_18
          refine bh_iinc (v := (nI (k + 1))) (lv' := [(3, .int (nI (k + 1))), (2, .int (nI (mo_cn (fun j => decide (mq_pl M j = 8 ∧ mq_bf M j = x)) k))), (0, .ref (ad 0)), (1, .int x)]) C dX0_loadedBags_24 (k := 0) rfl (nI_1 _) (by decide) rfl ?_
          refine bh_goto (tgt := 4) C dX0_loadedBags_27 (by decide) ?_
          refine bh_eqlv (lv' := [(3, .int (nI (k + 1))), (2, .int (nI (mo_cn (fun j => decide (mq_pl M j = 8 ∧ mq_bf M j = x)) (k + 1)))), (0, .ref (ad 0)), (1, .int x)]) (by rw [bh_cn0 (f := (fun j => decide (mq_pl M j = 8 ∧ mq_bf M j = x))) (decide_eq_false c_18)]) ?_
          exact bh_lv [0, 1, 2, 3] rfl (ih (k + 1) (by omega) (by omega))
        · skip
          replace c_18 := bh_ne0 c_18
          refine bh_iinc (v := (nI ((mo_cn (fun j => decide (mq_pl M j = 8 ∧ mq_bf M j = x)) k) + 1))) (lv' := [(2, .int (nI ((mo_cn (fun j => decide (mq_pl M j = 8 ∧ mq_bf M j = x)) k) + 1))), (3, .int (nI k)), (0, .ref (ad 0)), (1, .int x)]) C dX0_loadedBags_21 (k := 1) rfl (nI_1 _) (by decide) rfl ?_
          refine bh_iinc (v := (nI (k + 1))) (lv' := [(3, .int (nI (k + 1))), (2, .int (nI ((mo_cn (fun j => decide (mq_pl M j = 8 ∧ mq_bf M j = x)) k) + 1))), (0, .ref (ad 0)), (1, .int x)]) C dX0_loadedBags_24 (k := 1) rfl (nI_1 _) (by decide) rfl ?_
          refine bh_goto (tgt := 4) C dX0_loadedBags_27 (by decide) ?_
          refine bh_eqlv (lv' := [(3, .int (nI (k + 1))), (2, .int (nI (mo_cn (fun j => decide (mq_pl M j = 8 ∧ mq_bf M j = x)) (k + 1)))), (0, .ref (ad 0)), (1, .int x)]) (by rw [bh_cn1 (f := (fun j => decide (mq_pl M j = 8 ∧ mq_bf M j = x))) (decide_eq_true c_18)]) ?_
          exact bh_lv [0, 1, 2, 3] rfl (ih (k + 1) (by omega) (by omega))
  exact bh_lv [0, 1, 2, 3] rfl (loop (mq_bc M + 1) 0 (by omega) (by omega))
theorem ct_X0_mayFly_in : ∀ w ∈ wsX00, w ∈ wsX0_mayFly := by decide +kernel
set_option maxRecDepth 100000 in
set_option maxHeartbeats 4000000 in
theorem ct_X0_mayFly (l : Launch) (D : va_G) (cI cZ cL : ClassId) (ad : Nat → Nat) {K T : Nat} (M : MT) (k : Nat) (hI : MI K T M) (hk : k < 48) : bh_Mi l D (wh_tys cI cZ cL) yX0_mayFly wsX0_mayFly ({ frames := 0, cells := 0, slots := 0, locals := 0 } : Room) [.ref (ad 0), .int (nI k)] (wh_hall cI cZ ad M) (fun r (_ : Unit) => r = if mo_fly M k then 1 else 0) (fun _ => wh_hall cI cZ ad M) 0 0 := by
  refine bh_ofi (cc := cX0_mayFly) (maxL := 2) (by decide +kernel) rfl (Nat.le_of_ble_eq_true rfl) ?_
  intro p e s m args below meth c A Q _ C hQ
  refine bh_eqlv (lv' := [(0, .ref (ad 0)), (1, .int (nI k))]) rfl ?_
  have hfc := MI_fc hI; have hbc := MI_bc hI; have hsc := MI_sc hI; have hnow := MI_now2 hI
  refine bh_aload_n C dX0_mayFly_0 rfl 0 rfl ?_
  refine bh_get C ct_X0_mayFly_in 0 rfl rfl 8 (by decide) (by decide +kernel) rfl (v := .ref (ad 8)) rfl dX0_mayFly_1 ?_
  refine bh_iload_n C dX0_mayFly_4 rfl 1 rfl ?_
  refine bh_zald C 6 1 (f := (mq_pu M)) rfl rfl (i := (nI k)) (vp_in_nI (n := k) (by omega) (by decide)) (x := ((mq_pu M) k)) (congrArg (mq_pu M) (nI_clamp (n := k) (by omega))) dX0_mayFly_5 ?_
  refine bh_if_ne (tgt := 23) C dX0_mayFly_6 (by decide) (fun c_6 => ?_) (fun c_6 => ?_)
  · skip
    refine bh_iconst (v := 1) C dX0_mayFly_23 (by decide) ?_
    refine bh_goto (tgt := 28) C dX0_mayFly_24 (by decide) ?_
    exact bh_zret C hQ dX0_mayFly_28 () (v := 1) (w := wh_hall cI cZ ad M) rfl rfl (Nat.le_of_ble_eq_true rfl) (Nat.le_of_ble_eq_true rfl) (by first | exact (if_pos (Or.inl c_6)).symm | exact (if_pos (Or.inr c_20)).symm | exact (if_neg (fun z => z.elim (fun q => q c_6) (fun q => q c_20))).symm)
  · skip
    refine bh_aload_n C dX0_mayFly_9 rfl 0 rfl ?_
    refine bh_get C ct_X0_mayFly_in 0 rfl rfl 4 (by decide) (by decide +kernel) rfl (v := .ref (ad 4)) rfl dX0_mayFly_10 ?_
    refine bh_aload_n C dX0_mayFly_13 rfl 0 rfl ?_
    refine bh_get C ct_X0_mayFly_in 0 rfl rfl 7 (by decide) (by decide +kernel) rfl (v := .ref (ad 7)) rfl dX0_mayFly_14 ?_
    refine bh_iload_n C dX0_mayFly_17 rfl 1 rfl ?_
    refine bh_iald C 5 0 (f := (mq_br M)) rfl rfl (i := (nI k)) (vp_in_nI (n := k) (by omega) (by decide)) (x := ((mq_br M) k)) (congrArg (mq_br M) (nI_clamp (n := k) (by omega))) dX0_mayFly_18 ?_
    refine bh_zald C 3 1 (f := (mq_brd M)) rfl rfl (i := ((mq_br M) k)) (MI_br hI _) (x := ((mq_brd M) ((mq_br M) k).toNatClampNeg)) rfl dX0_mayFly_19 ?_
    refine bh_if_eq (tgt := 27) C dX0_mayFly_20 (by decide) (fun c_20 => ?_) (fun c_20 => ?_)
    · skip
      refine bh_iconst (v := 0) C dX0_mayFly_27 (by decide) ?_
      exact bh_zret C hQ dX0_mayFly_28 () (v := 0) (w := wh_hall cI cZ ad M) rfl rfl (Nat.le_of_ble_eq_true rfl) (Nat.le_of_ble_eq_true rfl) (by first | exact (if_pos (Or.inl c_6)).symm | exact (if_pos (Or.inr c_20)).symm | exact (if_neg (fun z => z.elim (fun q => q c_6) (fun q => q c_20))).symm)
    · skip
      refine bh_iconst (v := 1) C dX0_mayFly_23 (by decide) ?_
      refine bh_goto (tgt := 28) C dX0_mayFly_24 (by decide) ?_
      exact bh_zret C hQ dX0_mayFly_28 () (v := 1) (w := wh_hall cI cZ ad M) rfl rfl (Nat.le_of_ble_eq_true rfl) (Nat.le_of_ble_eq_true rfl) (by first | exact (if_pos (Or.inl c_6)).symm | exact (if_pos (Or.inr c_20)).symm | exact (if_neg (fun z => z.elim (fun q => q c_6) (fun q => q c_20))).symm)
set_option maxRecDepth 100000 in
set_option maxHeartbeats 4000000 in
theorem ct_X0_decisionTime (l : Launch) (D : va_G) (cI cZ cL : ClassId) (ad : Nat → Nat) (x : Int32)  : bh_Mi l D (wh_tys cI cZ cL) yX0_decisionTime wsX0_decisionTime ({ frames := 0, cells := 0, slots := 0, locals := 0 } : Room) [.int x] ([]) (fun r (_ : Unit) => r = mo_dt x) (fun _ => []) 0 0 := by
  refine bh_ofi (cc := cX0_decisionTime) (maxL := 1) (by decide +kernel) rfl (Nat.le_of_ble_eq_true rfl) ?_
  intro p e s m args below meth c A Q _ C hQ
  refine bh_eqlv (lv' := [(0, .int x)]) rfl ?_
  refine bh_iload_n C dX0_decisionTime_0 rfl 0 rfl ?_
  refine bh_iconst (v := 1) C dX0_decisionTime_1 (by decide) ?_
  refine bh_icmp_ne (tgt := 7) C dX0_decisionTime_2 (by decide) (fun c_2 => ?_) (fun c_2 => ?_)
  · skip
    refine bh_iload_n C dX0_decisionTime_7 rfl 0 rfl ?_
    refine bh_iconst (v := 2) C dX0_decisionTime_8 (by decide) ?_
    refine bh_icmp_ne (tgt := 16) C dX0_decisionTime_9 (by decide) (fun c_9 => ?_) (fun c_9 => ?_)
    · skip
      refine bh_bipush (v := 10) C dX0_decisionTime_16 (by decide) ?_
      exact bh_zret C hQ dX0_decisionTime_18 () (v := 10) (w := []) rfl rfl (Nat.le_of_ble_eq_true rfl) (Nat.le_of_ble_eq_true rfl) (by unfold mo_dt; first | exact (if_pos c_2).symm | exact ((if_neg c_2).trans (if_pos c_9)).symm | exact ((if_neg c_2).trans (if_neg c_9)).symm)
    · skip
      refine bh_iconst (v := 4) C dX0_decisionTime_12 (by decide) ?_
      refine bh_goto (tgt := 18) C dX0_decisionTime_13 (by decide) ?_
      exact bh_zret C hQ dX0_decisionTime_18 () (v := 4) (w := []) rfl rfl (Nat.le_of_ble_eq_true rfl) (Nat.le_of_ble_eq_true rfl) (by unfold mo_dt; first | exact (if_pos c_2).symm | exact ((if_neg c_2).trans (if_pos c_9)).symm | exact ((if_neg c_2).trans (if_neg c_9)).symm)
  · skip
    refine bh_iconst (v := 2) C dX0_decisionTime_5 (by decide) ?_
    exact bh_zret C hQ dX0_decisionTime_6 () (v := 2) (w := []) rfl rfl (Nat.le_of_ble_eq_true rfl) (Nat.le_of_ble_eq_true rfl) (by unfold mo_dt; first | exact (if_pos c_2).symm | exact ((if_neg c_2).trans (if_pos c_9)).symm | exact ((if_neg c_2).trans (if_neg c_9)).symm)
set_option maxRecDepth 100000 in
set_option maxHeartbeats 4000000 in
theorem ct_X0_nextLevel (l : Launch) (D : va_G) (cI cZ cL : ClassId) (ad : Nat → Nat) (x : Int32)  : bh_Mi l D (wh_tys cI cZ cL) yX0_nextLevel wsX0_nextLevel ({ frames := 0, cells := 0, slots := 0, locals := 0 } : Room) [.int x] ([]) (fun r (_ : Unit) => r = mo_nx x) (fun _ => []) 0 0 := by
  refine bh_ofi (cc := cX0_nextLevel) (maxL := 1) (by decide +kernel) rfl (Nat.le_of_ble_eq_true rfl) ?_
  intro p e s m args below meth c A Q _ C hQ
  refine bh_eqlv (lv' := [(0, .int x)]) rfl ?_
  refine bh_iload_n C dX0_nextLevel_0 rfl 0 rfl ?_
  refine bh_iconst (v := 1) C dX0_nextLevel_1 (by decide) ?_
  refine bh_icmp_ne (tgt := 7) C dX0_nextLevel_2 (by decide) (fun c_2 => ?_) (fun c_2 => ?_)
  · skip
    refine bh_iload_n C dX0_nextLevel_7 rfl 0 rfl ?_
    refine bh_iconst (v := 2) C dX0_nextLevel_8 (by decide) ?_
    refine bh_icmp_ne (tgt := 16) C dX0_nextLevel_9 (by decide) (fun c_9 => ?_) (fun c_9 => ?_)
    · skip
      refine bh_iconst (v := 4) C dX0_nextLevel_16 (by decide) ?_
      exact bh_zret C hQ dX0_nextLevel_17 () (v := 4) (w := []) rfl rfl (Nat.le_of_ble_eq_true rfl) (Nat.le_of_ble_eq_true rfl) (by unfold mo_nx; first | exact (if_pos c_2).symm | exact ((if_neg c_2).trans (if_pos c_9)).symm | exact ((if_neg c_2).trans (if_neg c_9)).symm)
    · skip
      refine bh_iconst (v := 3) C dX0_nextLevel_12 (by decide) ?_
      refine bh_goto (tgt := 17) C dX0_nextLevel_13 (by decide) ?_
      exact bh_zret C hQ dX0_nextLevel_17 () (v := 3) (w := []) rfl rfl (Nat.le_of_ble_eq_true rfl) (Nat.le_of_ble_eq_true rfl) (by unfold mo_nx; first | exact (if_pos c_2).symm | exact ((if_neg c_2).trans (if_pos c_9)).symm | exact ((if_neg c_2).trans (if_neg c_9)).symm)
  · skip
    refine bh_iconst (v := 2) C dX0_nextLevel_5 (by decide) ?_
    exact bh_zret C hQ dX0_nextLevel_6 () (v := 2) (w := []) rfl rfl (Nat.le_of_ble_eq_true rfl) (Nat.le_of_ble_eq_true rfl) (by unfold mo_nx; first | exact (if_pos c_2).symm | exact ((if_neg c_2).trans (if_pos c_9)).symm | exact ((if_neg c_2).trans (if_neg c_9)).symm)
theorem ct_X0_scan_in : ∀ w ∈ wsX00, w ∈ wsX0_scan := by decide +kernel
set_option maxRecDepth 100000 in
set_option maxHeartbeats 4000000 in
theorem ct_X0_scan (l : Launch) (D : va_G) (cI cZ cL : ClassId) (ad : Nat → Nat) (M : MT) (k : Nat) (v0 : Int32) (hsc : mq_sc M < 2048) : bh_Mv l D (wh_tys cI cZ cL) yX0_scan wsX0_scan ({ frames := 0, cells := 0, slots := 0, locals := 0 } : Room) [.ref (ad 0), .int (nI k), .int v0] (wh_hall cI cZ ad M) (fun (_ : Unit) => True) (fun _ => wh_hallX cI cZ ad (mq_now M) (mq_fc M) (mq_bc M) (mq_sc M + 1) (mq_dep M) (mq_lat M) (mq_brd M) (mq_bf M) (mq_br M) (mq_pu M) (mq_pl M) (mq_ls M) (mq_ca M) (mq_at M) (upd (mq_sb M) (mq_sc M) (nI k)) (upd (mq_sp M) (mq_sc M) v0) (upd (mq_st M) (mq_sc M) (nI (mq_now M)))) 0 0 := by
  refine bh_ofv (cc := cX0_scan) (maxL := 3) (by decide +kernel) rfl (Nat.le_of_ble_eq_true rfl) ?_
  intro p e s m args below meth c A Q _ C hQ
  refine bh_eqlv (lv' := [(0, .ref (ad 0)), (1, .int (nI k)), (2, .int v0)]) rfl ?_
  refine bh_aload_n C dX0_scan_0 rfl 0 rfl ?_
  refine bh_get C ct_X0_scan_in 0 rfl rfl 13 (by decide) (by decide +kernel) rfl (v := .int (nI (mq_sc M))) rfl dX0_scan_1 ?_
  refine bh_sipush (v := 2048) C dX0_scan_4 (by decide) ?_
  refine bh_icmp_lt (tgt := 11) C dX0_scan_7 (by decide) (fun c_7 => ?_) (fun c_7 => absurd (nI_lt (b := 2048) hsc (by decide)) c_7)
  refine bh_aload_n C dX0_scan_11 rfl 0 rfl ?_
  refine bh_get C ct_X0_scan_in 0 rfl rfl 14 (by decide) (by decide +kernel) rfl (v := .ref (ad 14)) rfl dX0_scan_12 ?_
  refine bh_aload_n C dX0_scan_15 rfl 0 rfl ?_
  refine bh_get C ct_X0_scan_in 0 rfl rfl 13 (by decide) (by decide +kernel) rfl (v := .int (nI (mq_sc M))) rfl dX0_scan_16 ?_
  refine bh_iload_n C dX0_scan_19 rfl 1 rfl ?_
  refine bh_eqw (w' := wh_hallX cI cZ ad (mq_now M) (mq_fc M) (mq_bc M) (mq_sc M) (mq_dep M) (mq_lat M) (mq_brd M) (mq_bf M) (mq_br M) (mq_pu M) (mq_pl M) (mq_ls M) (mq_ca M) (mq_at M) (mq_sb M) (mq_sp M) (mq_st M)) rfl ?_
  refine bh_iast (w' := wh_hallX cI cZ ad (mq_now M) (mq_fc M) (mq_bc M) (mq_sc M) (mq_dep M) (mq_lat M) (mq_brd M) (mq_bf M) (mq_br M) (mq_pu M) (mq_pl M) (mq_ls M) (mq_ca M) (mq_at M) (upd (mq_sb M) ((mq_sc M)) (nI k)) (mq_sp M) (mq_st M)) C 11 0 rfl rfl (vp_in_nI (n := (mq_sc M)) (by omega) (by decide)) dX0_scan_20 (by rw [nI_clamp (n := (mq_sc M)) (by omega)]; rfl) ?_
  refine bh_aload_n C dX0_scan_21 rfl 0 rfl ?_
  refine bh_get C ct_X0_scan_in 0 rfl rfl 15 (by decide) (by decide +kernel) rfl (v := .ref (ad 15)) rfl dX0_scan_22 ?_
  refine bh_aload_n C dX0_scan_25 rfl 0 rfl ?_
  refine bh_get C ct_X0_scan_in 0 rfl rfl 13 (by decide) (by decide +kernel) rfl (v := .int (nI (mq_sc M))) rfl dX0_scan_26 ?_
  refine bh_iload_n C dX0_scan_29 rfl 2 rfl ?_
  refine bh_iast (w' := wh_hallX cI cZ ad (mq_now M) (mq_fc M) (mq_bc M) (mq_sc M) (mq_dep M) (mq_lat M) (mq_brd M) (mq_bf M) (mq_br M) (mq_pu M) (mq_pl M) (mq_ls M) (mq_ca M) (mq_at M) (upd (mq_sb M) ((mq_sc M)) (nI k)) (upd (mq_sp M) ((mq_sc M)) v0) (mq_st M)) C 12 0 rfl rfl (vp_in_nI (n := (mq_sc M)) (by omega) (by decide)) dX0_scan_30 (by rw [nI_clamp (n := (mq_sc M)) (by omega)]; rfl) ?_
  refine bh_aload_n C dX0_scan_31 rfl 0 rfl ?_
  refine bh_get C ct_X0_scan_in 0 rfl rfl 16 (by decide) (by decide +kernel) rfl (v := .ref (ad 16)) rfl dX0_scan_32 ?_
  refine bh_aload_n C dX0_scan_35 rfl 0 rfl ?_
  refine bh_get C ct_X0_scan_in 0 rfl rfl 13 (by decide) (by decide +kernel) rfl (v := .int (nI (mq_sc M))) rfl dX0_scan_36 ?_
  refine bh_aload_n C dX0_scan_39 rfl 0 rfl ?_
  refine bh_get C ct_X0_scan_in 0 rfl rfl 0 (by decide) (by decide +kernel) rfl (v := .int (nI (mq_now M))) rfl dX0_scan_40 ?_
  refine bh_iast (w' := wh_hallX cI cZ ad (mq_now M) (mq_fc M) (mq_bc M) (mq_sc M) (mq_dep M) (mq_lat M) (mq_brd M) (mq_bf M) (mq_br M) (mq_pu M) (mq_pl M) (mq_ls M) (mq_ca M) (mq_at M) (upd (mq_sb M) ((mq_sc M)) (nI k)) (upd (mq_sp M) ((mq_sc M)) v0) (upd (mq_st M) ((mq_sc M)) (nI (mq_now M)))) C 13 0 rfl rfl (vp_in_nI (n := (mq_sc M)) (by omega) (by decide)) dX0_scan_43 (by rw [nI_clamp (n := (mq_sc M)) (by omega)]; rfl) ?_
  refine bh_aload_n C dX0_scan_44 rfl 0 rfl ?_
  refine bh_dup C dX0_scan_45 rfl ?_
  refine bh_get C ct_X0_scan_in 0 rfl rfl 13 (by decide) (by decide +kernel) rfl (v := .int (nI (mq_sc M))) rfl dX0_scan_46 ?_
  refine bh_iconst (v := 1) C dX0_scan_49 (by decide) ?_
  refine bh_iadd C dX0_scan_50 ?_
  refine bh_topi (nI_1 _) ?_
  refine bh_put (ty := .int) (v := .int (nI ((mq_sc M) + 1))) (w' := wh_hallX cI cZ ad (mq_now M) (mq_fc M) (mq_bc M) (((mq_sc M) + 1)) (mq_dep M) (mq_lat M) (mq_brd M) (mq_bf M) (mq_br M) (mq_pu M) (mq_pl M) (mq_ls M) (mq_ca M) (mq_at M) (upd (mq_sb M) ((mq_sc M)) (nI k)) (upd (mq_sp M) ((mq_sc M)) v0) (upd (mq_st M) ((mq_sc M)) (nI (mq_now M)))) C ct_X0_scan_in tyX0 tyX0_ok nmX0 0 rfl rfl 13 (by decide) (by decide +kernel) rfl rfl (by decide +kernel) rfl rfl (Nat.le_of_ble_eq_true rfl) dX0_scan_51 rfl ?_
  exact bh_vret C hQ dX0_scan_54 () (w := wh_hallX cI cZ ad (mq_now M) (mq_fc M) (mq_bc M) (((mq_sc M) + 1)) (mq_dep M) (mq_lat M) (mq_brd M) (mq_bf M) (mq_br M) (mq_pu M) (mq_pl M) (mq_ls M) (mq_ca M) (mq_at M) (upd (mq_sb M) ((mq_sc M)) (nI k)) (upd (mq_sp M) ((mq_sc M)) v0) (upd (mq_st M) ((mq_sc M)) (nI (mq_now M)))) rfl (Nat.le_of_ble_eq_true rfl) (Nat.le_of_ble_eq_true rfl) trivial
theorem ct_X0_bring_in : ∀ w ∈ wsX00, w ∈ wsX0_bring := by decide +kernel
set_option maxRecDepth 100000 in
set_option maxHeartbeats 4000000 in
theorem ct_X0_bring (l : Launch) (D : va_G) (cI cZ cL : ClassId) (ad : Nat → Nat) (M : MT) (k : Nat) (v0 : Int32) (hk : k < 48) (hp : vp_in v0 12) (hpl : vp_in (mq_pl M k) 12) (hsc : mq_sc M < 2048) : bh_Mv l D (wh_tys cI cZ cL) yX0_bring wsX0_bring ({ frames := 1, cells := 0, slots := 0, locals := 22 } : Room) [.ref (ad 0), .int (nI k), .int v0] (wh_hall cI cZ ad M) (fun (_ : Unit) => True) (fun _ => wh_hall cI cZ ad (mo_bring M k v0)) 0 0 := by
  refine bh_ofv (cc := cX0_bring) (maxL := 3) (by decide +kernel) rfl (Nat.le_of_ble_eq_true rfl) ?_
  intro p e s m args below meth c A Q _ C hQ
  refine bh_eqlv (lv' := [(0, .ref (ad 0)), (1, .int (nI k)), (2, .int v0)]) rfl ?_
  have hpl2 := hpl
  refine bh_aload_n C dX0_bring_0 rfl 0 rfl ?_
  refine bh_get C ct_X0_bring_in 0 rfl rfl 12 (by decide) (by decide +kernel) rfl (v := .ref (ad 12)) rfl dX0_bring_1 ?_
  refine bh_aload_n C dX0_bring_4 rfl 0 rfl ?_
  refine bh_get C ct_X0_bring_in 0 rfl rfl 9 (by decide) (by decide +kernel) rfl (v := .ref (ad 9)) rfl dX0_bring_5 ?_
  refine bh_iload_n C dX0_bring_8 rfl 1 rfl ?_
  refine bh_iald C 7 0 (f := (mq_pl M)) rfl rfl (i := (nI k)) (vp_in_nI (n := k) (by omega) (by decide)) (x := ((mq_pl M) k)) (congrArg (mq_pl M) (nI_clamp (n := k) (by omega))) dX0_bring_9 ?_
  refine bh_dup2 C dX0_bring_10 rfl rfl ?_
  refine bh_iald C 10 0 (f := (mq_at M)) rfl rfl (i := ((mq_pl M) k)) hpl (x := ((mq_at M) ((mq_pl M) k).toNatClampNeg)) rfl dX0_bring_11 ?_
  refine bh_iconst (v := 1) C dX0_bring_12 (by decide) ?_
  refine bh_isub C dX0_bring_13 ?_
  refine bh_eqw (w' := wh_hallX cI cZ ad (mq_now M) (mq_fc M) (mq_bc M) (mq_sc M) (mq_dep M) (mq_lat M) (mq_brd M) (mq_bf M) (mq_br M) (mq_pu M) (mq_pl M) (mq_ls M) (mq_ca M) (mq_at M) (mq_sb M) (mq_sp M) (mq_st M)) rfl ?_
  refine bh_iast (w' := wh_hallX cI cZ ad (mq_now M) (mq_fc M) (mq_bc M) (mq_sc M) (mq_dep M) (mq_lat M) (mq_brd M) (mq_bf M) (mq_br M) (mq_pu M) (mq_pl M) (mq_ls M) (mq_ca M) (upd (mq_at M) ((mq_pl M) k).toNatClampNeg (((mq_at M) ((mq_pl M) k).toNatClampNeg) - 1)) (mq_sb M) (mq_sp M) (mq_st M)) C 10 0 rfl rfl hpl dX0_bring_14 rfl ?_
  refine bh_aload_n C dX0_bring_15 rfl 0 rfl ?_
  refine bh_get C ct_X0_bring_in 0 rfl rfl 12 (by decide) (by decide +kernel) rfl (v := .ref (ad 12)) rfl dX0_bring_16 ?_
  refine bh_iload_n C dX0_bring_19 rfl 2 rfl ?_
  refine bh_dup2 C dX0_bring_20 rfl rfl ?_
  refine bh_iald C 10 0 (f := (upd (mq_at M) ((mq_pl M) k).toNatClampNeg (((mq_at M) ((mq_pl M) k).toNatClampNeg) - 1))) rfl rfl (i := v0) hp (x := ((upd (mq_at M) ((mq_pl M) k).toNatClampNeg (((mq_at M) ((mq_pl M) k).toNatClampNeg) - 1)) v0.toNatClampNeg)) rfl dX0_bring_21 ?_
  refine bh_iconst (v := 1) C dX0_bring_22 (by decide) ?_
  refine bh_iadd C dX0_bring_23 ?_
  refine bh_iast (w' := wh_hallX cI cZ ad (mq_now M) (mq_fc M) (mq_bc M) (mq_sc M) (mq_dep M) (mq_lat M) (mq_brd M) (mq_bf M) (mq_br M) (mq_pu M) (mq_pl M) (mq_ls M) (mq_ca M) (upd (upd (mq_at M) ((mq_pl M) k).toNatClampNeg (((mq_at M) ((mq_pl M) k).toNatClampNeg) - 1)) v0.toNatClampNeg (((upd (mq_at M) ((mq_pl M) k).toNatClampNeg (((mq_at M) ((mq_pl M) k).toNatClampNeg) - 1)) v0.toNatClampNeg) + 1)) (mq_sb M) (mq_sp M) (mq_st M)) C 10 0 rfl rfl hp dX0_bring_24 rfl ?_
  refine bh_aload_n C dX0_bring_25 rfl 0 rfl ?_
  refine bh_get C ct_X0_bring_in 0 rfl rfl 9 (by decide) (by decide +kernel) rfl (v := .ref (ad 9)) rfl dX0_bring_26 ?_
  refine bh_iload_n C dX0_bring_29 rfl 1 rfl ?_
  refine bh_iload_n C dX0_bring_30 rfl 2 rfl ?_
  refine bh_iast (w' := wh_hallX cI cZ ad (mq_now M) (mq_fc M) (mq_bc M) (mq_sc M) (mq_dep M) (mq_lat M) (mq_brd M) (mq_bf M) (mq_br M) (mq_pu M) (upd (mq_pl M) (k) v0) (mq_ls M) (mq_ca M) (upd (upd (mq_at M) ((mq_pl M) k).toNatClampNeg (((mq_at M) ((mq_pl M) k).toNatClampNeg) - 1)) v0.toNatClampNeg (((upd (mq_at M) ((mq_pl M) k).toNatClampNeg (((mq_at M) ((mq_pl M) k).toNatClampNeg) - 1)) v0.toNatClampNeg) + 1)) (mq_sb M) (mq_sp M) (mq_st M)) C 7 0 rfl rfl (vp_in_nI (n := k) (by omega) (by decide)) dX0_bring_31 (by rw [nI_clamp (n := k) (by omega)]; rfl) ?_
  refine bh_aload_n C dX0_bring_32 rfl 0 rfl ?_
  refine bh_get C ct_X0_bring_in 0 rfl rfl 11 (by decide) (by decide +kernel) rfl (v := .ref (ad 11)) rfl dX0_bring_33 ?_
  refine bh_iload_n C dX0_bring_36 rfl 1 rfl ?_
  refine bh_aload_n C dX0_bring_37 rfl 0 rfl ?_
  refine bh_get C ct_X0_bring_in 0 rfl rfl 0 (by decide) (by decide +kernel) rfl (v := .int (nI (mq_now M))) rfl dX0_bring_38 ?_
  refine bh_iast (w' := wh_hallX cI cZ ad (mq_now M) (mq_fc M) (mq_bc M) (mq_sc M) (mq_dep M) (mq_lat M) (mq_brd M) (mq_bf M) (mq_br M) (mq_pu M) (upd (mq_pl M) (k) v0) (mq_ls M) (upd (mq_ca M) (k) (nI (mq_now M))) (upd (upd (mq_at M) ((mq_pl M) k).toNatClampNeg (((mq_at M) ((mq_pl M) k).toNatClampNeg) - 1)) v0.toNatClampNeg (((upd (mq_at M) ((mq_pl M) k).toNatClampNeg (((mq_at M) ((mq_pl M) k).toNatClampNeg) - 1)) v0.toNatClampNeg) + 1)) (mq_sb M) (mq_sp M) (mq_st M)) C 9 0 rfl rfl (vp_in_nI (n := k) (by omega) (by decide)) dX0_bring_41 (by rw [nI_clamp (n := k) (by omega)]; rfl) ?_
  refine bh_aload_n C dX0_bring_42 rfl 0 rfl ?_
  refine bh_get C ct_X0_bring_in 0 rfl rfl 10 (by decide) (by decide +kernel) rfl (v := .ref (ad 10)) rfl dX0_bring_43 ?_
  refine bh_iload_n C dX0_bring_46 rfl 1 rfl ?_
  refine bh_aload_n C dX0_bring_47 rfl 0 rfl ?_
  refine bh_get C ct_X0_bring_in 0 rfl rfl 13 (by decide) (by decide +kernel) rfl (v := .int (nI (mq_sc M))) rfl dX0_bring_48 ?_
  refine bh_iast (w' := wh_hallX cI cZ ad (mq_now M) (mq_fc M) (mq_bc M) (mq_sc M) (mq_dep M) (mq_lat M) (mq_brd M) (mq_bf M) (mq_br M) (mq_pu M) (upd (mq_pl M) (k) v0) (upd (mq_ls M) (k) (nI (mq_sc M))) (upd (mq_ca M) (k) (nI (mq_now M))) (upd (upd (mq_at M) ((mq_pl M) k).toNatClampNeg (((mq_at M) ((mq_pl M) k).toNatClampNeg) - 1)) v0.toNatClampNeg (((upd (mq_at M) ((mq_pl M) k).toNatClampNeg (((mq_at M) ((mq_pl M) k).toNatClampNeg) - 1)) v0.toNatClampNeg) + 1)) (mq_sb M) (mq_sp M) (mq_st M)) C 8 0 rfl rfl (vp_in_nI (n := k) (by omega) (by decide)) dX0_bring_51 (by rw [nI_clamp (n := k) (by omega)]; rfl) ?_
  refine bh_aload_n C dX0_bring_52 rfl 0 rfl ?_
  refine bh_iload_n C dX0_bring_53 rfl 1 rfl ?_
  refine bh_iload_n C dX0_bring_54 rfl 2 rfl ?_
  refine bh_eqw (w' := wh_hall cI cZ ad ((mq_now M), (mq_fc M), (mq_bc M), (mq_sc M), (mq_dep M), (mq_lat M), (mq_brd M), (mq_bf M), (mq_br M), (mq_pu M), (upd (mq_pl M) (k) v0), (upd (mq_ls M) (k) (nI (mq_sc M))), (upd (mq_ca M) (k) (nI (mq_now M))), (upd (upd (mq_at M) ((mq_pl M) k).toNatClampNeg (((mq_at M) ((mq_pl M) k).toNatClampNeg) - 1)) v0.toNatClampNeg (((upd (mq_at M) ((mq_pl M) k).toNatClampNeg (((mq_at M) ((mq_pl M) k).toNatClampNeg) - 1)) v0.toNatClampNeg) + 1)), (mq_sb M), (mq_sp M), (mq_st M))) rfl ?_
  refine bh_callv_0 (As := [.int (nI k), .int v0]) C (ct_X0_scan l D cI cZ cL ad ((mq_now M), (mq_fc M), (mq_bc M), (mq_sc M), (mq_dep M), (mq_lat M), (mq_brd M), (mq_bf M), (mq_br M), (mq_pu M), (upd (mq_pl M) (k) v0), (upd (mq_ls M) (k) (nI (mq_sc M))), (upd (mq_ca M) (k) (nI (mq_now M))), (upd (upd (mq_at M) ((mq_pl M) k).toNatClampNeg (((mq_at M) ((mq_pl M) k).toNatClampNeg) - 1)) v0.toNatClampNeg (((upd (mq_at M) ((mq_pl M) k).toNatClampNeg (((mq_at M) ((mq_pl M) k).toNatClampNeg) - 1)) v0.toNatClampNeg) + 1)), (mq_sb M), (mq_sp M), (mq_st M)) k v0 hsc) (cwV 2 C.1.2.2.2.2 gX0_bring_X0_scan rfl rfl rfl (by decide +kernel) ⟨Nat.le_of_ble_eq_true rfl, Nat.le_of_ble_eq_true rfl⟩) (ci := 0) rfl 0 rfl rfl rfl (Nat.le_of_ble_eq_true rfl) dX0_bring_55 ⟨Nat.le_of_ble_eq_true rfl, Nat.le_of_ble_eq_true rfl⟩ (fun u_55 hp_55 => ?_)
  refine bh_eqw (w' := wh_hallX cI cZ ad (mq_now M) (mq_fc M) (mq_bc M) ((mq_sc M) + 1) (mq_dep M) (mq_lat M) (mq_brd M) (mq_bf M) (mq_br M) (mq_pu M) (upd (mq_pl M) (k) v0) (upd (mq_ls M) (k) (nI (mq_sc M))) (upd (mq_ca M) (k) (nI (mq_now M))) (upd (upd (mq_at M) ((mq_pl M) k).toNatClampNeg (((mq_at M) ((mq_pl M) k).toNatClampNeg) - 1)) v0.toNatClampNeg (((upd (mq_at M) ((mq_pl M) k).toNatClampNeg (((mq_at M) ((mq_pl M) k).toNatClampNeg) - 1)) v0.toNatClampNeg) + 1)) (upd (mq_sb M) (mq_sc M) (nI k)) (upd (mq_sp M) (mq_sc M) v0) (upd (mq_st M) (mq_sc M) (nI (mq_now M)))) rfl ?_
  exact bh_vret C hQ dX0_bring_58 () (w := wh_hallX cI cZ ad (mq_now M) (mq_fc M) (mq_bc M) ((mq_sc M) + 1) (mq_dep M) (mq_lat M) (mq_brd M) (mq_bf M) (mq_br M) (mq_pu M) (upd (mq_pl M) (k) v0) (upd (mq_ls M) (k) (nI (mq_sc M))) (upd (mq_ca M) (k) (nI (mq_now M))) (upd (upd (mq_at M) ((mq_pl M) k).toNatClampNeg (((mq_at M) ((mq_pl M) k).toNatClampNeg) - 1)) v0.toNatClampNeg (((upd (mq_at M) ((mq_pl M) k).toNatClampNeg (((mq_at M) ((mq_pl M) k).toNatClampNeg) - 1)) v0.toNatClampNeg) + 1)) (upd (mq_sb M) (mq_sc M) (nI k)) (upd (mq_sp M) (mq_sc M) v0) (upd (mq_st M) (mq_sc M) (nI (mq_now M)))) rfl (Nat.le_of_ble_eq_true rfl) (Nat.le_of_ble_eq_true rfl) trivial
theorem ct_X0_routeTo_in : ∀ w ∈ wsX00, w ∈ wsX0_routeTo := by decide +kernel
set_option maxRecDepth 100000 in
set_option maxHeartbeats 4000000 in
theorem ct_X0_routeTo (l : Launch) (D : va_G) (cI cZ cL : ClassId) (ad : Nat → Nat) {K T : Nat} (M : MT) (x : Int32) (hI : MI K T M) (hx : vp_in x 10) : bh_Mi l D (wh_tys cI cZ cL) yX0_routeTo wsX0_routeTo ({ frames := 2, cells := 0, slots := 0, locals := 42 } : Room) [.ref (ad 0), .int x] (wh_hall cI cZ ad M) (fun r (_ : Unit) => r = mo_way M x) (fun _ => wh_hall cI cZ ad M) 0 0 := by
  refine bh_ofi (cc := cX0_routeTo) (maxL := 2) (by decide +kernel) rfl (Nat.le_of_ble_eq_true rfl) ?_
  intro p e s m args below meth c A Q _ C hQ
  refine bh_eqlv (lv' := [(0, .ref (ad 0)), (1, .int x)]) rfl ?_
  have hfc := MI_fc hI; have hbc := MI_bc hI; have hsc := MI_sc hI; have hnow := MI_now2 hI
  have hat5 := mo_at_le M 5
  refine bh_aload_n C dX0_routeTo_0 rfl 0 rfl ?_
  refine bh_iload_n C dX0_routeTo_1 rfl 1 rfl ?_
  refine bh_calli_0 (As := [.int x]) C (ct_X0_hasClosed l D cI cZ cL ad M x hx) (cwV 1 C.1.2.2.2.2 gX0_routeTo_X0_hasClosed rfl rfl rfl (by decide +kernel) ⟨Nat.le_of_ble_eq_true rfl, Nat.le_of_ble_eq_true rfl⟩) (ci := 0) rfl 0 rfl rfl rfl (Nat.le_of_ble_eq_true rfl) dX0_routeTo_2 ⟨Nat.le_of_ble_eq_true rfl, Nat.le_of_ble_eq_true rfl⟩ (fun r_2 u_2 hp_2 => ?_)
  subst hp_2
  refine bh_if_ne (tgt := 18) C dX0_routeTo_5 (by decide) (fun c_5 => ?_) (fun c_5 => ?_)
  · skip
    replace c_5 := bh_ne0 c_5
    refine bh_bipush (v := 11) C dX0_routeTo_18 (by decide) ?_
    exact bh_zret C hQ dX0_routeTo_20 () (v := 11) (w := wh_hall cI cZ ad M) rfl rfl (Nat.le_of_ble_eq_true rfl) (Nat.le_of_ble_eq_true rfl) (by first | exact (mo_way_a c_5).symm | exact (mo_way_b c_15).symm)
  · skip
    replace c_5 := bh_eq0 c_5
    refine bh_aload_n C dX0_routeTo_8 rfl 0 rfl ?_
    refine bh_get C ct_X0_routeTo_in 0 rfl rfl 3 (by decide) (by decide +kernel) rfl (v := .ref (ad 3)) rfl dX0_routeTo_9 ?_
    refine bh_iload_n C dX0_routeTo_12 rfl 1 rfl ?_
    refine bh_iald C 2 0 (f := (mq_lat M)) rfl rfl (i := x) hx (x := ((mq_lat M) x.toNatClampNeg)) rfl dX0_routeTo_13 ?_
    refine bh_iconst (v := (-1)) C dX0_routeTo_14 (by decide) ?_
    refine bh_icmp_ne (tgt := 21) C dX0_routeTo_15 (by decide) (fun c_15 => ?_) (fun c_15 => ?_)
    · skip
      refine bh_aload_n C dX0_routeTo_21 rfl 0 rfl ?_
      refine bh_iload_n C dX0_routeTo_22 rfl 1 rfl ?_
      refine bh_calli_0 (As := [.int x]) C (ct_X0_hasOpened l D cI cZ cL ad M x hx) (cwV 1 C.1.2.2.2.2 gX0_routeTo_X0_hasOpened rfl rfl rfl (by decide +kernel) ⟨Nat.le_of_ble_eq_true rfl, Nat.le_of_ble_eq_true rfl⟩) (ci := 0) rfl 0 rfl rfl rfl (Nat.le_of_ble_eq_true rfl) dX0_routeTo_23 ⟨Nat.le_of_ble_eq_true rfl, Nat.le_of_ble_eq_true rfl⟩ (fun r_23 u_23 hp_23 => ?_)
      subst hp_23
      refine bh_if_eq (tgt := 32) C dX0_routeTo_26 (by decide) (fun c_26 => ?_) (fun c_26 => ?_)
      · skip
        replace c_26 := bh_eq0 c_26
        refine bh_aload_n C dX0_routeTo_32 rfl 0 rfl ?_
        refine bh_get C ct_X0_routeTo_in 0 rfl rfl 12 (by decide) (by decide +kernel) rfl (v := .ref (ad 12)) rfl dX0_routeTo_33 ?_
        refine bh_iconst (v := 5) C dX0_routeTo_36 (by decide) ?_
        refine bh_iald C 10 0 (f := (mq_at M)) rfl rfl (i := 5) (vp_in_nI (n := 5) (by decide) (by decide)) (x := (nI (mo_at M 5))) (MI_at5 hI) dX0_routeTo_37 ?_
        refine bh_bipush (v := 8) C dX0_routeTo_38 (by decide) ?_
        refine bh_icmp_ge (tgt := 47) C dX0_routeTo_40 (by decide) (fun c_40 => ?_) (fun c_40 => ?_)
        · skip
          have c_40 := bh_le (a := 8) (by decide) (by omega) c_40
          refine bh_bipush (v := 6) C dX0_routeTo_47 (by decide) ?_
          exact bh_zret C hQ dX0_routeTo_49 () (v := 6) (w := wh_hall cI cZ ad M) rfl rfl (Nat.le_of_ble_eq_true rfl) (Nat.le_of_ble_eq_true rfl) (by first | exact (mo_way_5 c_5 c_15 c_26 c_40).symm | exact (mo_way_6 c_5 c_15 c_26 c_40).symm)
        · skip
          have c_40 := bh_nle2 (a := 8) (by decide) (by omega) c_40
          refine bh_iconst (v := 5) C dX0_routeTo_43 (by decide) ?_
          refine bh_goto (tgt := 49) C dX0_routeTo_44 (by decide) ?_
          exact bh_zret C hQ dX0_routeTo_49 () (v := 5) (w := wh_hall cI cZ ad M) rfl rfl (Nat.le_of_ble_eq_true rfl) (Nat.le_of_ble_eq_true rfl) (by first | exact (mo_way_5 c_5 c_15 c_26 c_40).symm | exact (mo_way_6 c_5 c_15 c_26 c_40).symm)
      · skip
        replace c_26 := bh_ne0 c_26
        refine bh_bipush (v := 7) C dX0_routeTo_29 (by decide) ?_
        exact bh_zret C hQ dX0_routeTo_31 () (v := 7) (w := wh_hall cI cZ ad M) rfl rfl (Nat.le_of_ble_eq_true rfl) (Nat.le_of_ble_eq_true rfl) (mo_way_7 c_5 c_15 c_26).symm
    · skip
      refine bh_bipush (v := 11) C dX0_routeTo_18 (by decide) ?_
      exact bh_zret C hQ dX0_routeTo_20 () (v := 11) (w := wh_hall cI cZ ad M) rfl rfl (Nat.le_of_ble_eq_true rfl) (Nat.le_of_ble_eq_true rfl) (by first | exact (mo_way_a c_5).symm | exact (mo_way_b c_15).symm)
theorem ct_X0_route_in : ∀ w ∈ wsX00, w ∈ wsX0_route := by decide +kernel
set_option maxRecDepth 100000 in
set_option maxHeartbeats 4000000 in
theorem ct_X0_route (l : Launch) (D : va_G) (cI cZ cL : ClassId) (ad : Nat → Nat) {K T : Nat} (M : MT) (k : Nat) (hI : MI K T M) (hk : k < 48) (hsc2 : mq_sc M < 2048) : bh_Mv l D (wh_tys cI cZ cL) yX0_route wsX0_route ({ frames := 3, cells := 0, slots := 0, locals := 63 } : Room) [.ref (ad 0), .int (nI k)] (wh_hall cI cZ ad M) (fun (_ : Unit) => True) (fun _ => wh_hall cI cZ ad (mo_route M k)) 0 0 := by
  refine bh_ofv (cc := cX0_route) (maxL := 3) (by decide +kernel) rfl (Nat.le_of_ble_eq_true rfl) ?_
  intro p e s m args below meth c A Q _ C hQ
  refine bh_eqlv (lv' := [(0, .ref (ad 0)), (1, .int (nI k))]) rfl ?_
  have hfc := MI_fc hI; have hbc := MI_bc hI; have hsc := MI_sc hI; have hnow := MI_now2 hI
  refine bh_aload_n C dX0_route_0 rfl 0 rfl ?_
  refine bh_aload_n C dX0_route_1 rfl 0 rfl ?_
  refine bh_get C ct_X0_route_in 0 rfl rfl 6 (by decide) (by decide +kernel) rfl (v := .ref (ad 6)) rfl dX0_route_2 ?_
  refine bh_iload_n C dX0_route_5 rfl 1 rfl ?_
  refine bh_iald C 4 0 (f := (mq_bf M)) rfl rfl (i := (nI k)) (vp_in_nI (n := k) (by omega) (by decide)) (x := ((mq_bf M) k)) (congrArg (mq_bf M) (nI_clamp (n := k) (by omega))) dX0_route_6 ?_
  refine bh_calli_0 (As := [.int ((mq_bf M) k)]) C (ct_X0_routeTo l D cI cZ cL ad M ((mq_bf M) k) hI (MI_bf hI _)) (cwV 1 C.1.2.2.2.2 gX0_route_X0_routeTo rfl rfl rfl (by decide +kernel) ⟨Nat.le_of_ble_eq_true rfl, Nat.le_of_ble_eq_true rfl⟩) (ci := 0) rfl 0 rfl rfl rfl (Nat.le_of_ble_eq_true rfl) dX0_route_7 ⟨Nat.le_of_ble_eq_true rfl, Nat.le_of_ble_eq_true rfl⟩ (fun r_7 u_7 hp_7 => ?_)
  subst hp_7
  refine bh_istore_n (lv' := [(2, .int (mo_way M ((mq_bf M) k))), (0, .ref (ad 0)), (1, .int (nI k))]) C dX0_route_10 rfl (by decide) rfl ?_
  refine bh_iload_n C dX0_route_11 rfl 0 rfl ?_
  refine bh_bipush (v := 6) C dX0_route_12 (by decide) ?_
  refine bh_icmp_ne (tgt := 29) C dX0_route_14 (by decide) (fun c_14 => ?_) (fun c_14 => ?_)
  · skip
    refine bh_aload_n C dX0_route_29 rfl 1 rfl ?_
    refine bh_iload_n C dX0_route_30 rfl 2 rfl ?_
    refine bh_iload_n C dX0_route_31 rfl 0 rfl ?_
    refine bh_callv_0 (As := [.int (nI k), .int (mo_way M ((mq_bf M) k))]) C (ct_X0_bring l D cI cZ cL ad M k (mo_way M ((mq_bf M) k)) hk (mo_way_in _ _) (MI_pl hI _) hsc2) (cwV 2 C.1.2.2.2.2 gX0_route_X0_bring rfl rfl rfl (by decide +kernel) ⟨Nat.le_of_ble_eq_true rfl, Nat.le_of_ble_eq_true rfl⟩) (ci := 0) rfl 0 rfl rfl rfl (Nat.le_of_ble_eq_true rfl) dX0_route_32 ⟨Nat.le_of_ble_eq_true rfl, Nat.le_of_ble_eq_true rfl⟩ (fun u_32 hp_32 => ?_)
    exact bh_vret C hQ dX0_route_35 () (w := wh_hall cI cZ ad (mo_bring M k (mo_way M ((mq_bf M) k)))) (congrArg (wh_hall cI cZ ad) (show mo_route M k = mo_bring M k (mo_way M (mq_bf M k)) from by first | exact if_neg (fun z => c_14 z.1) | exact if_neg (fun z => c_25 z.2)).symm) (Nat.le_of_ble_eq_true rfl) (Nat.le_of_ble_eq_true rfl) trivial
  · skip
    refine bh_aload_n C dX0_route_17 rfl 1 rfl ?_
    refine bh_get C ct_X0_route_in 0 rfl rfl 9 (by decide) (by decide +kernel) rfl (v := .ref (ad 9)) rfl dX0_route_18 ?_
    refine bh_iload_n C dX0_route_21 rfl 2 rfl ?_
    refine bh_iald C 7 0 (f := (mq_pl M)) rfl rfl (i := (nI k)) (vp_in_nI (n := k) (by omega) (by decide)) (x := ((mq_pl M) k)) (congrArg (mq_pl M) (nI_clamp (n := k) (by omega))) dX0_route_22 ?_
    refine bh_bipush (v := 6) C dX0_route_23 (by decide) ?_
    refine bh_icmp_ne (tgt := 29) C dX0_route_25 (by decide) (fun c_25 => ?_) (fun c_25 => ?_)
    · skip
      refine bh_aload_n C dX0_route_29 rfl 1 rfl ?_
      refine bh_iload_n C dX0_route_30 rfl 2 rfl ?_
      refine bh_iload_n C dX0_route_31 rfl 0 rfl ?_
      refine bh_callv_0 (As := [.int (nI k), .int (mo_way M ((mq_bf M) k))]) C (ct_X0_bring l D cI cZ cL ad M k (mo_way M ((mq_bf M) k)) hk (mo_way_in _ _) (MI_pl hI _) hsc2) (cwV 2 C.1.2.2.2.2 gX0_route_X0_bring rfl rfl rfl (by decide +kernel) ⟨Nat.le_of_ble_eq_true rfl, Nat.le_of_ble_eq_true rfl⟩) (ci := 0) rfl 0 rfl rfl rfl (Nat.le_of_ble_eq_true rfl) dX0_route_32 ⟨Nat.le_of_ble_eq_true rfl, Nat.le_of_ble_eq_true rfl⟩ (fun u_32 hp_32 => ?_)
      exact bh_vret C hQ dX0_route_35 () (w := wh_hall cI cZ ad (mo_bring M k (mo_way M ((mq_bf M) k)))) (congrArg (wh_hall cI cZ ad) (show mo_route M k = mo_bring M k (mo_way M (mq_bf M k)) from by first | exact if_neg (fun z => c_14 z.1) | exact if_neg (fun z => c_25 z.2)).symm) (Nat.le_of_ble_eq_true rfl) (Nat.le_of_ble_eq_true rfl) trivial
    · skip
      exact bh_vret C hQ dX0_route_28 () (w := wh_hall cI cZ ad M) (congrArg (wh_hall cI cZ ad) (show mo_route M k = M from if_pos ⟨c_14, c_25⟩).symm) (Nat.le_of_ble_eq_true rfl) (Nat.le_of_ble_eq_true rfl) trivial
