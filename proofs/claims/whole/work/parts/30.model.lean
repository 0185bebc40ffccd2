set_option maxRecDepth 100000 in
set_option maxHeartbeats 4000000 in
theorem ct_X1_in (l : Launch) (D : va_G) (cI cZ cL : ClassId) (bd : Nat → Nat) (x lo hi : Int32)  : bh_Mi l D (wh_tys cI cZ cL) yX1_in wsX1_in ({ frames := 0, cells := 0, slots := 0, locals := 0 } : Room) [.int x, .int lo, .int hi] ([]) (fun r (_ : Unit) => r = if lo ≤ x ∧ x ≤ hi then 1 else 0) (fun _ => []) 0 0 := by
  refine bh_ofi (cc := cX1_in) (maxL := 3) (by decide +kernel) rfl (Nat.le_of_ble_eq_true rfl) ?_
  intro p e s m args below meth c A Q _ C hQ
  refine bh_eqlv (lv' := [(0, .int x), (1, .int lo), (2, .int hi)]) rfl ?_
  refine bh_iload_n C dX1_in_0 rfl 0 rfl ?_
  refine bh_iload_n C dX1_in_1 rfl 1 rfl ?_
  refine bh_icmp_lt (tgt := 14) C dX1_in_2 (by decide) (fun c_2 => ?_) (fun c_2 => ?_)
  · skip
    refine bh_iconst (v := 0) C dX1_in_14 (by decide) ?_
    exact bh_zret C hQ dX1_in_15 () (v := 0) (w := []) rfl rfl (Nat.le_of_ble_eq_true rfl) (Nat.le_of_ble_eq_true rfl) (by first | exact (if_pos ⟨bh_nlt c_2, Int32.not_lt.mp c_7⟩).symm | exact (if_neg (fun z => absurd z.1 (Int32.not_le.mpr c_2))).symm | exact (if_neg (fun z => absurd z.2 (Int32.not_le.mpr c_7))).symm)
  · skip
    refine bh_iload_n C dX1_in_5 rfl 0 rfl ?_
    refine bh_iload_n C dX1_in_6 rfl 2 rfl ?_
    refine bh_icmp_gt (tgt := 14) C dX1_in_7 (by decide) (fun c_7 => ?_) (fun c_7 => ?_)
    · skip
      refine bh_iconst (v := 0) C dX1_in_14 (by decide) ?_
      exact bh_zret C hQ dX1_in_15 () (v := 0) (w := []) rfl rfl (Nat.le_of_ble_eq_true rfl) (Nat.le_of_ble_eq_true rfl) (by first | exact (if_pos ⟨bh_nlt c_2, Int32.not_lt.mp c_7⟩).symm | exact (if_neg (fun z => absurd z.1 (Int32.not_le.mpr c_2))).symm | exact (if_neg (fun z => absurd z.2 (Int32.not_le.mpr c_7))).symm)
    · skip
      refine bh_iconst (v := 1) C dX1_in_10 (by decide) ?_
      refine bh_goto (tgt := 15) C dX1_in_11 (by decide) ?_
      exact bh_zret C hQ dX1_in_15 () (v := 1) (w := []) rfl rfl (Nat.le_of_ble_eq_true rfl) (Nat.le_of_ble_eq_true rfl) (by first | exact (if_pos ⟨bh_nlt c_2, Int32.not_lt.mp c_7⟩).symm | exact (if_neg (fun z => absurd z.1 (Int32.not_le.mpr c_2))).symm | exact (if_neg (fun z => absurd z.2 (Int32.not_le.mpr c_7))).symm)
theorem ct_X1_thrown_in : ∀ w ∈ wsX10, w ∈ wsX1_thrown := by decide +kernel
set_option maxRecDepth 100000 in
set_option maxHeartbeats 4000000 in
theorem ct_X1_thrown (l : Launch) (D : va_G) (cI cZ cL : ClassId) (bd : Nat → Nat) (M : MT) (thr : Int32)  : bh_Mi l D (wh_tys cI cZ cL) yX1_thrown wsX1_thrown ({ frames := 0, cells := 0, slots := 0, locals := 0 } : Room) [.ref (bd 0)] (wh_modl cI bd M thr) (fun r (_ : Unit) => r = thr) (fun _ => wh_modl cI bd M thr) 0 0 := by
  refine bh_ofi (cc := cX1_thrown) (maxL := 1) (by decide +kernel) rfl (Nat.le_of_ble_eq_true rfl) ?_
  intro p e s m args below meth c A Q _ C hQ
  refine bh_eqlv (lv' := [(0, .ref (bd 0))]) rfl ?_
  refine bh_aload_n C dX1_thrown_0 rfl 0 rfl ?_
  refine bh_get C ct_X1_thrown_in 0 rfl rfl 13 (by decide) (by decide +kernel) rfl (v := .int thr) rfl dX1_thrown_1 ?_
  exact bh_zret C hQ dX1_thrown_4 () (v := thr) (w := wh_modl cI bd M thr) rfl rfl (Nat.le_of_ble_eq_true rfl) (Nat.le_of_ble_eq_true rfl) rfl
theorem ct_X1_fails_in : ∀ w ∈ wsX10, w ∈ wsX1_fails := by decide +kernel
set_option maxRecDepth 100000 in
set_option maxHeartbeats 4000000 in
theorem ct_X1_fails (l : Launch) (D : va_G) (cI cZ cL : ClassId) (bd : Nat → Nat) (M : MT) (thr x : Int32)  : bh_Mi l D (wh_tys cI cZ cL) yX1_fails wsX1_fails ({ frames := 0, cells := 0, slots := 0, locals := 0 } : Room) [.ref (bd 0), .int x] (wh_modl cI bd M thr) (fun r (_ : Unit) => r = 0) (fun _ => wh_modl cI bd M x) 0 0 := by
  refine bh_ofi (cc := cX1_fails) (maxL := 2) (by decide +kernel) rfl (Nat.le_of_ble_eq_true rfl) ?_
  intro p e s m args below meth c A Q _ C hQ
  refine bh_eqlv (lv' := [(0, .ref (bd 0)), (1, .int x)]) rfl ?_
  refine bh_aload_n C dX1_fails_0 rfl 0 rfl ?_
  refine bh_iload_n C dX1_fails_1 rfl 1 rfl ?_
  refine bh_eqw (w' := wh_modlX cI bd (mq_now M) (mq_fc M) (mq_bc M) (mq_sc M) (mq_dep M) (mq_lat M) (mq_brd M) (mq_pl M) (mq_bf M) (mq_br M) (mq_pu M) (mq_ls M) (mq_rows M) thr) rfl ?_
  refine bh_put (ty := .int) (v := .int x) (w' := wh_modlX cI bd (mq_now M) (mq_fc M) (mq_bc M) (mq_sc M) (mq_dep M) (mq_lat M) (mq_brd M) (mq_pl M) (mq_bf M) (mq_br M) (mq_pu M) (mq_ls M) (mq_rows M) x) C ct_X1_fails_in tyX1 tyX1_ok nmX1 0 rfl rfl 13 (by decide) (by decide +kernel) rfl rfl (by decide +kernel) rfl rfl (Nat.le_of_ble_eq_true rfl) dX1_fails_2 rfl ?_
  refine bh_iconst (v := 0) C dX1_fails_5 (by decide) ?_
  exact bh_zret C hQ dX1_fails_6 () (v := 0) (w := wh_modlX cI bd (mq_now M) (mq_fc M) (mq_bc M) (mq_sc M) (mq_dep M) (mq_lat M) (mq_brd M) (mq_pl M) (mq_bf M) (mq_br M) (mq_pu M) (mq_ls M) (mq_rows M) x) rfl rfl (Nat.le_of_ble_eq_true rfl) (Nat.le_of_ble_eq_true rfl) rfl
theorem ct_X1_isFlight_in : ∀ w ∈ wsX10, w ∈ wsX1_isFlight := by decide +kernel
set_option maxRecDepth 100000 in
set_option maxHeartbeats 4000000 in
theorem ct_X1_isFlight (l : Launch) (D : va_G) (cI cZ cL : ClassId) (bd : Nat → Nat) {K T : Nat} (M : MT) (thr x : Int32) (hI : MI K T M) : bh_Mi l D (wh_tys cI cZ cL) yX1_isFlight wsX1_isFlight ({ frames := 1, cells := 0, slots := 0, locals := 22 } : Room) [.ref (bd 0), .int x] (wh_modl cI bd M thr) (fun r (_ : Unit) => r = if mo_in x (mq_fc M) = true then 1 else 0) (fun _ => wh_modl cI bd M (co_in x (mq_fc M))) 0 0 := by
  refine bh_ofi (cc := cX1_isFlight) (maxL := 2) (by decide +kernel) rfl (Nat.le_of_ble_eq_true rfl) ?_
  intro p e s m args below meth c A Q _ C hQ
  refine bh_eqlv (lv' := [(0, .ref (bd 0)), (1, .int x)]) rfl ?_
  have hfc := MI_fc hI; have hbc := MI_bc hI; have hsc := MI_sc hI; have hnow := MI_now2 hI
  refine bh_aload_n C dX1_isFlight_0 rfl 0 rfl ?_
  refine bh_iload_n C dX1_isFlight_1 rfl 1 rfl ?_
  refine bh_iconst (v := 0) C dX1_isFlight_2 (by decide) ?_
  refine bh_aload_n C dX1_isFlight_3 rfl 0 rfl ?_
  refine bh_get C ct_X1_isFlight_in 0 rfl rfl 1 (by decide) (by decide +kernel) rfl (v := .int (nI (mq_fc M))) rfl dX1_isFlight_4 ?_
  refine bh_iconst (v := 1) C dX1_isFlight_7 (by decide) ?_
  refine bh_isub C dX1_isFlight_8 ?_
  refine bh_calli_N (As := [.int x, .int 0, .int ((nI (mq_fc M)) - 1)]) C (ct_X1_in l D cI cZ cL bd x 0 ((nI (mq_fc M)) - 1)) ⟨callB_of 3 C.1.2.2.2.2 ggX1_isFlight_X1_in rfl rfl rfl (C.1.2.2.2.2 _ (by decide +kernel)) (C.1.2.2.2.2 _ (by decide +kernel)) (by decide +kernel) ⟨Nat.le_of_ble_eq_true rfl, Nat.le_of_ble_eq_true rfl⟩, C.1.2.2.2.2 _ (by decide +kernel)⟩ rfl rfl (Nat.le_of_ble_eq_true rfl) dX1_isFlight_9 ⟨Nat.le_of_ble_eq_true rfl, Nat.le_of_ble_eq_true rfl⟩ (fun r_9 u_9 hp_9 => ?_)
  subst hp_9
  refine bh_if_eq (tgt := 19) C dX1_isFlight_12 (by decide) (fun c_12 => ?_) (fun c_12 => ?_)
  · skip
    replace c_12 := bh_eq0 c_12
    have hv := fun q => c_12 ((bh_inR (by omega)).mpr q)
    refine bh_iconst (v := 1) C dX1_isFlight_19 (by decide) ?_
    refine bh_eqw (w' := wh_modlX cI bd (mq_now M) (mq_fc M) (mq_bc M) (mq_sc M) (mq_dep M) (mq_lat M) (mq_brd M) (mq_pl M) (mq_bf M) (mq_br M) (mq_pu M) (mq_ls M) (mq_rows M) thr) rfl ?_
    refine bh_put (ty := .int) (v := .int 1) (w' := wh_modlX cI bd (mq_now M) (mq_fc M) (mq_bc M) (mq_sc M) (mq_dep M) (mq_lat M) (mq_brd M) (mq_pl M) (mq_bf M) (mq_br M) (mq_pu M) (mq_ls M) (mq_rows M) 1) C ct_X1_isFlight_in tyX1 tyX1_ok nmX1 0 rfl rfl 13 (by decide) (by decide +kernel) rfl rfl (by decide +kernel) rfl rfl (Nat.le_of_ble_eq_true rfl) dX1_isFlight_20 rfl ?_
    refine bh_aload_n C dX1_isFlight_23 rfl 0 rfl ?_
    refine bh_get C ct_X1_isFlight_in 0 rfl rfl 13 (by decide) (by decide +kernel) rfl (v := .int 1) rfl dX1_isFlight_24 ?_
    refine bh_if_ne (tgt := 34) C dX1_isFlight_27 (by decide) (fun c_27 => ?_) (fun c_27 => absurd c_27 (by decide))
    refine bh_iconst (v := 0) C dX1_isFlight_34 (by decide) ?_
    exact bh_zret C hQ dX1_isFlight_35 () (v := 0) (w := wh_modlX cI bd (mq_now M) (mq_fc M) (mq_bc M) (mq_sc M) (mq_dep M) (mq_lat M) (mq_brd M) (mq_pl M) (mq_bf M) (mq_br M) (mq_pu M) (mq_ls M) (mq_rows M) 1) (by first | exact congrArg (wh_modl cI bd M) (co_in0 hv).symm | exact congrArg (wh_modl cI bd M) (co_in1 hv).symm) rfl (Nat.le_of_ble_eq_true rfl) (Nat.le_of_ble_eq_true rfl) (by first | exact (if_pos (mo_in_t hv)).symm | exact (if_neg (mo_in_f hv)).symm)
  · skip
    replace c_12 := bh_ne0 c_12
    have hv := (bh_inR (by omega)).mp c_12
    refine bh_iconst (v := 0) C dX1_isFlight_15 (by decide) ?_
    refine bh_goto (tgt := 20) C dX1_isFlight_16 (by decide) ?_
    refine bh_eqw (w' := wh_modlX cI bd (mq_now M) (mq_fc M) (mq_bc M) (mq_sc M) (mq_dep M) (mq_lat M) (mq_brd M) (mq_pl M) (mq_bf M) (mq_br M) (mq_pu M) (mq_ls M) (mq_rows M) thr) rfl ?_
    refine bh_put (ty := .int) (v := .int 0) (w' := wh_modlX cI bd (mq_now M) (mq_fc M) (mq_bc M) (mq_sc M) (mq_dep M) (mq_lat M) (mq_brd M) (mq_pl M) (mq_bf M) (mq_br M) (mq_pu M) (mq_ls M) (mq_rows M) 0) C ct_X1_isFlight_in tyX1 tyX1_ok nmX1 0 rfl rfl 13 (by decide) (by decide +kernel) rfl rfl (by decide +kernel) rfl rfl (Nat.le_of_ble_eq_true rfl) dX1_isFlight_20 rfl ?_
    refine bh_aload_n C dX1_isFlight_23 rfl 0 rfl ?_
    refine bh_get C ct_X1_isFlight_in 0 rfl rfl 13 (by decide) (by decide +kernel) rfl (v := .int 0) rfl dX1_isFlight_24 ?_
    refine bh_if_ne (tgt := 34) C dX1_isFlight_27 (by decide) (fun c_27 => absurd c_27 (by decide)) (fun c_27 => ?_)
    refine bh_iconst (v := 1) C dX1_isFlight_30 (by decide) ?_
    refine bh_goto (tgt := 35) C dX1_isFlight_31 (by decide) ?_
    exact bh_zret C hQ dX1_isFlight_35 () (v := 1) (w := wh_modlX cI bd (mq_now M) (mq_fc M) (mq_bc M) (mq_sc M) (mq_dep M) (mq_lat M) (mq_brd M) (mq_pl M) (mq_bf M) (mq_br M) (mq_pu M) (mq_ls M) (mq_rows M) 0) (by first | exact congrArg (wh_modl cI bd M) (co_in0 hv).symm | exact congrArg (wh_modl cI bd M) (co_in1 hv).symm) rfl (Nat.le_of_ble_eq_true rfl) (Nat.le_of_ble_eq_true rfl) (by first | exact (if_pos (mo_in_t hv)).symm | exact (if_neg (mo_in_f hv)).symm)
theorem ct_X1_isBag_in : ∀ w ∈ wsX10, w ∈ wsX1_isBag := by decide +kernel
set_option maxRecDepth 100000 in
set_option maxHeartbeats 4000000 in
theorem ct_X1_isBag (l : Launch) (D : va_G) (cI cZ cL : ClassId) (bd : Nat → Nat) {K T : Nat} (M : MT) (thr x : Int32) (hI : MI K T M) : bh_Mi l D (wh_tys cI cZ cL) yX1_isBag wsX1_isBag ({ frames := 1, cells := 0, slots := 0, locals := 22 } : Room) [.ref (bd 0), .int x] (wh_modl cI bd M thr) (fun r (_ : Unit) => r = if mo_in x (mq_bc M) = true then 1 else 0) (fun _ => wh_modl cI bd M (co_in x (mq_bc M))) 0 0 := by
  refine bh_ofi (cc := cX1_isBag) (maxL := 2) (by decide +kernel) rfl (Nat.le_of_ble_eq_true rfl) ?_
  intro p e s m args below meth c A Q _ C hQ
  refine bh_eqlv (lv' := [(0, .ref (bd 0)), (1, .int x)]) rfl ?_
  have hfc := MI_fc hI; have hbc := MI_bc hI; have hsc := MI_sc hI; have hnow := MI_now2 hI
  refine bh_aload_n C dX1_isBag_0 rfl 0 rfl ?_
  refine bh_iload_n C dX1_isBag_1 rfl 1 rfl ?_
  refine bh_iconst (v := 0) C dX1_isBag_2 (by decide) ?_
  refine bh_aload_n C dX1_isBag_3 rfl 0 rfl ?_
  refine bh_get C ct_X1_isBag_in 0 rfl rfl 5 (by decide) (by decide +kernel) rfl (v := .int (nI (mq_bc M))) rfl dX1_isBag_4 ?_
  refine bh_iconst (v := 1) C dX1_isBag_7 (by decide) ?_
  refine bh_isub C dX1_isBag_8 ?_
  refine bh_calli_N (As := [.int x, .int 0, .int ((nI (mq_bc M)) - 1)]) C (ct_X1_in l D cI cZ cL bd x 0 ((nI (mq_bc M)) - 1)) ⟨callB_of 3 C.1.2.2.2.2 ggX1_isBag_X1_in rfl rfl rfl (C.1.2.2.2.2 _ (by decide +kernel)) (C.1.2.2.2.2 _ (by decide +kernel)) (by decide +kernel) ⟨Nat.le_of_ble_eq_true rfl, Nat.le_of_ble_eq_true rfl⟩, C.1.2.2.2.2 _ (by decide +kernel)⟩ rfl rfl (Nat.le_of_ble_eq_true rfl) dX1_isBag_9 ⟨Nat.le_of_ble_eq_true rfl, Nat.le_of_ble_eq_true rfl⟩ (fun r_9 u_9 hp_9 => ?_)
  subst hp_9
  refine bh_if_eq (tgt := 19) C dX1_isBag_12 (by decide) (fun c_12 => ?_) (fun c_12 => ?_)
  · skip
    replace c_12 := bh_eq0 c_12
    have hv := fun q => c_12 ((bh_inR (by omega)).mpr q)
    refine bh_iconst (v := 1) C dX1_isBag_19 (by decide) ?_
    refine bh_eqw (w' := wh_modlX cI bd (mq_now M) (mq_fc M) (mq_bc M) (mq_sc M) (mq_dep M) (mq_lat M) (mq_brd M) (mq_pl M) (mq_bf M) (mq_br M) (mq_pu M) (mq_ls M) (mq_rows M) thr) rfl ?_
    refine bh_put (ty := .int) (v := .int 1) (w' := wh_modlX cI bd (mq_now M) (mq_fc M) (mq_bc M) (mq_sc M) (mq_dep M) (mq_lat M) (mq_brd M) (mq_pl M) (mq_bf M) (mq_br M) (mq_pu M) (mq_ls M) (mq_rows M) 1) C ct_X1_isBag_in tyX1 tyX1_ok nmX1 0 rfl rfl 13 (by decide) (by decide +kernel) rfl rfl (by decide +kernel) rfl rfl (Nat.le_of_ble_eq_true rfl) dX1_isBag_20 rfl ?_
    refine bh_aload_n C dX1_isBag_23 rfl 0 rfl ?_
    refine bh_get C ct_X1_isBag_in 0 rfl rfl 13 (by decide) (by decide +kernel) rfl (v := .int 1) rfl dX1_isBag_24 ?_
    refine bh_if_ne (tgt := 34) C dX1_isBag_27 (by decide) (fun c_27 => ?_) (fun c_27 => absurd c_27 (by decide))
    refine bh_iconst (v := 0) C dX1_isBag_34 (by decide) ?_
    exact bh_zret C hQ dX1_isBag_35 () (v := 0) (w := wh_modlX cI bd (mq_now M) (mq_fc M) (mq_bc M) (mq_sc M) (mq_dep M) (mq_lat M) (mq_brd M) (mq_pl M) (mq_bf M) (mq_br M) (mq_pu M) (mq_ls M) (mq_rows M) 1) (by first | exact congrArg (wh_modl cI bd M) (co_in0 hv).symm | exact congrArg (wh_modl cI bd M) (co_in1 hv).symm) rfl (Nat.le_of_ble_eq_true rfl) (Nat.le_of_ble_eq_true rfl) (by first | exact (if_pos (mo_in_t hv)).symm | exact (if_neg (mo_in_f hv)).symm)
  · skip
    replace c_12 := bh_ne0 c_12
    have hv := (bh_inR (by omega)).mp c_12
    refine bh_iconst (v := 0) C dX1_isBag_15 (by decide) ?_
    refine bh_goto (tgt := 20) C dX1_isBag_16 (by decide) ?_
    refine bh_eqw (w' := wh_modlX cI bd (mq_now M) (mq_fc M) (mq_bc M) (mq_sc M) (mq_dep M) (mq_lat M) (mq_brd M) (mq_pl M) (mq_bf M) (mq_br M) (mq_pu M) (mq_ls M) (mq_rows M) thr) rfl ?_
    refine bh_put (ty := .int) (v := .int 0) (w' := wh_modlX cI bd (mq_now M) (mq_fc M) (mq_bc M) (mq_sc M) (mq_dep M) (mq_lat M) (mq_brd M) (mq_pl M) (mq_bf M) (mq_br M) (mq_pu M) (mq_ls M) (mq_rows M) 0) C ct_X1_isBag_in tyX1 tyX1_ok nmX1 0 rfl rfl 13 (by decide) (by decide +kernel) rfl rfl (by decide +kernel) rfl rfl (Nat.le_of_ble_eq_true rfl) dX1_isBag_20 rfl ?_
    refine bh_aload_n C dX1_isBag_23 rfl 0 rfl ?_
    refine bh_get C ct_X1_isBag_in 0 rfl rfl 13 (by decide) (by decide +kernel) rfl (v := .int 0) rfl dX1_isBag_24 ?_
    refine bh_if_ne (tgt := 34) C dX1_isBag_27 (by decide) (fun c_27 => absurd c_27 (by decide)) (fun c_27 => ?_)
    refine bh_iconst (v := 1) C dX1_isBag_30 (by decide) ?_
    refine bh_goto (tgt := 35) C dX1_isBag_31 (by decide) ?_
    exact bh_zret C hQ dX1_isBag_35 () (v := 1) (w := wh_modlX cI bd (mq_now M) (mq_fc M) (mq_bc M) (mq_sc M) (mq_dep M) (mq_lat M) (mq_brd M) (mq_pl M) (mq_bf M) (mq_br M) (mq_pu M) (mq_ls M) (mq_rows M) 0) (by first | exact congrArg (wh_modl cI bd M) (co_in0 hv).symm | exact congrArg (wh_modl cI bd M) (co_in1 hv).symm) rfl (Nat.le_of_ble_eq_true rfl) (Nat.le_of_ble_eq_true rfl) (by first | exact (if_pos (mo_in_t hv)).symm | exact (if_neg (mo_in_f hv)).symm)
theorem ct_X1_isScan_in : ∀ w ∈ wsX10, w ∈ wsX1_isScan := by decide +kernel
set_option maxRecDepth 100000 in
set_option maxHeartbeats 4000000 in
theorem ct_X1_isScan (l : Launch) (D : va_G) (cI cZ cL : ClassId) (bd : Nat → Nat) {K T : Nat} (M : MT) (thr x : Int32) (hI : MI K T M) : bh_Mi l D (wh_tys cI cZ cL) yX1_isScan wsX1_isScan ({ frames := 1, cells := 0, slots := 0, locals := 22 } : Room) [.ref (bd 0), .int x] (wh_modl cI bd M thr) (fun r (_ : Unit) => r = if mo_in x (mq_sc M) = true then 1 else 0) (fun _ => wh_modl cI bd M (co_in x (mq_sc M))) 0 0 := by
  refine bh_ofi (cc := cX1_isScan) (maxL := 2) (by decide +kernel) rfl (Nat.le_of_ble_eq_true rfl) ?_
  intro p e s m args below meth c A Q _ C hQ
  refine bh_eqlv (lv' := [(0, .ref (bd 0)), (1, .int x)]) rfl ?_
  have hfc := MI_fc hI; have hbc := MI_bc hI; have hsc := MI_sc hI; have hnow := MI_now2 hI
  refine bh_aload_n C dX1_isScan_0 rfl 0 rfl ?_
  refine bh_iload_n C dX1_isScan_1 rfl 1 rfl ?_
  refine bh_iconst (v := 0) C dX1_isScan_2 (by decide) ?_
  refine bh_aload_n C dX1_isScan_3 rfl 0 rfl ?_
  refine bh_get C ct_X1_isScan_in 0 rfl rfl 11 (by decide) (by decide +kernel) rfl (v := .int (nI (mq_sc M))) rfl dX1_isScan_4 ?_
  refine bh_iconst (v := 1) C dX1_isScan_7 (by decide) ?_
  refine bh_isub C dX1_isScan_8 ?_
  refine bh_calli_N (As := [.int x, .int 0, .int ((nI (mq_sc M)) - 1)]) C (ct_X1_in l D cI cZ cL bd x 0 ((nI (mq_sc M)) - 1)) ⟨callB_of 3 C.1.2.2.2.2 ggX1_isScan_X1_in rfl rfl rfl (C.1.2.2.2.2 _ (by decide +kernel)) (C.1.2.2.2.2 _ (by decide +kernel)) (by decide +kernel) ⟨Nat.le_of_ble_eq_true rfl, Nat.le_of_ble_eq_true rfl⟩, C.1.2.2.2.2 _ (by decide +kernel)⟩ rfl rfl (Nat.le_of_ble_eq_true rfl) dX1_isScan_9 ⟨Nat.le_of_ble_eq_true rfl, Nat.le_of_ble_eq_true rfl⟩ (fun r_9 u_9 hp_9 => ?_)
  subst hp_9
  refine bh_if_eq (tgt := 19) C dX1_isScan_12 (by decide) (fun c_12 => ?_) (fun c_12 => ?_)
  · skip
    replace c_12 := bh_eq0 c_12
    have hv := fun q => c_12 ((bh_inR (by omega)).mpr q)
    refine bh_iconst (v := 1) C dX1_isScan_19 (by decide) ?_
    refine bh_eqw (w' := wh_modlX cI bd (mq_now M) (mq_fc M) (mq_bc M) (mq_sc M) (mq_dep M) (mq_lat M) (mq_brd M) (mq_pl M) (mq_bf M) (mq_br M) (mq_pu M) (mq_ls M) (mq_rows M) thr) rfl ?_
    refine bh_put (ty := .int) (v := .int 1) (w' := wh_modlX cI bd (mq_now M) (mq_fc M) (mq_bc M) (mq_sc M) (mq_dep M) (mq_lat M) (mq_brd M) (mq_pl M) (mq_bf M) (mq_br M) (mq_pu M) (mq_ls M) (mq_rows M) 1) C ct_X1_isScan_in tyX1 tyX1_ok nmX1 0 rfl rfl 13 (by decide) (by decide +kernel) rfl rfl (by decide +kernel) rfl rfl (Nat.le_of_ble_eq_true rfl) dX1_isScan_20 rfl ?_
    refine bh_aload_n C dX1_isScan_23 rfl 0 rfl ?_
    refine bh_get C ct_X1_isScan_in 0 rfl rfl 13 (by decide) (by decide +kernel) rfl (v := .int 1) rfl dX1_isScan_24 ?_
    refine bh_if_ne (tgt := 34) C dX1_isScan_27 (by decide) (fun c_27 => ?_) (fun c_27 => absurd c_27 (by decide))
    refine bh_iconst (v := 0) C dX1_isScan_34 (by decide) ?_
    exact bh_zret C hQ dX1_isScan_35 () (v := 0) (w := wh_modlX cI bd (mq_now M) (mq_fc M) (mq_bc M) (mq_sc M) (mq_dep M) (mq_lat M) (mq_brd M) (mq_pl M) (mq_bf M) (mq_br M) (mq_pu M) (mq_ls M) (mq_rows M) 1) (by first | exact congrArg (wh_modl cI bd M) (co_in0 hv).symm | exact congrArg (wh_modl cI bd M) (co_in1 hv).symm) rfl (Nat.le_of_ble_eq_true rfl) (Nat.le_of_ble_eq_true rfl) (by first | exact (if_pos (mo_in_t hv)).symm | exact (if_neg (mo_in_f hv)).symm)
  · skip
    replace c_12 := bh_ne0 c_12
    have hv := (bh_inR (by omega)).mp c_12
    refine bh_iconst (v := 0) C dX1_isScan_15 (by decide) ?_
    refine bh_goto (tgt := 20) C dX1_isScan_16 (by decide) ?_
    refine bh_eqw (w' := wh_modlX cI bd (mq_now M) (mq_fc M) (mq_bc M) (mq_sc M) (mq_dep M) (mq_lat M) (mq_brd M) (mq_pl M) (mq_bf M) (mq_br M) (mq_pu M) (mq_ls M) (mq_rows M) thr) rfl ?_
    refine bh_put (ty := .int) (v := .int 0) (w' := wh_modlX cI bd (mq_now M) (mq_fc M) (mq_bc M) (mq_sc M) (mq_dep M) (mq_lat M) (mq_brd M) (mq_pl M) (mq_bf M) (mq_br M) (mq_pu M) (mq_ls M) (mq_rows M) 0) C ct_X1_isScan_in tyX1 tyX1_ok nmX1 0 rfl rfl 13 (by decide) (by decide +kernel) rfl rfl (by decide +kernel) rfl rfl (Nat.le_of_ble_eq_true rfl) dX1_isScan_20 rfl ?_
    refine bh_aload_n C dX1_isScan_23 rfl 0 rfl ?_
    refine bh_get C ct_X1_isScan_in 0 rfl rfl 13 (by decide) (by decide +kernel) rfl (v := .int 0) rfl dX1_isScan_24 ?_
    refine bh_if_ne (tgt := 34) C dX1_isScan_27 (by decide) (fun c_27 => absurd c_27 (by decide)) (fun c_27 => ?_)
    refine bh_iconst (v := 1) C dX1_isScan_30 (by decide) ?_
    refine bh_goto (tgt := 35) C dX1_isScan_31 (by decide) ?_
    exact bh_zret C hQ dX1_isScan_35 () (v := 1) (w := wh_modlX cI bd (mq_now M) (mq_fc M) (mq_bc M) (mq_sc M) (mq_dep M) (mq_lat M) (mq_brd M) (mq_pl M) (mq_bf M) (mq_br M) (mq_pu M) (mq_ls M) (mq_rows M) 0) (by first | exact congrArg (wh_modl cI bd M) (co_in0 hv).symm | exact congrArg (wh_modl cI bd M) (co_in1 hv).symm) rfl (Nat.le_of_ble_eq_true rfl) (Nat.le_of_ble_eq_true rfl) (by first | exact (if_pos (mo_in_t hv)).symm | exact (if_neg (mo_in_f hv)).symm)
theorem ct_X1_lateralOf_in : ∀ w ∈ wsX10, w ∈ wsX1_lateralOf := by decide +kernel
set_option maxRecDepth 100000 in
set_option maxHeartbeats 4000000 in
theorem ct_X1_lateralOf (l : Launch) (D : va_G) (cI cZ cL : ClassId) (bd : Nat → Nat) {K T : Nat} (M : MT) (thr x : Int32) (hI : MI K T M) : bh_Mi l D (wh_tys cI cZ cL) yX1_lateralOf wsX1_lateralOf ({ frames := 2, cells := 0, slots := 0, locals := 43 } : Room) [.ref (bd 0), .int x] (wh_modl cI bd M thr) (fun r (_ : Unit) => co_in x (mq_fc M) = 0 → r = mq_lat M x.toNatClampNeg) (fun _ => wh_modl cI bd M (co_in x (mq_fc M))) 0 0 := by
  refine bh_ofi (cc := cX1_lateralOf) (maxL := 2) (by decide +kernel) rfl (Nat.le_of_ble_eq_true rfl) ?_
  intro p e s m args below meth c A Q _ C hQ
  refine bh_eqlv (lv' := [(0, .ref (bd 0)), (1, .int x)]) rfl ?_
  have hfc := MI_fc hI; have hbc := MI_bc hI; have hsc := MI_sc hI; have hnow := MI_now2 hI
  refine bh_aload_n C dX1_lateralOf_0 rfl 0 rfl ?_
  refine bh_iload_n C dX1_lateralOf_1 rfl 1 rfl ?_
  refine bh_calli_0 (As := [.int x]) C (ct_X1_isFlight l D cI cZ cL bd M thr x hI) (cwV 1 C.1.2.2.2.2 gX1_lateralOf_X1_isFlight rfl rfl rfl (by decide +kernel) ⟨Nat.le_of_ble_eq_true rfl, Nat.le_of_ble_eq_true rfl⟩) (ci := 1) rfl 0 rfl rfl rfl (Nat.le_of_ble_eq_true rfl) dX1_lateralOf_2 ⟨Nat.le_of_ble_eq_true rfl, Nat.le_of_ble_eq_true rfl⟩ (fun r_2 u_2 hp_2 => ?_)
  subst hp_2
  refine bh_if_eq (tgt := 17) C dX1_lateralOf_5 (by decide) (fun c_5 => ?_) (fun c_5 => ?_)
  · skip
    replace c_5 := bh_eq0 c_5
    have hv := fun q => c_5 (mo_in_t q)
    refine bh_iconst (v := 0) C dX1_lateralOf_17 (by decide) ?_
    exact bh_zret C hQ dX1_lateralOf_18 () (v := 0) (w := wh_modl cI bd M (co_in x (mq_fc M))) rfl rfl (Nat.le_of_ble_eq_true rfl) (Nat.le_of_ble_eq_true rfl) (by first | exact fun _ => rfl | exact fun z => absurd (z.symm.trans (co_in1 hv)) (by decide))
  · skip
    replace c_5 := bh_ne0 c_5
    have hv := mo_in_iff.mp c_5
    refine bh_aload_n C dX1_lateralOf_8 rfl 0 rfl ?_
    refine bh_get C ct_X1_lateralOf_in 0 rfl rfl 3 (by decide) (by decide +kernel) rfl (v := .ref (bd 3)) rfl dX1_lateralOf_9 ?_
    refine bh_iload_n C dX1_lateralOf_12 rfl 1 rfl ?_
    refine bh_iald C 2 0 (f := (mq_lat M)) rfl rfl (i := x) (bh_inW hv (by assumption)) (x := ((mq_lat M) x.toNatClampNeg)) rfl dX1_lateralOf_13 ?_
    refine bh_goto (tgt := 18) C dX1_lateralOf_14 (by decide) ?_
    exact bh_zret C hQ dX1_lateralOf_18 () (v := ((mq_lat M) x.toNatClampNeg)) (w := wh_modl cI bd M (co_in x (mq_fc M))) rfl rfl (Nat.le_of_ble_eq_true rfl) (Nat.le_of_ble_eq_true rfl) (by first | exact fun _ => rfl | exact fun z => absurd (z.symm.trans (co_in1 hv)) (by decide))
theorem ct_X1_placeOf_in : ∀ w ∈ wsX10, w ∈ wsX1_placeOf := by decide +kernel
set_option maxRecDepth 100000 in
set_option maxHeartbeats 4000000 in
theorem ct_X1_placeOf (l : Launch) (D : va_G) (cI cZ cL : ClassId) (bd : Nat → Nat) {K T : Nat} (M : MT) (thr x : Int32) (hI : MI K T M) : bh_Mi l D (wh_tys cI cZ cL) yX1_placeOf wsX1_placeOf ({ frames := 2, cells := 0, slots := 0, locals := 43 } : Room) [.ref (bd 0), .int x] (wh_modl cI bd M thr) (fun r (_ : Unit) => co_in x (mq_bc M) = 0 → r = mq_pl M x.toNatClampNeg) (fun _ => wh_modl cI bd M (co_in x (mq_bc M))) 0 0 := by
  refine bh_ofi (cc := cX1_placeOf) (maxL := 2) (by decide +kernel) rfl (Nat.le_of_ble_eq_true rfl) ?_
  intro p e s m args below meth c A Q _ C hQ
  refine bh_eqlv (lv' := [(0, .ref (bd 0)), (1, .int x)]) rfl ?_
  have hfc := MI_fc hI; have hbc := MI_bc hI; have hsc := MI_sc hI; have hnow := MI_now2 hI
  refine bh_aload_n C dX1_placeOf_0 rfl 0 rfl ?_
  refine bh_iload_n C dX1_placeOf_1 rfl 1 rfl ?_
  refine bh_calli_0 (As := [.int x]) C (ct_X1_isBag l D cI cZ cL bd M thr x hI) (cwV 1 C.1.2.2.2.2 gX1_placeOf_X1_isBag rfl rfl rfl (by decide +kernel) ⟨Nat.le_of_ble_eq_true rfl, Nat.le_of_ble_eq_true rfl⟩) (ci := 1) rfl 0 rfl rfl rfl (Nat.le_of_ble_eq_true rfl) dX1_placeOf_2 ⟨Nat.le_of_ble_eq_true rfl, Nat.le_of_ble_eq_true rfl⟩ (fun r_2 u_2 hp_2 => ?_)
  subst hp_2
  refine bh_if_eq (tgt := 17) C dX1_placeOf_5 (by decide) (fun c_5 => ?_) (fun c_5 => ?_)
  · skip
    replace c_5 := bh_eq0 c_5
    have hv := fun q => c_5 (mo_in_t q)
    refine bh_iconst (v := 0) C dX1_placeOf_17 (by decide) ?_
    exact bh_zret C hQ dX1_placeOf_18 () (v := 0) (w := wh_modl cI bd M (co_in x (mq_bc M))) rfl rfl (Nat.le_of_ble_eq_true rfl) (Nat.le_of_ble_eq_true rfl) (by first | exact fun _ => rfl | exact fun z => absurd (z.symm.trans (co_in1 hv)) (by decide))
  · skip
    replace c_5 := bh_ne0 c_5
    have hv := mo_in_iff.mp c_5
    refine bh_aload_n C dX1_placeOf_8 rfl 0 rfl ?_
    refine bh_get C ct_X1_placeOf_in 0 rfl rfl 6 (by decide) (by decide +kernel) rfl (v := .ref (bd 6)) rfl dX1_placeOf_9 ?_
    refine bh_iload_n C dX1_placeOf_12 rfl 1 rfl ?_
    refine bh_iald C 4 0 (f := (mq_pl M)) rfl rfl (i := x) (bh_inW hv (by assumption)) (x := ((mq_pl M) x.toNatClampNeg)) rfl dX1_placeOf_13 ?_
    refine bh_goto (tgt := 18) C dX1_placeOf_14 (by decide) ?_
    exact bh_zret C hQ dX1_placeOf_18 () (v := ((mq_pl M) x.toNatClampNeg)) (w := wh_modl cI bd M (co_in x (mq_bc M))) rfl rfl (Nat.le_of_ble_eq_true rfl) (Nat.le_of_ble_eq_true rfl) (by first | exact fun _ => rfl | exact fun z => absurd (z.symm.trans (co_in1 hv)) (by decide))
theorem ct_X1_flightOf_in : ∀ w ∈ wsX10, w ∈ wsX1_flightOf := by decide +kernel
set_option maxRecDepth 100000 in
set_option maxHeartbeats 4000000 in
theorem ct_X1_flightOf (l : Launch) (D : va_G) (cI cZ cL : ClassId) (bd : Nat → Nat) {K T : Nat} (M : MT) (thr x : Int32) (hI : MI K T M) : bh_Mi l D (wh_tys cI cZ cL) yX1_flightOf wsX1_flightOf ({ frames := 2, cells := 0, slots := 0, locals := 43 } : Room) [.ref (bd 0), .int x] (wh_modl cI bd M thr) (fun r (_ : Unit) => co_in x (mq_bc M) = 0 → r = mq_bf M x.toNatClampNeg) (fun _ => wh_modl cI bd M (co_in x (mq_bc M))) 0 0 := by
  refine bh_ofi (cc := cX1_flightOf) (maxL := 2) (by decide +kernel) rfl (Nat.le_of_ble_eq_true rfl) ?_
  intro p e s m args below meth c A Q _ C hQ
  refine bh_eqlv (lv' := [(0, .ref (bd 0)), (1, .int x)]) rfl ?_
  have hfc := MI_fc hI; have hbc := MI_bc hI; have hsc := MI_sc hI; have hnow := MI_now2 hI
  refine bh_aload_n C dX1_flightOf_0 rfl 0 rfl ?_
  refine bh_iload_n C dX1_flightOf_1 rfl 1 rfl ?_
  refine bh_calli_0 (As := [.int x]) C (ct_X1_isBag l D cI cZ cL bd M thr x hI) (cwV 1 C.1.2.2.2.2 gX1_flightOf_X1_isBag rfl rfl rfl (by decide +kernel) ⟨Nat.le_of_ble_eq_true rfl, Nat.le_of_ble_eq_true rfl⟩) (ci := 1) rfl 0 rfl rfl rfl (Nat.le_of_ble_eq_true rfl) dX1_flightOf_2 ⟨Nat.le_of_ble_eq_true rfl, Nat.le_of_ble_eq_true rfl⟩ (fun r_2 u_2 hp_2 => ?_)
  subst hp_2
  refine bh_if_eq (tgt := 17) C dX1_flightOf_5 (by decide) (fun c_5 => ?_) (fun c_5 => ?_)
  · skip
    replace c_5 := bh_eq0 c_5
    have hv := fun q => c_5 (mo_in_t q)
    refine bh_iconst (v := 0) C dX1_flightOf_17 (by decide) ?_
    exact bh_zret C hQ dX1_flightOf_18 () (v := 0) (w := wh_modl cI bd M (co_in x (mq_bc M))) rfl rfl (Nat.le_of_ble_eq_true rfl) (Nat.le_of_ble_eq_true rfl) (by first | exact fun _ => rfl | exact fun z => absurd (z.symm.trans (co_in1 hv)) (by decide))
  · skip
    replace c_5 := bh_ne0 c_5
    have hv := mo_in_iff.mp c_5
    refine bh_aload_n C dX1_flightOf_8 rfl 0 rfl ?_
    refine bh_get C ct_X1_flightOf_in 0 rfl rfl 7 (by decide) (by decide +kernel) rfl (v := .ref (bd 7)) rfl dX1_flightOf_9 ?_
    refine bh_iload_n C dX1_flightOf_12 rfl 1 rfl ?_
    refine bh_iald C 5 0 (f := (mq_bf M)) rfl rfl (i := x) (bh_inW hv (by assumption)) (x := ((mq_bf M) x.toNatClampNeg)) rfl dX1_flightOf_13 ?_
    refine bh_goto (tgt := 18) C dX1_flightOf_14 (by decide) ?_
    exact bh_zret C hQ dX1_flightOf_18 () (v := ((mq_bf M) x.toNatClampNeg)) (w := wh_modl cI bd M (co_in x (mq_bc M))) rfl rfl (Nat.le_of_ble_eq_true rfl) (Nat.le_of_ble_eq_true rfl) (by first | exact fun _ => rfl | exact fun z => absurd (z.symm.trans (co_in1 hv)) (by decide))
theorem ct_X1_bagOfScan_in : ∀ w ∈ wsX10, w ∈ wsX1_bagOfScan := by decide +kernel
set_option maxRecDepth 100000 in
set_option maxHeartbeats 4000000 in
theorem ct_X1_bagOfScan (l : Launch) (D : va_G) (cI cZ cL : ClassId) (bd : Nat → Nat) {K T : Nat} (M : MT) (thr x : Int32) (hI : MI K T M) : bh_Mi l D (wh_tys cI cZ cL) yX1_bagOfScan wsX1_bagOfScan ({ frames := 2, cells := 0, slots := 0, locals := 43 } : Room) [.ref (bd 0), .int x] (wh_modl cI bd M thr) (fun r (_ : Unit) => co_in x (mq_sc M) = 0 → r = mq_sb M x.toNatClampNeg) (fun _ => wh_modl cI bd M (co_in x (mq_sc M))) 0 0 := by
  refine bh_ofi (cc := cX1_bagOfScan) (maxL := 2) (by decide +kernel) rfl (Nat.le_of_ble_eq_true rfl) ?_
  intro p e s m args below meth c A Q _ C hQ
  refine bh_eqlv (lv' := [(0, .ref (bd 0)), (1, .int x)]) rfl ?_
  have hfc := MI_fc hI; have hbc := MI_bc hI; have hsc := MI_sc hI; have hnow := MI_now2 hI
  refine bh_aload_n C dX1_bagOfScan_0 rfl 0 rfl ?_
  refine bh_iload_n C dX1_bagOfScan_1 rfl 1 rfl ?_
  refine bh_calli_0 (As := [.int x]) C (ct_X1_isScan l D cI cZ cL bd M thr x hI) (cwV 1 C.1.2.2.2.2 gX1_bagOfScan_X1_isScan rfl rfl rfl (by decide +kernel) ⟨Nat.le_of_ble_eq_true rfl, Nat.le_of_ble_eq_true rfl⟩) (ci := 1) rfl 0 rfl rfl rfl (Nat.le_of_ble_eq_true rfl) dX1_bagOfScan_2 ⟨Nat.le_of_ble_eq_true rfl, Nat.le_of_ble_eq_true rfl⟩ (fun r_2 u_2 hp_2 => ?_)
  subst hp_2
  refine bh_if_eq (tgt := 20) C dX1_bagOfScan_5 (by decide) (fun c_5 => ?_) (fun c_5 => ?_)
  · skip
    replace c_5 := bh_eq0 c_5
    have hv := fun q => c_5 (mo_in_t q)
    refine bh_iconst (v := 0) C dX1_bagOfScan_20 (by decide) ?_
    exact bh_zret C hQ dX1_bagOfScan_21 () (v := 0) (w := wh_modl cI bd M (co_in x (mq_sc M))) rfl rfl (Nat.le_of_ble_eq_true rfl) (Nat.le_of_ble_eq_true rfl) (by first | exact fun _ => rfl | exact fun z => absurd (z.symm.trans (co_in1 hv)) (by decide))
  · skip
    replace c_5 := bh_ne0 c_5
    have hv := mo_in_iff.mp c_5
    refine bh_aload_n C dX1_bagOfScan_8 rfl 0 rfl ?_
    refine bh_get C ct_X1_bagOfScan_in 0 rfl rfl 12 (by decide) (by decide +kernel) rfl (v := .ref (bd 12)) rfl dX1_bagOfScan_9 ?_
    refine bh_iload_n C dX1_bagOfScan_12 rfl 1 rfl ?_
    refine bh_iald C 9 0 (f := (mq_rows M)) rfl rfl (i := x) (bh_inW hv (by omega)) (x := ((mq_rows M) x.toNatClampNeg)) rfl dX1_bagOfScan_13 ?_
    refine bh_bipush (v := 64) C dX1_bagOfScan_14 (by decide) ?_
    refine bh_irem C dX1_bagOfScan_16 (by decide) ?_
    refine bh_topi (rows_sb hI _) ?_
    refine bh_goto (tgt := 21) C dX1_bagOfScan_17 (by decide) ?_
    exact bh_zret C hQ dX1_bagOfScan_21 () (v := (mq_sb M x.toNatClampNeg)) (w := wh_modl cI bd M (co_in x (mq_sc M))) rfl rfl (Nat.le_of_ble_eq_true rfl) (Nat.le_of_ble_eq_true rfl) (by first | exact fun _ => rfl | exact fun z => absurd (z.symm.trans (co_in1 hv)) (by decide))
theorem ct_X1_placeOfScan_in : ∀ w ∈ wsX10, w ∈ wsX1_placeOfScan := by decide +kernel
set_option maxRecDepth 100000 in
set_option maxHeartbeats 4000000 in
theorem ct_X1_placeOfScan (l : Launch) (D : va_G) (cI cZ cL : ClassId) (bd : Nat → Nat) {K T : Nat} (M : MT) (thr x : Int32) (hI : MI K T M) : bh_Mi l D (wh_tys cI cZ cL) yX1_placeOfScan wsX1_placeOfScan ({ frames := 2, cells := 0, slots := 0, locals := 43 } : Room) [.ref (bd 0), .int x] (wh_modl cI bd M thr) (fun r (_ : Unit) => co_in x (mq_sc M) = 0 → r = mq_sp M x.toNatClampNeg) (fun _ => wh_modl cI bd M (co_in x (mq_sc M))) 0 0 := by
  refine bh_ofi (cc := cX1_placeOfScan) (maxL := 2) (by decide +kernel) rfl (Nat.le_of_ble_eq_true rfl) ?_
  intro p e s m args below meth c A Q _ C hQ
  refine bh_eqlv (lv' := [(0, .ref (bd 0)), (1, .int x)]) rfl ?_
  have hfc := MI_fc hI; have hbc := MI_bc hI; have hsc := MI_sc hI; have hnow := MI_now2 hI
  refine bh_aload_n C dX1_placeOfScan_0 rfl 0 rfl ?_
  refine bh_iload_n C dX1_placeOfScan_1 rfl 1 rfl ?_
  refine bh_calli_0 (As := [.int x]) C (ct_X1_isScan l D cI cZ cL bd M thr x hI) (cwV 1 C.1.2.2.2.2 gX1_placeOfScan_X1_isScan rfl rfl rfl (by decide +kernel) ⟨Nat.le_of_ble_eq_true rfl, Nat.le_of_ble_eq_true rfl⟩) (ci := 1) rfl 0 rfl rfl rfl (Nat.le_of_ble_eq_true rfl) dX1_placeOfScan_2 ⟨Nat.le_of_ble_eq_true rfl, Nat.le_of_ble_eq_true rfl⟩ (fun r_2 u_2 hp_2 => ?_)
  subst hp_2
  refine bh_if_eq (tgt := 23) C dX1_placeOfScan_5 (by decide) (fun c_5 => ?_) (fun c_5 => ?_)
  · skip
    replace c_5 := bh_eq0 c_5
    have hv := fun q => c_5 (mo_in_t q)
    refine bh_iconst (v := 0) C dX1_placeOfScan_23 (by decide) ?_
    exact bh_zret C hQ dX1_placeOfScan_24 () (v := 0) (w := wh_modl cI bd M (co_in x (mq_sc M))) rfl rfl (Nat.le_of_ble_eq_true rfl) (Nat.le_of_ble_eq_true rfl) (by first | exact fun _ => rfl | exact fun z => absurd (z.symm.trans (co_in1 hv)) (by decide))
  · skip
    replace c_5 := bh_ne0 c_5
    have hv := mo_in_iff.mp c_5
    refine bh_aload_n C dX1_placeOfScan_8 rfl 0 rfl ?_
    refine bh_get C ct_X1_placeOfScan_in 0 rfl rfl 12 (by decide) (by decide +kernel) rfl (v := .ref (bd 12)) rfl dX1_placeOfScan_9 ?_
    refine bh_iload_n C dX1_placeOfScan_12 rfl 1 rfl ?_
    refine bh_iald C 9 0 (f := (mq_rows M)) rfl rfl (i := x) (bh_inW hv (by omega)) (x := ((mq_rows M) x.toNatClampNeg)) rfl dX1_placeOfScan_13 ?_
    refine bh_bipush (v := 64) C dX1_placeOfScan_14 (by decide) ?_
    refine bh_idiv C dX1_placeOfScan_16 (by decide) ?_
    refine bh_bipush (v := 16) C dX1_placeOfScan_17 (by decide) ?_
    refine bh_irem C dX1_placeOfScan_19 (by decide) ?_
    refine bh_topi (rows_sp hI _) ?_
    refine bh_goto (tgt := 24) C dX1_placeOfScan_20 (by decide) ?_
    exact bh_zret C hQ dX1_placeOfScan_24 () (v := (mq_sp M x.toNatClampNeg)) (w := wh_modl cI bd M (co_in x (mq_sc M))) rfl rfl (Nat.le_of_ble_eq_true rfl) (Nat.le_of_ble_eq_true rfl) (by first | exact fun _ => rfl | exact fun z => absurd (z.symm.trans (co_in1 hv)) (by decide))
theorem ct_X1_time_in : ∀ w ∈ wsX10, w ∈ wsX1_time := by decide +kernel
set_option maxRecDepth 100000 in
set_option maxHeartbeats 4000000 in
theorem ct_X1_time (l : Launch) (D : va_G) (cI cZ cL : ClassId) (bd : Nat → Nat) (M : MT) (thr : Int32)  : bh_Mi l D (wh_tys cI cZ cL) yX1_time wsX1_time ({ frames := 0, cells := 0, slots := 0, locals := 0 } : Room) [.ref (bd 0)] (wh_modl cI bd M thr) (fun r (_ : Unit) => r = nI (mq_now M)) (fun _ => wh_modl cI bd M 0) 0 0 := by
  refine bh_ofi (cc := cX1_time) (maxL := 1) (by decide +kernel) rfl (Nat.le_of_ble_eq_true rfl) ?_
  intro p e s m args below meth c A Q _ C hQ
  refine bh_eqlv (lv' := [(0, .ref (bd 0))]) rfl ?_
  refine bh_aload_n C dX1_time_0 rfl 0 rfl ?_
  refine bh_iconst (v := 0) C dX1_time_1 (by decide) ?_
  refine bh_eqw (w' := wh_modlX cI bd (mq_now M) (mq_fc M) (mq_bc M) (mq_sc M) (mq_dep M) (mq_lat M) (mq_brd M) (mq_pl M) (mq_bf M) (mq_br M) (mq_pu M) (mq_ls M) (mq_rows M) thr) rfl ?_
  refine bh_put (ty := .int) (v := .int 0) (w' := wh_modlX cI bd (mq_now M) (mq_fc M) (mq_bc M) (mq_sc M) (mq_dep M) (mq_lat M) (mq_brd M) (mq_pl M) (mq_bf M) (mq_br M) (mq_pu M) (mq_ls M) (mq_rows M) 0) C ct_X1_time_in tyX1 tyX1_ok nmX1 0 rfl rfl 13 (by decide) (by decide +kernel) rfl rfl (by decide +kernel) rfl rfl (Nat.le_of_ble_eq_true rfl) dX1_time_2 rfl ?_
  refine bh_aload_n C dX1_time_5 rfl 0 rfl ?_
  refine bh_get C ct_X1_time_in 0 rfl rfl 0 (by decide) (by decide +kernel) rfl (v := .int (nI (mq_now M))) rfl dX1_time_6 ?_
  exact bh_zret C hQ dX1_time_9 () (v := (nI (mq_now M))) (w := wh_modlX cI bd (mq_now M) (mq_fc M) (mq_bc M) (mq_sc M) (mq_dep M) (mq_lat M) (mq_brd M) (mq_pl M) (mq_bf M) (mq_br M) (mq_pu M) (mq_ls M) (mq_rows M) 0) rfl rfl (Nat.le_of_ble_eq_true rfl) (Nat.le_of_ble_eq_true rfl) rfl
theorem ct_X1_bags_in : ∀ w ∈ wsX10, w ∈ wsX1_bags := by decide +kernel
set_option maxRecDepth 100000 in
set_option maxHeartbeats 4000000 in
theorem ct_X1_bags (l : Launch) (D : va_G) (cI cZ cL : ClassId) (bd : Nat → Nat) (M : MT) (thr : Int32)  : bh_Mi l D (wh_tys cI cZ cL) yX1_bags wsX1_bags ({ frames := 0, cells := 0, slots := 0, locals := 0 } : Room) [.ref (bd 0)] (wh_modl cI bd M thr) (fun r (_ : Unit) => r = nI (mq_bc M)) (fun _ => wh_modl cI bd M 0) 0 0 := by
  refine bh_ofi (cc := cX1_bags) (maxL := 1) (by decide +kernel) rfl (Nat.le_of_ble_eq_true rfl) ?_
  intro p e s m args below meth c A Q _ C hQ
  refine bh_eqlv (lv' := [(0, .ref (bd 0))]) rfl ?_
  refine bh_aload_n C dX1_bags_0 rfl 0 rfl ?_
  refine bh_iconst (v := 0) C dX1_bags_1 (by decide) ?_
  refine bh_eqw (w' := wh_modlX cI bd (mq_now M) (mq_fc M) (mq_bc M) (mq_sc M) (mq_dep M) (mq_lat M) (mq_brd M) (mq_pl M) (mq_bf M) (mq_br M) (mq_pu M) (mq_ls M) (mq_rows M) thr) rfl ?_
  refine bh_put (ty := .int) (v := .int 0) (w' := wh_modlX cI bd (mq_now M) (mq_fc M) (mq_bc M) (mq_sc M) (mq_dep M) (mq_lat M) (mq_brd M) (mq_pl M) (mq_bf M) (mq_br M) (mq_pu M) (mq_ls M) (mq_rows M) 0) C ct_X1_bags_in tyX1 tyX1_ok nmX1 0 rfl rfl 13 (by decide) (by decide +kernel) rfl rfl (by decide +kernel) rfl rfl (Nat.le_of_ble_eq_true rfl) dX1_bags_2 rfl ?_
  refine bh_aload_n C dX1_bags_5 rfl 0 rfl ?_
  refine bh_get C ct_X1_bags_in 0 rfl rfl 5 (by decide) (by decide +kernel) rfl (v := .int (nI (mq_bc M))) rfl dX1_bags_6 ?_
  exact bh_zret C hQ dX1_bags_9 () (v := (nI (mq_bc M))) (w := wh_modlX cI bd (mq_now M) (mq_fc M) (mq_bc M) (mq_sc M) (mq_dep M) (mq_lat M) (mq_brd M) (mq_pl M) (mq_bf M) (mq_br M) (mq_pu M) (mq_ls M) (mq_rows M) 0) rfl rfl (Nat.le_of_ble_eq_true rfl) (Nat.le_of_ble_eq_true rfl) rfl
theorem ct_X1_scans_in : ∀ w ∈ wsX10, w ∈ wsX1_scans := by decide +kernel
set_option maxRecDepth 100000 in
set_option maxHeartbeats 4000000 in
theorem ct_X1_scans (l : Launch) (D : va_G) (cI cZ cL : ClassId) (bd : Nat → Nat) (M : MT) (thr : Int32)  : bh_Mi l D (wh_tys cI cZ cL) yX1_scans wsX1_scans ({ frames := 0, cells := 0, slots := 0, locals := 0 } : Room) [.ref (bd 0)] (wh_modl cI bd M thr) (fun r (_ : Unit) => r = nI (mq_sc M)) (fun _ => wh_modl cI bd M 0) 0 0 := by
  refine bh_ofi (cc := cX1_scans) (maxL := 1) (by decide +kernel) rfl (Nat.le_of_ble_eq_true rfl) ?_
  intro p e s m args below meth c A Q _ C hQ
  refine bh_eqlv (lv' := [(0, .ref (bd 0))]) rfl ?_
  refine bh_aload_n C dX1_scans_0 rfl 0 rfl ?_
  refine bh_iconst (v := 0) C dX1_scans_1 (by decide) ?_
  refine bh_eqw (w' := wh_modlX cI bd (mq_now M) (mq_fc M) (mq_bc M) (mq_sc M) (mq_dep M) (mq_lat M) (mq_brd M) (mq_pl M) (mq_bf M) (mq_br M) (mq_pu M) (mq_ls M) (mq_rows M) thr) rfl ?_
  refine bh_put (ty := .int) (v := .int 0) (w' := wh_modlX cI bd (mq_now M) (mq_fc M) (mq_bc M) (mq_sc M) (mq_dep M) (mq_lat M) (mq_brd M) (mq_pl M) (mq_bf M) (mq_br M) (mq_pu M) (mq_ls M) (mq_rows M) 0) C ct_X1_scans_in tyX1 tyX1_ok nmX1 0 rfl rfl 13 (by decide) (by decide +kernel) rfl rfl (by decide +kernel) rfl rfl (Nat.le_of_ble_eq_true rfl) dX1_scans_2 rfl ?_
  refine bh_aload_n C dX1_scans_5 rfl 0 rfl ?_
  refine bh_get C ct_X1_scans_in 0 rfl rfl 11 (by decide) (by decide +kernel) rfl (v := .int (nI (mq_sc M))) rfl dX1_scans_6 ?_
  exact bh_zret C hQ dX1_scans_9 () (v := (nI (mq_sc M))) (w := wh_modlX cI bd (mq_now M) (mq_fc M) (mq_bc M) (mq_sc M) (mq_dep M) (mq_lat M) (mq_brd M) (mq_pl M) (mq_bf M) (mq_br M) (mq_pu M) (mq_ls M) (mq_rows M) 0) rfl rfl (Nat.le_of_ble_eq_true rfl) (Nat.le_of_ble_eq_true rfl) rfl
theorem ct_X1_untilClose_in : ∀ w ∈ wsX10, w ∈ wsX1_untilClose := by decide +kernel
set_option maxRecDepth 100000 in
set_option maxHeartbeats 4000000 in
theorem ct_X1_untilClose (l : Launch) (D : va_G) (cI cZ cL : ClassId) (bd : Nat → Nat) {K T : Nat} (M : MT) (thr x : Int32) (hI : MI K T M) : bh_Mi l D (wh_tys cI cZ cL) yX1_untilClose wsX1_untilClose ({ frames := 2, cells := 0, slots := 0, locals := 43 } : Room) [.ref (bd 0), .int x] (wh_modl cI bd M thr) (fun r (_ : Unit) => co_in x (mq_fc M) = 0 → r = (if 0 < mq_dep M x.toNatClampNeg - 10 - nI (mq_now M) then mq_dep M x.toNatClampNeg - 10 - nI (mq_now M) else 0)) (fun _ => wh_modl cI bd M (co_in x (mq_fc M))) 0 0 := by
  refine bh_ofi (cc := cX1_untilClose) (maxL := 3) (by decide +kernel) rfl (Nat.le_of_ble_eq_true rfl) ?_
  intro p e s m args below meth c A Q _ C hQ
  refine bh_eqlv (lv' := [(0, .ref (bd 0)), (1, .int x)]) rfl ?_
  have hfc := MI_fc hI; have hbc := MI_bc hI; have hsc := MI_sc hI; have hnow := MI_now2 hI
  refine bh_aload_n C dX1_untilClose_0 rfl 0 rfl ?_
  refine bh_iload_n C dX1_untilClose_1 rfl 1 rfl ?_
  refine bh_calli_0 (As := [.int x]) C (ct_X1_isFlight l D cI cZ cL bd M thr x hI) (cwV 1 C.1.2.2.2.2 gX1_untilClose_X1_isFlight rfl rfl rfl (by decide +kernel) ⟨Nat.le_of_ble_eq_true rfl, Nat.le_of_ble_eq_true rfl⟩) (ci := 1) rfl 0 rfl rfl rfl (Nat.le_of_ble_eq_true rfl) dX1_untilClose_2 ⟨Nat.le_of_ble_eq_true rfl, Nat.le_of_ble_eq_true rfl⟩ (fun r_2 u_2 hp_2 => ?_)
  subst hp_2
  refine bh_if_ne (tgt := 10) C dX1_untilClose_5 (by decide) (fun c_5 => ?_) (fun c_5 => ?_)
  · skip
    replace c_5 := bh_ne0 c_5
    have hv := mo_in_iff.mp c_5
    refine bh_aload_n C dX1_untilClose_10 rfl 0 rfl ?_
    refine bh_get C ct_X1_untilClose_in 0 rfl rfl 2 (by decide) (by decide +kernel) rfl (v := .ref (bd 2)) rfl dX1_untilClose_11 ?_
    refine bh_iload_n C dX1_untilClose_14 rfl 1 rfl ?_
    refine bh_iald C 1 0 (f := (mq_dep M)) rfl rfl (i := x) (bh_inW hv (by assumption)) (x := ((mq_dep M) x.toNatClampNeg)) rfl dX1_untilClose_15 ?_
    refine bh_bipush (v := 10) C dX1_untilClose_16 (by decide) ?_
    refine bh_isub C dX1_untilClose_18 ?_
    refine bh_aload_n C dX1_untilClose_19 rfl 0 rfl ?_
    refine bh_get C ct_X1_untilClose_in 0 rfl rfl 0 (by decide) (by decide +kernel) rfl (v := .int (nI (mq_now M))) rfl dX1_untilClose_20 ?_
    refine bh_isub C dX1_untilClose_23 ?_
    refine bh_istore_n (lv' := [(2, .int ((((mq_dep M) x.toNatClampNeg) - 10) - (nI (mq_now M)))), (0, .ref (bd 0)), (1, .int x)]) C dX1_untilClose_24 rfl (by decide) rfl ?_
    refine bh_iload_n C dX1_untilClose_25 rfl 0 rfl ?_
    refine bh_if_le (tgt := 33) C dX1_untilClose_26 (by decide) (fun c_26 => ?_) (fun c_26 => ?_)
    · skip
      refine bh_iconst (v := 0) C dX1_untilClose_33 (by decide) ?_
      exact bh_zret C hQ dX1_untilClose_34 () (v := 0) (w := wh_modl cI bd M (co_in x (mq_fc M))) rfl rfl (Nat.le_of_ble_eq_true rfl) (Nat.le_of_ble_eq_true rfl) (by first | exact fun _ => (if_neg (Int32.not_lt.mpr c_26)).symm | exact fun _ => (if_pos (bh_nle3 c_26)).symm)
    · skip
      refine bh_iload_n C dX1_untilClose_29 rfl 0 rfl ?_
      refine bh_goto (tgt := 34) C dX1_untilClose_30 (by decide) ?_
      exact bh_zret C hQ dX1_untilClose_34 () (v := ((((mq_dep M) x.toNatClampNeg) - 10) - (nI (mq_now M)))) (w := wh_modl cI bd M (co_in x (mq_fc M))) rfl rfl (Nat.le_of_ble_eq_true rfl) (Nat.le_of_ble_eq_true rfl) (by first | exact fun _ => (if_neg (Int32.not_lt.mpr c_26)).symm | exact fun _ => (if_pos (bh_nle3 c_26)).symm)
  · skip
    replace c_5 := bh_eq0 c_5
    have hv := fun q => c_5 (mo_in_t q)
    refine bh_iconst (v := 0) C dX1_untilClose_8 (by decide) ?_
    exact bh_zret C hQ dX1_untilClose_9 () (v := 0) (w := wh_modl cI bd M (co_in x (mq_fc M))) rfl rfl (Nat.le_of_ble_eq_true rfl) (Nat.le_of_ble_eq_true rfl) (fun z => absurd (z.symm.trans (co_in1 hv)) (by decide))
theorem ct_X1_comes_in : ∀ w ∈ wsX10, w ∈ wsX1_comes := by decide +kernel
set_option maxRecDepth 100000 in
set_option maxHeartbeats 4000000 in
theorem ct_X1_comes (l : Launch) (D : va_G) (cI cZ cL : ClassId) (bd : Nat → Nat) (M : MT) (thr : Int32) (k : Nat) (v0 : Int32) (hk : k < 48) (hsc : mq_sc M < 6000) : bh_Mv l D (wh_tys cI cZ cL) yX1_comes wsX1_comes ({ frames := 0, cells := 0, slots := 0, locals := 0 } : Room) [.ref (bd 0), .int (nI k), .int v0] (wh_modl cI bd M thr) (fun (_ : Unit) => True) (fun _ => wh_modl cI bd (mo_bring M k v0) thr) 0 0 := by
  refine bh_ofv (cc := cX1_comes) (maxL := 3) (by decide +kernel) rfl (Nat.le_of_ble_eq_true rfl) ?_
  intro p e s m args below meth c A Q _ C hQ
  refine bh_eqlv (lv' := [(0, .ref (bd 0)), (1, .int (nI k)), (2, .int v0)]) rfl ?_
  refine bh_aload_n C dX1_comes_0 rfl 0 rfl ?_
  refine bh_get C ct_X1_comes_in 0 rfl rfl 6 (by decide) (by decide +kernel) rfl (v := .ref (bd 6)) rfl dX1_comes_1 ?_
  refine bh_iload_n C dX1_comes_4 rfl 1 rfl ?_
  refine bh_iload_n C dX1_comes_5 rfl 2 rfl ?_
  refine bh_eqw (w' := wh_modlX cI bd (mq_now M) (mq_fc M) (mq_bc M) (mq_sc M) (mq_dep M) (mq_lat M) (mq_brd M) (mq_pl M) (mq_bf M) (mq_br M) (mq_pu M) (mq_ls M) (mq_rows M) thr) rfl ?_
  refine bh_iast (w' := wh_modlX cI bd (mq_now M) (mq_fc M) (mq_bc M) (mq_sc M) (mq_dep M) (mq_lat M) (mq_brd M) (upd (mq_pl M) (k) v0) (mq_bf M) (mq_br M) (mq_pu M) (mq_ls M) (mq_rows M) thr) C 4 0 rfl rfl (vp_in_nI (n := k) (by omega) (by decide)) dX1_comes_6 (by rw [nI_clamp (n := k) (by omega)]; rfl) ?_
  refine bh_aload_n C dX1_comes_7 rfl 0 rfl ?_
  refine bh_get C ct_X1_comes_in 0 rfl rfl 10 (by decide) (by decide +kernel) rfl (v := .ref (bd 10)) rfl dX1_comes_8 ?_
  refine bh_iload_n C dX1_comes_11 rfl 1 rfl ?_
  refine bh_aload_n C dX1_comes_12 rfl 0 rfl ?_
  refine bh_get C ct_X1_comes_in 0 rfl rfl 11 (by decide) (by decide +kernel) rfl (v := .int (nI (mq_sc M))) rfl dX1_comes_13 ?_
  refine bh_iast (w' := wh_modlX cI bd (mq_now M) (mq_fc M) (mq_bc M) (mq_sc M) (mq_dep M) (mq_lat M) (mq_brd M) (upd (mq_pl M) (k) v0) (mq_bf M) (mq_br M) (mq_pu M) (upd (mq_ls M) (k) (nI (mq_sc M))) (mq_rows M) thr) C 8 0 rfl rfl (vp_in_nI (n := k) (by omega) (by decide)) dX1_comes_16 (by rw [nI_clamp (n := k) (by omega)]; rfl) ?_
  refine bh_aload_n C dX1_comes_17 rfl 0 rfl ?_
  refine bh_get C ct_X1_comes_in 0 rfl rfl 12 (by decide) (by decide +kernel) rfl (v := .ref (bd 12)) rfl dX1_comes_18 ?_
  refine bh_aload_n C dX1_comes_21 rfl 0 rfl ?_
  refine bh_get C ct_X1_comes_in 0 rfl rfl 11 (by decide) (by decide +kernel) rfl (v := .int (nI (mq_sc M))) rfl dX1_comes_22 ?_
  refine bh_iload_n C dX1_comes_25 rfl 1 rfl ?_
  refine bh_bipush (v := 64) C dX1_comes_26 (by decide) ?_
  refine bh_iload_n C dX1_comes_28 rfl 2 rfl ?_
  refine bh_imul C dX1_comes_29 ?_
  refine bh_iadd C dX1_comes_30 ?_
  refine bh_sipush (v := 1024) C dX1_comes_31 (by decide) ?_
  refine bh_aload_n C dX1_comes_34 rfl 0 rfl ?_
  refine bh_get C ct_X1_comes_in 0 rfl rfl 0 (by decide) (by decide +kernel) rfl (v := .int (nI (mq_now M))) rfl dX1_comes_35 ?_
  refine bh_imul C dX1_comes_38 ?_
  refine bh_iadd C dX1_comes_39 ?_
  refine bh_iast (w' := wh_modlX cI bd (mq_now M) (mq_fc M) (mq_bc M) (mq_sc M) (mq_dep M) (mq_lat M) (mq_brd M) (upd (mq_pl M) (k) v0) (mq_bf M) (mq_br M) (mq_pu M) (upd (mq_ls M) (k) (nI (mq_sc M))) (upd (mq_rows M) ((mq_sc M)) (((nI k) + (64 * v0)) + (1024 * (nI (mq_now M))))) thr) C 9 0 rfl rfl (vp_in_nI (n := (mq_sc M)) (by omega) (by decide)) dX1_comes_40 (by rw [nI_clamp (n := (mq_sc M)) (by omega)]; rfl) ?_
  refine bh_aload_n C dX1_comes_41 rfl 0 rfl ?_
  refine bh_dup C dX1_comes_42 rfl ?_
  refine bh_get C ct_X1_comes_in 0 rfl rfl 11 (by decide) (by decide +kernel) rfl (v := .int (nI (mq_sc M))) rfl dX1_comes_43 ?_
  refine bh_iconst (v := 1) C dX1_comes_46 (by decide) ?_
  refine bh_iadd C dX1_comes_47 ?_
  refine bh_topi (nI_1 _) ?_
  refine bh_put (ty := .int) (v := .int (nI ((mq_sc M) + 1))) (w' := wh_modlX cI bd (mq_now M) (mq_fc M) (mq_bc M) (((mq_sc M) + 1)) (mq_dep M) (mq_lat M) (mq_brd M) (upd (mq_pl M) (k) v0) (mq_bf M) (mq_br M) (mq_pu M) (upd (mq_ls M) (k) (nI (mq_sc M))) (upd (mq_rows M) ((mq_sc M)) (((nI k) + (64 * v0)) + (1024 * (nI (mq_now M))))) thr) C ct_X1_comes_in tyX1 tyX1_ok nmX1 0 rfl rfl 11 (by decide) (by decide +kernel) rfl rfl (by decide +kernel) rfl rfl (Nat.le_of_ble_eq_true rfl) dX1_comes_48 rfl ?_
  exact bh_vret C hQ dX1_comes_51 () (w := wh_modlX cI bd (mq_now M) (mq_fc M) (mq_bc M) (((mq_sc M) + 1)) (mq_dep M) (mq_lat M) (mq_brd M) (upd (mq_pl M) (k) v0) (mq_bf M) (mq_br M) (mq_pu M) (upd (mq_ls M) (k) (nI (mq_sc M))) (upd (mq_rows M) ((mq_sc M)) (((nI k) + (64 * v0)) + (1024 * (nI (mq_now M))))) thr) (wh_comes M k v0) (Nat.le_of_ble_eq_true rfl) (Nat.le_of_ble_eq_true rfl) trivial
theorem ct_X1_at_in : ∀ w ∈ wsX10, w ∈ wsX1_at := by decide +kernel
set_option maxRecDepth 100000 in
set_option maxHeartbeats 4000000 in
theorem ct_X1_at (l : Launch) (D : va_G) (cI cZ cL : ClassId) (bd : Nat → Nat) {K T : Nat} (M : MT) (thr x : Int32) (hI : MI K T M) : bh_Mi l D (wh_tys cI cZ cL) yX1_at wsX1_at ({ frames := 0, cells := 0, slots := 0, locals := 0 } : Room) [.ref (bd 0), .int x] (wh_modl cI bd M thr) (fun r (_ : Unit) => r = nI (mo_cn (fun j => decide (mq_pl M j = x)) (mq_bc M))) (fun _ => wh_modl cI bd M thr) 0 0 := by
  refine bh_ofi (cc := cX1_at) (maxL := 4) (by decide +kernel) rfl (Nat.le_of_ble_eq_true rfl) ?_
  intro p e s m args below meth c A Q _ C hQ
  refine bh_eqlv (lv' := [(0, .ref (bd 0)), (1, .int x)]) rfl ?_
  have hfc := MI_fc hI; have hbc := MI_bc hI; have hsc := MI_sc hI; have hnow := MI_now2 hI
  refine bh_iconst (v := 0) C dX1_at_0 (by decide) ?_
  refine bh_istore_n (lv' := [(2, .int 0), (0, .ref (bd 0)), (1, .int x)]) C dX1_at_1 rfl (by decide) rfl ?_
  refine bh_iconst (v := 0) C dX1_at_2 (by decide) ?_
  refine bh_istore_n (lv' := [(3, .int 0), (2, .int 0), (0, .ref (bd 0)), (1, .int x)]) C dX1_at_3 rfl (by decide) rfl ?_
  have loop : ∀ (n : Nat) (k : Nat), mq_bc M + 1 ≤ k + n → k ≤ mq_bc M → bh_W p l e ({ frames := 0, cells := 0, slots := 0, locals := 0 } : Room) s m args below meth c 4 D A 0 0 Q (wh_modl cI bd M thr) ([(3, .int (nI k)), (2, .int (nI (mo_cn (fun j => decide (mq_pl M j = x)) k))), (0, .ref (bd 0)), (1, .int x)]) 4 [] := by
    intro n
    induction n with
    | zero => intro k h1 h2; exact absurd h1 (by omega)
    | succ n ih =>
      intro k h1 h2
      refine bh_iload_n C dX1_at_4 rfl 0 rfl ?_
      refine bh_aload_n C dX1_at_5 rfl 2 rfl ?_
      refine bh_get C ct_X1_at_in 0 rfl rfl 5 (by decide) (by decide +kernel) rfl (v := .int (nI (mq_bc M))) rfl dX1_at_6 ?_
      refine bh_icmp_ge (tgt := 36) C dX1_at_9 (by decide) (fun c_9 => ?_) (fun c_9 => ?_)
      · skip
        have c_9 := bh_le (by omega) (by omega) c_9
        have hkb : k = mq_bc M := by omega
        refine bh_iload_n C dX1_at_36 rfl 1 rfl ?_
        exact bh_zret C hQ dX1_at_37 () (v := (nI (mo_cn (fun j => decide (mq_pl M j = x)) k))) (w := wh_modl cI bd M thr) rfl rfl (Nat.le_of_ble_eq_true rfl) (Nat.le_of_ble_eq_true rfl) (by rw [hkb])
      · skip
        have c_9 := bh_nle2 (by omega) (by omega) c_9
        refine bh_iload_n C dX1_at_12 rfl 1 rfl ?_
        refine bh_aload_n C dX1_at_13 rfl 2 rfl ?_
        refine bh_get C ct_X1_at_in 0 rfl rfl 6 (by decide) (by decide +kernel) rfl (v := .ref (bd 6)) rfl dX1_at_14 ?_
        refine bh_iload_n C dX1_at_17 rfl 0 rfl ?_
        refine bh_iald C 4 0 (f := (mq_pl M)) rfl rfl (i := (nI k)) (vp_in_nI (n := k) (by omega) (by decide)) (x := ((mq_pl M) k)) (congrArg (mq_pl M) (nI_clamp (n := k) (by omega))) dX1_at_18 ?_
        refine bh_iload_n C dX1_at_19 rfl 3 rfl ?_
        refine bh_icmp_ne (tgt := 27) C dX1_at_20 (by decide) (fun c_20 => ?_) (fun c_20 => ?_)
        · skip
          refine bh_iconst (v := 0) C dX1_at_27 (by decide) ?_
          refine bh_iadd C dX1_at_28 ?_
          refine bh_topi (Int32.add_zero _) ?_
          refine bh_istore_n (lv' := [(2, .int (nI (mo_cn (fun j => decide (mq_pl M j = x)) k))), (3, .int (nI k)), (0, .ref (bd 0)), (1, .int x)]) C dX1_at_29 rfl (by decide) rfl ?_
          refine bh_iinc (v := (nI (k + 1))) (lv' := [(3, .int (nI (k + 1))), (2, .int (nI (mo_cn (fun j => decide (mq_pl M j = x)) k))), (0, .ref (bd 0)), (1, .int x)]) C dX1_at_30 (k := 1) rfl (nI_1 _) (by decide) rfl ?_
          refine bh_goto (tgt := 4) C dX1_at_33 (by decide) ?_
          refine bh_eqlv (lv' := [(3, .int (nI (k + 1))), (2, .int (nI (mo_cn (fun j => decide (mq_pl M j = x)) (k + 1)))), (0, .ref (bd 0)), (1, .int x)]) (by rw [bh_cn0 (f := (fun j => decide (mq_pl M j = x))) (decide_eq_false c_20)]) ?_
          exact bh_lv [0, 1, 2, 3] rfl (ih (k + 1) (by omega) (by omega))
        · skip
          refine bh_iconst (v := 1) C dX1_at_23 (by decide) ?_
          refine bh_goto (tgt := 28) C dX1_at_24 (by decide) ?_
          refine bh_iadd C dX1_at_28 ?_
          refine bh_topi (nI_1 _) ?_
          refine bh_istore_n (lv' := [(2, .int (nI ((mo_cn (fun j => decide (mq_pl M j = x)) k) + 1))), (3, .int (nI k)), (0, .ref (bd 0)), (1, .int x)]) C dX1_at_29 rfl (by decide) rfl ?_
          refine bh_iinc (v := (nI (k + 1))) (lv' := [(3, .int (nI (k + 1))), (2, .int (nI ((mo_cn (fun j => decide (mq_pl M j = x)) k) + 1))), (0, .ref (bd 0)), (1, .int x)]) C dX1_at_30 (k := 1) rfl (nI_1 _) (by decide) rfl ?_
          refine bh_goto (tgt := 4) C dX1_at_33 (by decide) ?_
          refine bh_eqlv (lv' := [(3, .int (nI (k + 1))), (2, .int (nI (mo_cn (fun j => decide (mq_pl M j = x)) (k + 1)))), (0, .ref (bd 0)), (1, .int x)]) (by rw [bh_cn1 (f := (fun j => decide (mq_pl M j = x))) (decide_eq_true c_20)]) ?_
          exact bh_lv [0, 1, 2, 3] rfl (ih (k + 1) (by omega) (by omega))
  exact bh_lv [0, 1, 2, 3] rfl (loop (mq_bc M + 1) 0 (by omega) (by omega))
theorem ct_X1_loaded_in : ∀ w ∈ wsX10, w ∈ wsX1_loaded := by decide +kernel
set_option maxRecDepth 100000 in
set_option maxHeartbeats 4000000 in
theorem ct_X1_loaded (l : Launch) (D : va_G) (cI cZ cL : ClassId) (bd : Nat → Nat) {K T : Nat} (M : MT) (thr x : Int32) (hI : MI K T M) : bh_Mi l D (wh_tys cI cZ cL) yX1_loaded wsX1_loaded ({ frames := 0, cells := 0, slots := 0, locals := 0 } : Room) [.ref (bd 0), .int x] (wh_modl cI bd M thr) (fun r (_ : Unit) => r = nI (mo_ld M x)) (fun _ => wh_modl cI bd M thr) 0 0 := by
  refine bh_ofi (cc := cX1_loaded) (maxL := 4) (by decide +kernel) rfl (Nat.le_of_ble_eq_true rfl) ?_
  intro p e s m args below meth c A Q _ C hQ
  refine bh_eqlv (lv' := [(0, .ref (bd 0)), (1, .int x)]) rfl ?_
  have hfc := MI_fc hI; have hbc := MI_bc hI; have hsc := MI_sc hI; have hnow := MI_now2 hI
  refine bh_iconst (v := 0) C dX1_loaded_0 (by decide) ?_
  refine bh_istore_n (lv' := [(2, .int 0), (0, .ref (bd 0)), (1, .int x)]) C dX1_loaded_1 rfl (by decide) rfl ?_
  refine bh_iconst (v := 0) C dX1_loaded_2 (by decide) ?_
  refine bh_istore_n (lv' := [(3, .int 0), (2, .int 0), (0, .ref (bd 0)), (1, .int x)]) C dX1_loaded_3 rfl (by decide) rfl ?_
  have loop : ∀ (n : Nat) (k : Nat), mq_bc M + 1 ≤ k + n → k ≤ mq_bc M → bh_W p l e ({ frames := 0, cells := 0, slots := 0, locals := 0 } : Room) s m args below meth c 4 D A 0 0 Q (wh_modl cI bd M thr) ([(3, .int (nI k)), (2, .int (nI (mo_cn (fun j => decide (mq_pl M j = 8 ∧ mq_bf M j = x)) k))), (0, .ref (bd 0)), (1, .int x)]) 4 [] := by
    intro n
    induction n with
    | zero => intro k h1 h2; exact absurd h1 (by omega)
    | succ n ih =>
      intro k h1 h2
      refine bh_iload_n C dX1_loaded_4 rfl 0 rfl ?_
      refine bh_aload_n C dX1_loaded_5 rfl 2 rfl ?_
      refine bh_get C ct_X1_loaded_in 0 rfl rfl 5 (by decide) (by decide +kernel) rfl (v := .int (nI (mq_bc M))) rfl dX1_loaded_6 ?_
      refine bh_icmp_ge (tgt := 47) C dX1_loaded_9 (by decide) (fun c_9 => ?_) (fun c_9 => ?_)
      · skip
        have c_9 := bh_le (by omega) (by omega) c_9
        have hkb : k = mq_bc M := by omega
        refine bh_iload_n C dX1_loaded_47 rfl 1 rfl ?_
        exact bh_zret C hQ dX1_loaded_48 () (v := (nI (mo_cn (fun j => decide (mq_pl M j = 8 ∧ mq_bf M j = x)) k))) (w := wh_modl cI bd M thr) rfl rfl (Nat.le_of_ble_eq_true rfl) (Nat.le_of_ble_eq_true rfl) (by rw [hkb]; rfl)
      · skip
        have c_9 := bh_nle2 (by omega) (by omega) c_9
        refine bh_iload_n C dX1_loaded_12 rfl 1 rfl ?_
        refine bh_aload_n C dX1_loaded_13 rfl 2 rfl ?_
        refine bh_get C ct_X1_loaded_in 0 rfl rfl 6 (by decide) (by decide +kernel) rfl (v := .ref (bd 6)) rfl dX1_loaded_14 ?_
        refine bh_iload_n C dX1_loaded_17 rfl 0 rfl ?_
        refine bh_iald C 4 0 (f := (mq_pl M)) rfl rfl (i := (nI k)) (vp_in_nI (n := k) (by omega) (by decide)) (x := ((mq_pl M) k)) (congrArg (mq_pl M) (nI_clamp (n := k) (by omega))) dX1_loaded_18 ?_
        refine bh_bipush (v := 8) C dX1_loaded_19 (by decide) ?_
        refine bh_icmp_ne (tgt := 38) C dX1_loaded_21 (by decide) (fun c_21 => ?_) (fun c_21 => ?_)
        · skip
          refine bh_iconst (v := 0) C dX1_loaded_38 (by decide) ?_
          refine bh_iadd C dX1_loaded_39 ?_
          refine bh_topi (Int32.add_zero _) ?_
          refine bh_istore_n (lv' := [(2, .int (nI (mo_cn (fun j => decide (mq_pl M j = 8 ∧ mq_bf M j = x)) k))), (3, .int (nI k)), (0, .ref (bd 0)), (1, .int x)]) C dX1_loaded_40 rfl (by decide) rfl ?_
          refine bh_iinc (v := (nI (k + 1))) (lv' := [(3, .int (nI (k + 1))), (2, .int (nI (mo_cn (fun j => decide (mq_pl M j = 8 ∧ mq_bf M j = x)) k))), (0, .ref (bd 0)), (1, .int x)]) C dX1_loaded_41 (k := 1) rfl (nI_1 _) (by decide) rfl ?_
          refine bh_goto (tgt := 4) C dX1_loaded_44 (by decide) ?_
          refine bh_eqlv (lv' := [(3, .int (nI (k + 1))), (2, .int (nI (mo_cn (fun j => decide (mq_pl M j = 8 ∧ mq_bf M j = x)) (k + 1)))), (0, .ref (bd 0)), (1, .int x)]) (by rw [bh_cn0 (f := (fun j => decide (mq_pl M j = 8 ∧ mq_bf M j = x))) (decide_eq_false (by first | exact fun z => c_21 z.1 | exact fun z => c_31 z.2))]) ?_
          exact bh_lv [0, 1, 2, 3] rfl (ih (k + 1) (by omega) (by omega))
        · skip
          refine bh_aload_n C dX1_loaded_24 rfl 2 rfl ?_
          refine bh_get C ct_X1_loaded_in 0 rfl rfl 7 (by decide) (by decide +kernel) rfl (v := .ref (bd 7)) rfl dX1_loaded_25 ?_
          refine bh_iload_n C dX1_loaded_28 rfl 0 rfl ?_
          refine bh_iald C 5 0 (f := (mq_bf M)) rfl rfl (i := (nI k)) (vp_in_nI (n := k) (by omega) (by decide)) (x := ((mq_bf M) k)) (congrArg (mq_bf M) (nI_clamp (n := k) (by omega))) dX1_loaded_29 ?_
          refine bh_iload_n C dX1_loaded_30 rfl 3 rfl ?_
          refine bh_icmp_ne (tgt := 38) C dX1_loaded_31 (by decide) (fun c_31 => ?_) (fun c_31 => ?_)
          · skip
            refine bh_iconst (v := 0) C dX1_loaded_38 (by decide) ?_
            refine bh_iadd C dX1_loaded_39 ?_
            refine bh_topi (Int32.add_zero _) ?_
            refine bh_istore_n (lv' := [(2, .int (nI (mo_cn (fun j => decide (mq_pl M j = 8 ∧ mq_bf M j = x)) k))), (3, .int (nI k)), (0, .ref (bd 0)), (1, .int x)]) C dX1_loaded_40 rfl (by decide) rfl ?_
            refine bh_iinc (v := (nI (k + 1))) (lv' := [(3, .int (nI (k + 1))), (2, .int (nI (mo_cn (fun j => decide (mq_pl M j = 8 ∧ mq_bf M j = x)) k))), (0, .ref (bd 0)), (1, .int x)]) C dX1_loaded_41 (k := 1) rfl (nI_1 _) (by decide) rfl ?_
            refine bh_goto (tgt := 4) C dX1_loaded_44 (by decide) ?_
            refine bh_eqlv (lv' := [(3, .int (nI (k + 1))), (2, .int (nI (mo_cn (fun j => decide (mq_pl M j = 8 ∧ mq_bf M j = x)) (k + 1)))), (0, .ref (bd 0)), (1, .int x)]) (by rw [bh_cn0 (f := (fun j => decide (mq_pl M j = 8 ∧ mq_bf M j = x))) (decide_eq_false (by first | exact fun z => c_21 z.1 | exact fun z => c_31 z.2))]) ?_
            exact bh_lv [0, 1, 2, 3] rfl (ih (k + 1) (by omega) (by omega))
          · skip
            refine bh_iconst (v := 1) C dX1_loaded_34 (by decide) ?_
            refine bh_goto (tgt := 39) C dX1_loaded_35 (by decide) ?_
            refine bh_iadd C dX1_loaded_39 ?_
            refine bh_topi (nI_1 _) ?_
            refine bh_istore_n (lv' := [(2, .int (nI ((mo_cn (fun j => decide (mq_pl M j = 8 ∧ mq_bf M j = x)) k) + 1))), (3, .int (nI k)), (0, .ref (bd 0)), (1, .int x)]) C dX1_loaded_40 rfl (by decide) rfl ?_
            refine bh_iinc (v := (nI (k + 1))) (lv' := [(3, .int (nI (k + 1))), (2, .int (nI ((mo_cn (fun j => decide (mq_pl M j = 8 ∧ mq_bf M j = x)) k) + 1))), (0, .ref (bd 0)), (1, .int x)]) C dX1_loaded_41 (k := 1) rfl (nI_1 _) (by decide) rfl ?_
            refine bh_goto (tgt := 4) C dX1_loaded_44 (by decide) ?_
            refine bh_eqlv (lv' := [(3, .int (nI (k + 1))), (2, .int (nI (mo_cn (fun j => decide (mq_pl M j = 8 ∧ mq_bf M j = x)) (k + 1)))), (0, .ref (bd 0)), (1, .int x)]) (by rw [bh_cn1 (f := (fun j => decide (mq_pl M j = 8 ∧ mq_bf M j = x))) (decide_eq_true ⟨c_21, c_31⟩)]) ?_
            exact bh_lv [0, 1, 2, 3] rfl (ih (k + 1) (by omega) (by omega))
  exact bh_lv [0, 1, 2, 3] rfl (loop (mq_bc M + 1) 0 (by omega) (by omega))
theorem ct_X1_isMatched_in : ∀ w ∈ wsX10, w ∈ wsX1_isMatched := by decide +kernel
set_option maxRecDepth 100000 in
set_option maxHeartbeats 4000000 in
theorem ct_X1_isMatched (l : Launch) (D : va_G) (cI cZ cL : ClassId) (bd : Nat → Nat) {K T : Nat} (M : MT) (thr : Int32) (k : Nat) (hI : MI K T M) (hk : k < 48) : bh_Mi l D (wh_tys cI cZ cL) yX1_isMatched wsX1_isMatched ({ frames := 0, cells := 0, slots := 0, locals := 0 } : Room) [.ref (bd 0), .int (nI k)] (wh_modl cI bd M thr) (fun r (_ : Unit) => r = if mo_fly M k then 1 else 0) (fun _ => wh_modl cI bd M thr) 0 0 := by
  refine bh_ofi (cc := cX1_isMatched) (maxL := 2) (by decide +kernel) rfl (Nat.le_of_ble_eq_true rfl) ?_
  intro p e s m args below meth c A Q _ C hQ
  refine bh_eqlv (lv' := [(0, .ref (bd 0)), (1, .int (nI k))]) rfl ?_
  have hfc := MI_fc hI; have hbc := MI_bc hI; have hsc := MI_sc hI; have hnow := MI_now2 hI
  refine bh_aload_n C dX1_isMatched_0 rfl 0 rfl ?_
  refine bh_get C ct_X1_isMatched_in 0 rfl rfl 9 (by decide) (by decide +kernel) rfl (v := .ref (bd 9)) rfl dX1_isMatched_1 ?_
  refine bh_iload_n C dX1_isMatched_4 rfl 1 rfl ?_
  refine bh_iald C 7 0 (f := (mq_pu M)) rfl rfl (i := (nI k)) (vp_in_nI (n := k) (by omega) (by decide)) (x := ((mq_pu M) k)) (congrArg (mq_pu M) (nI_clamp (n := k) (by omega))) dX1_isMatched_5 ?_
  refine bh_iconst (v := 1) C dX1_isMatched_6 (by decide) ?_
  refine bh_icmp_eq (tgt := 25) C dX1_isMatched_7 (by decide) (fun c_7 => ?_) (fun c_7 => ?_)
  · skip
    refine bh_iconst (v := 1) C dX1_isMatched_25 (by decide) ?_
    refine bh_goto (tgt := 30) C dX1_isMatched_26 (by decide) ?_
    exact bh_zret C hQ dX1_isMatched_30 () (v := 1) (w := wh_modl cI bd M thr) rfl rfl (Nat.le_of_ble_eq_true rfl) (Nat.le_of_ble_eq_true rfl) (by first | exact (if_pos (Or.inl (MI_pu1 hI c_7))).symm | exact (if_pos (Or.inr (MI_brd1 hI c_22))).symm | exact (if_neg (fun z => z.elim (MI_pu0 hI c_7) (MI_brd0 hI c_22))).symm)
  · skip
    refine bh_aload_n C dX1_isMatched_10 rfl 0 rfl ?_
    refine bh_get C ct_X1_isMatched_in 0 rfl rfl 4 (by decide) (by decide +kernel) rfl (v := .ref (bd 4)) rfl dX1_isMatched_11 ?_
    refine bh_aload_n C dX1_isMatched_14 rfl 0 rfl ?_
    refine bh_get C ct_X1_isMatched_in 0 rfl rfl 8 (by decide) (by decide +kernel) rfl (v := .ref (bd 8)) rfl dX1_isMatched_15 ?_
    refine bh_iload_n C dX1_isMatched_18 rfl 1 rfl ?_
    refine bh_iald C 6 0 (f := (mq_br M)) rfl rfl (i := (nI k)) (vp_in_nI (n := k) (by omega) (by decide)) (x := ((mq_br M) k)) (congrArg (mq_br M) (nI_clamp (n := k) (by omega))) dX1_isMatched_19 ?_
    refine bh_iald C 3 0 (f := (mq_brd M)) rfl rfl (i := ((mq_br M) k)) (MI_br hI _) (x := ((mq_brd M) ((mq_br M) k).toNatClampNeg)) rfl dX1_isMatched_20 ?_
    refine bh_iconst (v := 1) C dX1_isMatched_21 (by decide) ?_
    refine bh_icmp_ne (tgt := 29) C dX1_isMatched_22 (by decide) (fun c_22 => ?_) (fun c_22 => ?_)
    · skip
      refine bh_iconst (v := 0) C dX1_isMatched_29 (by decide) ?_
      exact bh_zret C hQ dX1_isMatched_30 () (v := 0) (w := wh_modl cI bd M thr) rfl rfl (Nat.le_of_ble_eq_true rfl) (Nat.le_of_ble_eq_true rfl) (by first | exact (if_pos (Or.inl (MI_pu1 hI c_7))).symm | exact (if_pos (Or.inr (MI_brd1 hI c_22))).symm | exact (if_neg (fun z => z.elim (MI_pu0 hI c_7) (MI_brd0 hI c_22))).symm)
    · skip
      refine bh_iconst (v := 1) C dX1_isMatched_25 (by decide) ?_
      refine bh_goto (tgt := 30) C dX1_isMatched_26 (by decide) ?_
      exact bh_zret C hQ dX1_isMatched_30 () (v := 1) (w := wh_modl cI bd M thr) rfl rfl (Nat.le_of_ble_eq_true rfl) (Nat.le_of_ble_eq_true rfl) (by first | exact (if_pos (Or.inl (MI_pu1 hI c_7))).symm | exact (if_pos (Or.inr (MI_brd1 hI c_22))).symm | exact (if_neg (fun z => z.elim (MI_pu0 hI c_7) (MI_brd0 hI c_22))).symm)
theorem ct_X1_way_in : ∀ w ∈ wsX10, w ∈ wsX1_way := by decide +kernel
set_option maxRecDepth 100000 in
set_option maxHeartbeats 4000000 in
theorem ct_X1_way (l : Launch) (D : va_G) (cI cZ cL : ClassId) (bd : Nat → Nat) {K T : Nat} (M : MT) (thr : Int32) (k : Nat) (hI : MI K T M) (hk : k < 48) : bh_Mi l D (wh_tys cI cZ cL) yX1_way wsX1_way ({ frames := 1, cells := 0, slots := 0, locals := 23 } : Room) [.ref (bd 0), .int (nI k)] (wh_modl cI bd M thr) (fun r (_ : Unit) => r = mo_way M (mq_bf M k)) (fun _ => wh_modl cI bd M thr) 0 0 := by
  refine bh_ofi (cc := cX1_way) (maxL := 3) (by decide +kernel) rfl (Nat.le_of_ble_eq_true rfl) ?_
  intro p e s m args below meth c A Q _ C hQ
  refine bh_eqlv (lv' := [(0, .ref (bd 0)), (1, .int (nI k))]) rfl ?_
  have hfc := MI_fc hI; have hbc := MI_bc hI; have hsc := MI_sc hI; have hnow := MI_now2 hI
  refine bh_aload_n C dX1_way_0 rfl 0 rfl ?_
  refine bh_get C ct_X1_way_in 0 rfl rfl 7 (by decide) (by decide +kernel) rfl (v := .ref (bd 7)) rfl dX1_way_1 ?_
  refine bh_iload_n C dX1_way_4 rfl 1 rfl ?_
  refine bh_iald C 5 0 (f := (mq_bf M)) rfl rfl (i := (nI k)) (vp_in_nI (n := k) (by omega) (by decide)) (x := ((mq_bf M) k)) (congrArg (mq_bf M) (nI_clamp (n := k) (by omega))) dX1_way_5 ?_
  refine bh_istore_n (lv' := [(2, .int ((mq_bf M) k)), (0, .ref (bd 0)), (1, .int (nI k))]) C dX1_way_6 rfl (by decide) rfl ?_
  refine bh_aload_n C dX1_way_7 rfl 1 rfl ?_
  refine bh_get C ct_X1_way_in 0 rfl rfl 0 (by decide) (by decide +kernel) rfl (v := .int (nI (mq_now M))) rfl dX1_way_8 ?_
  refine bh_aload_n C dX1_way_11 rfl 1 rfl ?_
  refine bh_get C ct_X1_way_in 0 rfl rfl 2 (by decide) (by decide +kernel) rfl (v := .ref (bd 2)) rfl dX1_way_12 ?_
  refine bh_iload_n C dX1_way_15 rfl 0 rfl ?_
  refine bh_iald C 1 0 (f := (mq_dep M)) rfl rfl (i := ((mq_bf M) k)) (MI_bf hI _) (x := ((mq_dep M) ((mq_bf M) k).toNatClampNeg)) rfl dX1_way_16 ?_
  refine bh_bipush (v := 10) C dX1_way_17 (by decide) ?_
  refine bh_isub C dX1_way_19 ?_
  refine bh_icmp_ge (tgt := 33) C dX1_way_20 (by decide) (fun c_20 => ?_) (fun c_20 => ?_)
  · skip
    refine bh_bipush (v := 11) C dX1_way_33 (by decide) ?_
    exact bh_zret C hQ dX1_way_35 () (v := 11) (w := wh_modl cI bd M thr) rfl rfl (Nat.le_of_ble_eq_true rfl) (Nat.le_of_ble_eq_true rfl) (by first | exact (mo_way_a c_20).symm | exact (mo_way_b c_30).symm)
  · skip
    refine bh_aload_n C dX1_way_23 rfl 1 rfl ?_
    refine bh_get C ct_X1_way_in 0 rfl rfl 3 (by decide) (by decide +kernel) rfl (v := .ref (bd 3)) rfl dX1_way_24 ?_
    refine bh_iload_n C dX1_way_27 rfl 0 rfl ?_
    refine bh_iald C 2 0 (f := (mq_lat M)) rfl rfl (i := ((mq_bf M) k)) (MI_bf hI _) (x := ((mq_lat M) ((mq_bf M) k).toNatClampNeg)) rfl dX1_way_28 ?_
    refine bh_iconst (v := (-1)) C dX1_way_29 (by decide) ?_
    refine bh_icmp_ne (tgt := 36) C dX1_way_30 (by decide) (fun c_30 => ?_) (fun c_30 => ?_)
    · skip
      refine bh_aload_n C dX1_way_36 rfl 1 rfl ?_
      refine bh_get C ct_X1_way_in 0 rfl rfl 0 (by decide) (by decide +kernel) rfl (v := .int (nI (mq_now M))) rfl dX1_way_37 ?_
      refine bh_aload_n C dX1_way_40 rfl 1 rfl ?_
      refine bh_get C ct_X1_way_in 0 rfl rfl 2 (by decide) (by decide +kernel) rfl (v := .ref (bd 2)) rfl dX1_way_41 ?_
      refine bh_iload_n C dX1_way_44 rfl 0 rfl ?_
      refine bh_iald C 1 0 (f := (mq_dep M)) rfl rfl (i := ((mq_bf M) k)) (MI_bf hI _) (x := ((mq_dep M) ((mq_bf M) k).toNatClampNeg)) rfl dX1_way_45 ?_
      refine bh_bipush (v := 60) C dX1_way_46 (by decide) ?_
      refine bh_isub C dX1_way_48 ?_
      refine bh_icmp_lt (tgt := 57) C dX1_way_49 (by decide) (fun c_49 => ?_) (fun c_49 => ?_)
      · skip
        refine bh_aload_n C dX1_way_57 rfl 1 rfl ?_
        refine bh_iconst (v := 5) C dX1_way_58 (by decide) ?_
        refine bh_calli_0 (As := [.int 5]) C (ct_X1_at l D cI cZ cL bd M thr 5 hI) (cwV 1 C.1.2.2.2.2 gX1_way_X1_at rfl rfl rfl (by decide +kernel) ⟨Nat.le_of_ble_eq_true rfl, Nat.le_of_ble_eq_true rfl⟩) (ci := 1) rfl 0 rfl rfl rfl (Nat.le_of_ble_eq_true rfl) dX1_way_59 ⟨Nat.le_of_ble_eq_true rfl, Nat.le_of_ble_eq_true rfl⟩ (fun r_59 u_59 hp_59 => ?_)
        subst hp_59
        refine bh_bipush (v := 8) C dX1_way_62 (by decide) ?_
        refine bh_icmp_ge (tgt := 71) C dX1_way_64 (by decide) (fun c_64 => ?_) (fun c_64 => ?_)
        · skip
          rw [← MI_cn hI (by decide)] at c_64
          have hq9 := mo_at_le M 5
          have c_64 := bh_le (a := 8) (by decide) (by omega) c_64
          refine bh_bipush (v := 6) C dX1_way_71 (by decide) ?_
          exact bh_zret C hQ dX1_way_73 () (v := 6) (w := wh_modl cI bd M thr) rfl rfl (Nat.le_of_ble_eq_true rfl) (Nat.le_of_ble_eq_true rfl) (by first | exact (mo_way_7 c_20 c_30 (bh_nlt c_49)).symm | exact (mo_way_5 c_20 c_30 (bh_nle c_49) c_64).symm | exact (mo_way_6 c_20 c_30 (bh_nle c_49) c_64).symm)
        · skip
          rw [← MI_cn hI (by decide)] at c_64
          have hq9 := mo_at_le M 5
          have c_64 := bh_nle2 (a := 8) (by decide) (by omega) c_64
          refine bh_iconst (v := 5) C dX1_way_67 (by decide) ?_
          refine bh_goto (tgt := 73) C dX1_way_68 (by decide) ?_
          exact bh_zret C hQ dX1_way_73 () (v := 5) (w := wh_modl cI bd M thr) rfl rfl (Nat.le_of_ble_eq_true rfl) (Nat.le_of_ble_eq_true rfl) (by first | exact (mo_way_7 c_20 c_30 (bh_nlt c_49)).symm | exact (mo_way_5 c_20 c_30 (bh_nle c_49) c_64).symm | exact (mo_way_6 c_20 c_30 (bh_nle c_49) c_64).symm)
      · skip
        refine bh_bipush (v := 7) C dX1_way_52 (by decide) ?_
        refine bh_goto (tgt := 73) C dX1_way_54 (by decide) ?_
        exact bh_zret C hQ dX1_way_73 () (v := 7) (w := wh_modl cI bd M thr) rfl rfl (Nat.le_of_ble_eq_true rfl) (Nat.le_of_ble_eq_true rfl) (by first | exact (mo_way_7 c_20 c_30 (bh_nlt c_49)).symm | exact (mo_way_5 c_20 c_30 (bh_nle c_49) c_64).symm | exact (mo_way_6 c_20 c_30 (bh_nle c_49) c_64).symm)
    · skip
      refine bh_bipush (v := 11) C dX1_way_33 (by decide) ?_
      exact bh_zret C hQ dX1_way_35 () (v := 11) (w := wh_modl cI bd M thr) rfl rfl (Nat.le_of_ble_eq_true rfl) (Nat.le_of_ble_eq_true rfl) (by first | exact (mo_way_a c_20).symm | exact (mo_way_b c_30).symm)
theorem ct_X1_routes_in : ∀ w ∈ wsX10, w ∈ wsX1_routes := by decide +kernel
set_option maxRecDepth 100000 in
set_option maxHeartbeats 4000000 in
theorem ct_X1_routes (l : Launch) (D : va_G) (cI cZ cL : ClassId) (bd : Nat → Nat) {K T : Nat} (M : MT) (thr : Int32) (k : Nat) (hI : MI K T M) (hk : k < 48) (hsc2 : mq_sc M < 2048) : bh_Mi l D (wh_tys cI cZ cL) yX1_routes wsX1_routes ({ frames := 2, cells := 0, slots := 0, locals := 45 } : Room) [.ref (bd 0), .int (nI k)] (wh_modl cI bd M thr) (fun r (_ : Unit) => r = mq_pl (mo_route M k) k) (fun _ => wh_modl cI bd (mo_route M k) thr) 0 0 := by
  refine bh_ofi (cc := cX1_routes) (maxL := 3) (by decide +kernel) rfl (Nat.le_of_ble_eq_true rfl) ?_
  intro p e s m args below meth c A Q _ C hQ
  refine bh_eqlv (lv' := [(0, .ref (bd 0)), (1, .int (nI k))]) rfl ?_
  have hfc := MI_fc hI; have hbc := MI_bc hI; have hsc := MI_sc hI; have hnow := MI_now2 hI
  refine bh_aload_n C dX1_routes_0 rfl 0 rfl ?_
  refine bh_iload_n C dX1_routes_1 rfl 1 rfl ?_
  refine bh_calli_0 (As := [.int (nI k)]) C (ct_X1_way l D cI cZ cL bd M thr k hI (by omega)) (cwV 1 C.1.2.2.2.2 gX1_routes_X1_way rfl rfl rfl (by decide +kernel) ⟨Nat.le_of_ble_eq_true rfl, Nat.le_of_ble_eq_true rfl⟩) (ci := 1) rfl 0 rfl rfl rfl (Nat.le_of_ble_eq_true rfl) dX1_routes_2 ⟨Nat.le_of_ble_eq_true rfl, Nat.le_of_ble_eq_true rfl⟩ (fun r_2 u_2 hp_2 => ?_)
  subst hp_2
  refine bh_istore_n (lv' := [(2, .int (mo_way M (mq_bf M k))), (0, .ref (bd 0)), (1, .int (nI k))]) C dX1_routes_5 rfl (by decide) rfl ?_
  refine bh_iload_n C dX1_routes_6 rfl 0 rfl ?_
  refine bh_bipush (v := 6) C dX1_routes_7 (by decide) ?_
  refine bh_icmp_ne (tgt := 23) C dX1_routes_9 (by decide) (fun c_9 => ?_) (fun c_9 => ?_)
  · skip
    refine bh_aload_n C dX1_routes_23 rfl 1 rfl ?_
    refine bh_iload_n C dX1_routes_24 rfl 2 rfl ?_
    refine bh_iload_n C dX1_routes_25 rfl 0 rfl ?_
    refine bh_callv_0 (As := [.int (nI k), .int (mo_way M (mq_bf M k))]) C (ct_X1_comes l D cI cZ cL bd M thr k (mo_way M (mq_bf M k)) hk (by omega)) (cwV 2 C.1.2.2.2.2 gX1_routes_X1_comes rfl rfl rfl (by decide +kernel) ⟨Nat.le_of_ble_eq_true rfl, Nat.le_of_ble_eq_true rfl⟩) (ci := 1) rfl 0 rfl rfl rfl (Nat.le_of_ble_eq_true rfl) dX1_routes_26 ⟨Nat.le_of_ble_eq_true rfl, Nat.le_of_ble_eq_true rfl⟩ (fun u_26 hp_26 => ?_)
    refine bh_aload_n C dX1_routes_29 rfl 1 rfl ?_
    refine bh_get C ct_X1_routes_in 0 rfl rfl 6 (by decide) (by decide +kernel) rfl (v := .ref (bd 6)) rfl dX1_routes_30 ?_
    refine bh_iload_n C dX1_routes_33 rfl 2 rfl ?_
    refine bh_iald C 4 0 (f := (mq_pl (mo_bring M k (mo_way M (mq_bf M k))))) rfl rfl (i := (nI k)) (vp_in_nI (n := k) (by omega) (by decide)) (x := ((mq_pl (mo_bring M k (mo_way M (mq_bf M k)))) k)) (congrArg (mq_pl (mo_bring M k (mo_way M (mq_bf M k)))) (nI_clamp (n := k) (by omega))) dX1_routes_34 ?_
    exact bh_zret C hQ dX1_routes_35 () (v := ((mq_pl (mo_bring M k (mo_way M (mq_bf M k)))) k)) (w := wh_modl cI bd (mo_bring M k (mo_way M (mq_bf M k))) thr) (congrArg (fun N => wh_modl cI bd N thr) (show mo_route M k = mo_bring M k (mo_way M (mq_bf M k)) from by first | exact if_neg (fun z => c_9 z.1) | exact if_neg (fun z => c_20 z.2)).symm) rfl (Nat.le_of_ble_eq_true rfl) (Nat.le_of_ble_eq_true rfl) (congrArg (fun N => mq_pl N k) (show mo_route M k = mo_bring M k (mo_way M (mq_bf M k)) from by first | exact if_neg (fun z => c_9 z.1) | exact if_neg (fun z => c_20 z.2)).symm)
  · skip
    refine bh_aload_n C dX1_routes_12 rfl 1 rfl ?_
    refine bh_get C ct_X1_routes_in 0 rfl rfl 6 (by decide) (by decide +kernel) rfl (v := .ref (bd 6)) rfl dX1_routes_13 ?_
    refine bh_iload_n C dX1_routes_16 rfl 2 rfl ?_
    refine bh_iald C 4 0 (f := (mq_pl M)) rfl rfl (i := (nI k)) (vp_in_nI (n := k) (by omega) (by decide)) (x := ((mq_pl M) k)) (congrArg (mq_pl M) (nI_clamp (n := k) (by omega))) dX1_routes_17 ?_
    refine bh_bipush (v := 6) C dX1_routes_18 (by decide) ?_
    refine bh_icmp_eq (tgt := 29) C dX1_routes_20 (by decide) (fun c_20 => ?_) (fun c_20 => ?_)
    · skip
      refine bh_aload_n C dX1_routes_29 rfl 1 rfl ?_
      refine bh_get C ct_X1_routes_in 0 rfl rfl 6 (by decide) (by decide +kernel) rfl (v := .ref (bd 6)) rfl dX1_routes_30 ?_
      refine bh_iload_n C dX1_routes_33 rfl 2 rfl ?_
      refine bh_iald C 4 0 (f := (mq_pl M)) rfl rfl (i := (nI k)) (vp_in_nI (n := k) (by omega) (by decide)) (x := ((mq_pl M) k)) (congrArg (mq_pl M) (nI_clamp (n := k) (by omega))) dX1_routes_34 ?_
      exact bh_zret C hQ dX1_routes_35 () (v := ((mq_pl M) k)) (w := wh_modl cI bd M thr) (congrArg (fun N => wh_modl cI bd N thr) (show mo_route M k = M from if_pos ⟨c_9, c_20⟩).symm) rfl (Nat.le_of_ble_eq_true rfl) (Nat.le_of_ble_eq_true rfl) (congrArg (fun N => mq_pl N k) (show mo_route M k = M from if_pos ⟨c_9, c_20⟩).symm)
    · skip
      refine bh_aload_n C dX1_routes_23 rfl 1 rfl ?_
      refine bh_iload_n C dX1_routes_24 rfl 2 rfl ?_
      refine bh_iload_n C dX1_routes_25 rfl 0 rfl ?_
      refine bh_callv_0 (As := [.int (nI k), .int (mo_way M (mq_bf M k))]) C (ct_X1_comes l D cI cZ cL bd M thr k (mo_way M (mq_bf M k)) hk (by omega)) (cwV 2 C.1.2.2.2.2 gX1_routes_X1_comes rfl rfl rfl (by decide +kernel) ⟨Nat.le_of_ble_eq_true rfl, Nat.le_of_ble_eq_true rfl⟩) (ci := 1) rfl 0 rfl rfl rfl (Nat.le_of_ble_eq_true rfl) dX1_routes_26 ⟨Nat.le_of_ble_eq_true rfl, Nat.le_of_ble_eq_true rfl⟩ (fun u_26 hp_26 => ?_)
      refine bh_aload_n C dX1_routes_29 rfl 1 rfl ?_
      refine bh_get C ct_X1_routes_in 0 rfl rfl 6 (by decide) (by decide +kernel) rfl (v := .ref (bd 6)) rfl dX1_routes_30 ?_
      refine bh_iload_n C dX1_routes_33 rfl 2 rfl ?_
      refine bh_iald C 4 0 (f := (mq_pl (mo_bring M k (mo_way M (mq_bf M k))))) rfl rfl (i := (nI k)) (vp_in_nI (n := k) (by omega) (by decide)) (x := ((mq_pl (mo_bring M k (mo_way M (mq_bf M k)))) k)) (congrArg (mq_pl (mo_bring M k (mo_way M (mq_bf M k)))) (nI_clamp (n := k) (by omega))) dX1_routes_34 ?_
      exact bh_zret C hQ dX1_routes_35 () (v := ((mq_pl (mo_bring M k (mo_way M (mq_bf M k)))) k)) (w := wh_modl cI bd (mo_bring M k (mo_way M (mq_bf M k))) thr) (congrArg (fun N => wh_modl cI bd N thr) (show mo_route M k = mo_bring M k (mo_way M (mq_bf M k)) from by first | exact if_neg (fun z => c_9 z.1) | exact if_neg (fun z => c_20 z.2)).symm) rfl (Nat.le_of_ble_eq_true rfl) (Nat.le_of_ble_eq_true rfl) (congrArg (fun N => mq_pl N k) (show mo_route M k = mo_bring M k (mo_way M (mq_bf M k)) from by first | exact if_neg (fun z => c_9 z.1) | exact if_neg (fun z => c_20 z.2)).symm)
theorem ct_X1_firstOfStore_in : ∀ w ∈ wsX10, w ∈ wsX1_firstOfStore := by decide +kernel
set_option maxRecDepth 100000 in
set_option maxHeartbeats 4000000 in
theorem ct_X1_firstOfStore (l : Launch) (D : va_G) (cI cZ cL : ClassId) (bd : Nat → Nat) {K T : Nat} (M : MT) (thr : Int32) (hI : MI K T M) : bh_Mi l D (wh_tys cI cZ cL) yX1_firstOfStore wsX1_firstOfStore ({ frames := 0, cells := 0, slots := 0, locals := 0 } : Room) [.ref (bd 0)] (wh_modl cI bd M thr) (fun r (_ : Unit) => r = mo_first M (mq_bc M)) (fun _ => wh_modl cI bd M thr) 0 0 := by
  refine bh_ofi (cc := cX1_firstOfStore) (maxL := 4) (by decide +kernel) rfl (Nat.le_of_ble_eq_true rfl) ?_
  intro p e s m args below meth c A Q _ C hQ
  refine bh_eqlv (lv' := [(0, .ref (bd 0))]) rfl ?_
  have hfc := MI_fc hI; have hbc := MI_bc hI; have hsc := MI_sc hI; have hnow := MI_now2 hI
  refine bh_iconst (v := (-1)) C dX1_firstOfStore_0 (by decide) ?_
  refine bh_istore_n (lv' := [(1, .int (-1)), (0, .ref (bd 0))]) C dX1_firstOfStore_1 rfl (by decide) rfl ?_
  refine bh_iconst (v := 0) C dX1_firstOfStore_2 (by decide) ?_
  refine bh_istore_n (lv' := [(2, .int 0), (1, .int (-1)), (0, .ref (bd 0))]) C dX1_firstOfStore_3 rfl (by decide) rfl ?_
  have loop : ∀ (n : Nat) (k : Nat), mq_bc M + 1 ≤ k + n → k ≤ mq_bc M → bh_W p l e ({ frames := 0, cells := 0, slots := 0, locals := 0 } : Room) s m args below meth c 4 D A 0 0 Q (wh_modl cI bd M thr) ([(2, .int (nI k)), (1, .int (mo_first M k)), (0, .ref (bd 0))]) 4 [] := by
    intro n
    induction n with
    | zero => intro k h1 h2; exact absurd h1 (by omega)
    | succ n ih =>
      intro k h1 h2
      refine bh_iload_n C dX1_firstOfStore_4 rfl 0 rfl ?_
      refine bh_aload_n C dX1_firstOfStore_5 rfl 2 rfl ?_
      refine bh_get C ct_X1_firstOfStore_in 0 rfl rfl 5 (by decide) (by decide +kernel) rfl (v := .int (nI (mq_bc M))) rfl dX1_firstOfStore_6 ?_
      refine bh_icmp_ge (tgt := 84) C dX1_firstOfStore_9 (by decide) (fun c_9 => ?_) (fun c_9 => ?_)
      · skip
        have c_9 := bh_le (by omega) (by omega) c_9
        have hkb : k = mq_bc M := by omega
        refine bh_iload_n C dX1_firstOfStore_84 rfl 1 rfl ?_
        exact bh_zret C hQ dX1_firstOfStore_85 () (v := (mo_first M k)) (w := wh_modl cI bd M thr) rfl rfl (Nat.le_of_ble_eq_true rfl) (Nat.le_of_ble_eq_true rfl) (by rw [hkb])
      · skip
        have c_9 := bh_nle2 (by omega) (by omega) c_9
        refine bh_aload_n C dX1_firstOfStore_12 rfl 2 rfl ?_
        refine bh_get C ct_X1_firstOfStore_in 0 rfl rfl 6 (by decide) (by decide +kernel) rfl (v := .ref (bd 6)) rfl dX1_firstOfStore_13 ?_
        refine bh_iload_n C dX1_firstOfStore_16 rfl 0 rfl ?_
        refine bh_iald C 4 0 (f := (mq_pl M)) rfl rfl (i := (nI k)) (vp_in_nI (n := k) (by omega) (by decide)) (x := ((mq_pl M) k)) (congrArg (mq_pl M) (nI_clamp (n := k) (by omega))) dX1_firstOfStore_17 ?_
        refine bh_iconst (v := 5) C dX1_firstOfStore_18 (by decide) ?_
        refine bh_icmp_ne (tgt := 47) C dX1_firstOfStore_19 (by decide) (fun c_19 => ?_) (fun c_19 => ?_)
        · skip
          refine bh_iconst (v := 0) C dX1_firstOfStore_47 (by decide) ?_
          refine bh_istore_n (lv' := [(3, .int 0), (2, .int (nI k)), (1, .int (mo_first M k)), (0, .ref (bd 0))]) C dX1_firstOfStore_48 rfl (by decide) rfl ?_
          refine bh_iload_n C dX1_firstOfStore_49 rfl 0 rfl ?_
          refine bh_if_eq (tgt := 76) C dX1_firstOfStore_50 (by decide) (fun c_50 => ?_) (fun c_50 => absurd c_50 (by decide))
          refine bh_iload_n C dX1_firstOfStore_76 rfl 2 rfl ?_
          refine bh_istore_n (lv' := [(1, .int (mo_first M k)), (3, .int 0), (2, .int (nI k)), (0, .ref (bd 0))]) C dX1_firstOfStore_77 rfl (by decide) rfl ?_
          refine bh_iinc (v := (nI (k + 1))) (lv' := [(2, .int (nI (k + 1))), (1, .int (mo_first M k)), (3, .int 0), (0, .ref (bd 0))]) C dX1_firstOfStore_78 (k := 2) rfl (nI_1 _) (by decide) rfl ?_
          refine bh_goto (tgt := 4) C dX1_firstOfStore_81 (by decide) ?_
          refine bh_eqlv (lv' := [(2, .int (nI (k + 1))), (1, .int (mo_first M (k + 1))), (3, .int 0), (0, .ref (bd 0))]) (by rw [(show mo_first M (k + 1) = mo_first M k from if_neg (by first | exact fun z => c_19 z.1.1 | exact fun z => absurd z.1.2 (bh_nle c_40) | exact fun z => z.2.elim (mo_first_ge c_54) (fun q => absurd c_69 (Int32.not_le.mpr q))))]) ?_
          exact bh_lv [0, 1, 3] rfl (ih (k + 1) (by omega) (by omega))
        · skip
          refine bh_aload_n C dX1_firstOfStore_22 rfl 2 rfl ?_
          refine bh_get C ct_X1_firstOfStore_in 0 rfl rfl 0 (by decide) (by decide +kernel) rfl (v := .int (nI (mq_now M))) rfl dX1_firstOfStore_23 ?_
          refine bh_aload_n C dX1_firstOfStore_26 rfl 2 rfl ?_
          refine bh_get C ct_X1_firstOfStore_in 0 rfl rfl 2 (by decide) (by decide +kernel) rfl (v := .ref (bd 2)) rfl dX1_firstOfStore_27 ?_
          refine bh_aload_n C dX1_firstOfStore_30 rfl 2 rfl ?_
          refine bh_get C ct_X1_firstOfStore_in 0 rfl rfl 7 (by decide) (by decide +kernel) rfl (v := .ref (bd 7)) rfl dX1_firstOfStore_31 ?_
          refine bh_iload_n C dX1_firstOfStore_34 rfl 0 rfl ?_
          refine bh_iald C 5 0 (f := (mq_bf M)) rfl rfl (i := (nI k)) (vp_in_nI (n := k) (by omega) (by decide)) (x := ((mq_bf M) k)) (congrArg (mq_bf M) (nI_clamp (n := k) (by omega))) dX1_firstOfStore_35 ?_
          refine bh_iald C 1 0 (f := (mq_dep M)) rfl rfl (i := ((mq_bf M) k)) (MI_bf hI _) (x := ((mq_dep M) ((mq_bf M) k).toNatClampNeg)) rfl dX1_firstOfStore_36 ?_
          refine bh_bipush (v := 60) C dX1_firstOfStore_37 (by decide) ?_
          refine bh_isub C dX1_firstOfStore_39 ?_
          refine bh_icmp_lt (tgt := 47) C dX1_firstOfStore_40 (by decide) (fun c_40 => ?_) (fun c_40 => ?_)
          · skip
            refine bh_iconst (v := 0) C dX1_firstOfStore_47 (by decide) ?_
            refine bh_istore_n (lv' := [(3, .int 0), (2, .int (nI k)), (1, .int (mo_first M k)), (0, .ref (bd 0))]) C dX1_firstOfStore_48 rfl (by decide) rfl ?_
            refine bh_iload_n C dX1_firstOfStore_49 rfl 0 rfl ?_
            refine bh_if_eq (tgt := 76) C dX1_firstOfStore_50 (by decide) (fun c_50 => ?_) (fun c_50 => absurd c_50 (by decide))
            refine bh_iload_n C dX1_firstOfStore_76 rfl 2 rfl ?_
            refine bh_istore_n (lv' := [(1, .int (mo_first M k)), (3, .int 0), (2, .int (nI k)), (0, .ref (bd 0))]) C dX1_firstOfStore_77 rfl (by decide) rfl ?_
            refine bh_iinc (v := (nI (k + 1))) (lv' := [(2, .int (nI (k + 1))), (1, .int (mo_first M k)), (3, .int 0), (0, .ref (bd 0))]) C dX1_firstOfStore_78 (k := 2) rfl (nI_1 _) (by decide) rfl ?_
            refine bh_goto (tgt := 4) C dX1_firstOfStore_81 (by decide) ?_
            refine bh_eqlv (lv' := [(2, .int (nI (k + 1))), (1, .int (mo_first M (k + 1))), (3, .int 0), (0, .ref (bd 0))]) (by rw [(show mo_first M (k + 1) = mo_first M k from if_neg (by first | exact fun z => c_19 z.1.1 | exact fun z => absurd z.1.2 (bh_nle c_40) | exact fun z => z.2.elim (mo_first_ge c_54) (fun q => absurd c_69 (Int32.not_le.mpr q))))]) ?_
            exact bh_lv [0, 1, 3] rfl (ih (k + 1) (by omega) (by omega))
          · skip
            refine bh_iconst (v := 1) C dX1_firstOfStore_43 (by decide) ?_
            refine bh_goto (tgt := 48) C dX1_firstOfStore_44 (by decide) ?_
            refine bh_istore_n (lv' := [(3, .int 1), (2, .int (nI k)), (1, .int (mo_first M k)), (0, .ref (bd 0))]) C dX1_firstOfStore_48 rfl (by decide) rfl ?_
            refine bh_iload_n C dX1_firstOfStore_49 rfl 0 rfl ?_
            refine bh_if_eq (tgt := 76) C dX1_firstOfStore_50 (by decide) (fun c_50 => absurd c_50 (by decide)) (fun c_50 => ?_)
            refine bh_iload_n C dX1_firstOfStore_53 rfl 2 rfl ?_
            refine bh_if_lt (tgt := 72) C dX1_firstOfStore_54 (by decide) (fun c_54 => ?_) (fun c_54 => ?_)
            · skip
              refine bh_iload_n C dX1_firstOfStore_72 rfl 1 rfl ?_
              refine bh_goto (tgt := 77) C dX1_firstOfStore_73 (by decide) ?_
              refine bh_istore_n (lv' := [(1, .int (nI k)), (3, .int 1), (2, .int (nI k)), (0, .ref (bd 0))]) C dX1_firstOfStore_77 rfl (by decide) rfl ?_
              refine bh_iinc (v := (nI (k + 1))) (lv' := [(2, .int (nI (k + 1))), (1, .int (nI k)), (3, .int 1), (0, .ref (bd 0))]) C dX1_firstOfStore_78 (k := 2) rfl (nI_1 _) (by decide) rfl ?_
              refine bh_goto (tgt := 4) C dX1_firstOfStore_81 (by decide) ?_
              refine bh_eqlv (lv' := [(2, .int (nI (k + 1))), (1, .int (mo_first M (k + 1))), (3, .int 1), (0, .ref (bd 0))]) (by rw [(show mo_first M (k + 1) = nI k from if_pos ⟨⟨c_19, bh_nlt c_40⟩, by first | exact Or.inl (mo_first_lt (by omega) c_54) | exact Or.inr (bh_nle3 c_69)⟩)]) ?_
              exact bh_lv [0, 1, 3] rfl (ih (k + 1) (by omega) (by omega))
            · skip
              refine bh_aload_n C dX1_firstOfStore_57 rfl 3 rfl ?_
              refine bh_get C ct_X1_firstOfStore_in 0 rfl rfl 10 (by decide) (by decide +kernel) rfl (v := .ref (bd 10)) rfl dX1_firstOfStore_58 ?_
              refine bh_iload_n C dX1_firstOfStore_61 rfl 1 rfl ?_
              refine bh_iald C 8 0 (f := (mq_ls M)) rfl rfl (i := (nI k)) (vp_in_nI (n := k) (by omega) (by decide)) (x := ((mq_ls M) k)) (congrArg (mq_ls M) (nI_clamp (n := k) (by omega))) dX1_firstOfStore_62 ?_
              refine bh_aload_n C dX1_firstOfStore_63 rfl 3 rfl ?_
              refine bh_get C ct_X1_firstOfStore_in 0 rfl rfl 10 (by decide) (by decide +kernel) rfl (v := .ref (bd 10)) rfl dX1_firstOfStore_64 ?_
              refine bh_iload_n C dX1_firstOfStore_67 rfl 2 rfl ?_
              refine bh_iald C 8 0 (f := (mq_ls M)) rfl rfl (i := (mo_first M k)) (mo_first_in M k (mo_first_ge c_54) (by omega)) (x := ((mq_ls M) (mo_first M k).toNatClampNeg)) rfl dX1_firstOfStore_68 ?_
              refine bh_icmp_ge (tgt := 76) C dX1_firstOfStore_69 (by decide) (fun c_69 => ?_) (fun c_69 => ?_)
              · skip
                refine bh_iload_n C dX1_firstOfStore_76 rfl 2 rfl ?_
                refine bh_istore_n (lv' := [(1, .int (mo_first M k)), (3, .int 1), (2, .int (nI k)), (0, .ref (bd 0))]) C dX1_firstOfStore_77 rfl (by decide) rfl ?_
                refine bh_iinc (v := (nI (k + 1))) (lv' := [(2, .int (nI (k + 1))), (1, .int (mo_first M k)), (3, .int 1), (0, .ref (bd 0))]) C dX1_firstOfStore_78 (k := 2) rfl (nI_1 _) (by decide) rfl ?_
                refine bh_goto (tgt := 4) C dX1_firstOfStore_81 (by decide) ?_
                refine bh_eqlv (lv' := [(2, .int (nI (k + 1))), (1, .int (mo_first M (k + 1))), (3, .int 1), (0, .ref (bd 0))]) (by rw [(show mo_first M (k + 1) = mo_first M k from if_neg (by first | exact fun z => c_19 z.1.1 | exact fun z => absurd z.1.2 (bh_nle c_40) | exact fun z => z.2.elim (mo_first_ge c_54) (fun q => absurd c_69 (Int32.not_le.mpr q))))]) ?_
                exact bh_lv [0, 1, 3] rfl (ih (k + 1) (by omega) (by omega))
              · skip
                refine bh_iload_n C dX1_firstOfStore_72 rfl 1 rfl ?_
                refine bh_goto (tgt := 77) C dX1_firstOfStore_73 (by decide) ?_
                refine bh_istore_n (lv' := [(1, .int (nI k)), (3, .int 1), (2, .int (nI k)), (0, .ref (bd 0))]) C dX1_firstOfStore_77 rfl (by decide) rfl ?_
                refine bh_iinc (v := (nI (k + 1))) (lv' := [(2, .int (nI (k + 1))), (1, .int (nI k)), (3, .int 1), (0, .ref (bd 0))]) C dX1_firstOfStore_78 (k := 2) rfl (nI_1 _) (by decide) rfl ?_
                refine bh_goto (tgt := 4) C dX1_firstOfStore_81 (by decide) ?_
                refine bh_eqlv (lv' := [(2, .int (nI (k + 1))), (1, .int (mo_first M (k + 1))), (3, .int 1), (0, .ref (bd 0))]) (by rw [(show mo_first M (k + 1) = nI k from if_pos ⟨⟨c_19, bh_nlt c_40⟩, by first | exact Or.inl (mo_first_lt (by omega) c_54) | exact Or.inr (bh_nle3 c_69)⟩)]) ?_
                exact bh_lv [0, 1, 3] rfl (ih (k + 1) (by omega) (by omega))
  exact bh_lv [0, 1, 2] rfl (loop (mq_bc M + 1) 0 (by omega) (by omega))
