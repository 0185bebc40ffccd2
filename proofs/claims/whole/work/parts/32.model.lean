theorem ct_X1_board_in : ∀ w ∈ wsX10, w ∈ wsX1_board := by decide +kernel
set_option maxRecDepth 100000 in
set_option maxHeartbeats 4000000 in
theorem ct_X1_board (l : Launch) (D : va_G) (cI cZ cL : ClassId) (bd : Nat → Nat) {K T : Nat} (M : MT) (thr x z : Int32) (hI : MI K T M) (hz : z = 0 ∨ z = 1) : bh_Mi l D (wh_tys cI cZ cL) yX1_board wsX1_board ({ frames := 1, cells := 0, slots := 0, locals := 22 } : Room) [.ref (bd 0), .int x, .int z] (wh_modl cI bd M thr) (fun r (_ : Unit) => co_in x 40 = 0 → r = mq_brd M x.toNatClampNeg) (fun _ => wh_modl cI bd (mo_sel (co_in x 40) (mo_board M x z) M) (co_in x 40)) 0 0 := by
  refine bh_ofi (cc := cX1_board) (maxL := 4) (by decide +kernel) rfl (Nat.le_of_ble_eq_true rfl) ?_
  intro p e s m args below meth c A Q _ C hQ
  refine bh_eqlv (lv' := [(0, .ref (bd 0)), (1, .int x), (2, .int z)]) rfl ?_
  have hfc := MI_fc hI; have hbc := MI_bc hI; have hsc := MI_sc hI; have hnow := MI_now2 hI
  refine bh_aload_n C dX1_board_0 rfl 0 rfl ?_
  refine bh_iload_n C dX1_board_1 rfl 1 rfl ?_
  refine bh_iconst (v := 0) C dX1_board_2 (by decide) ?_
  refine bh_bipush (v := 39) C dX1_board_3 (by decide) ?_
  refine bh_calli_N (As := [.int x, .int 0, .int 39]) C (ct_X1_in l D cI cZ cL bd x 0 39) ⟨callB_of 3 C.1.2.2.2.2 ggX1_board_X1_in rfl rfl rfl (C.1.2.2.2.2 _ (by decide +kernel)) (C.1.2.2.2.2 _ (by decide +kernel)) (by decide +kernel) ⟨Nat.le_of_ble_eq_true rfl, Nat.le_of_ble_eq_true rfl⟩, C.1.2.2.2.2 _ (by decide +kernel)⟩ rfl rfl (Nat.le_of_ble_eq_true rfl) dX1_board_5 ⟨Nat.le_of_ble_eq_true rfl, Nat.le_of_ble_eq_true rfl⟩ (fun r_5 u_5 hp_5 => ?_)
  subst hp_5
  refine bh_if_eq (tgt := 15) C dX1_board_8 (by decide) (fun c_8 => ?_) (fun c_8 => ?_)
  · skip
    replace c_8 := bh_eq0 c_8
    have hv := fun q => c_8 (bh_inR40.mpr q)
    refine bh_iconst (v := 1) C dX1_board_15 (by decide) ?_
    refine bh_eqw (w' := wh_modlX cI bd (mq_now M) (mq_fc M) (mq_bc M) (mq_sc M) (mq_dep M) (mq_lat M) (mq_brd M) (mq_pl M) (mq_bf M) (mq_br M) (mq_pu M) (mq_ls M) (mq_rows M) thr) rfl ?_
    refine bh_put (ty := .int) (v := .int 1) (w' := wh_modlX cI bd (mq_now M) (mq_fc M) (mq_bc M) (mq_sc M) (mq_dep M) (mq_lat M) (mq_brd M) (mq_pl M) (mq_bf M) (mq_br M) (mq_pu M) (mq_ls M) (mq_rows M) 1) C ct_X1_board_in tyX1 tyX1_ok nmX1 0 rfl rfl 13 (by decide) (by decide +kernel) rfl rfl (by decide +kernel) rfl rfl (Nat.le_of_ble_eq_true rfl) dX1_board_16 rfl ?_
    refine bh_aload_n C dX1_board_19 rfl 0 rfl ?_
    refine bh_get C ct_X1_board_in 0 rfl rfl 13 (by decide) (by decide +kernel) rfl (v := .int 1) rfl dX1_board_20 ?_
    refine bh_if_le (tgt := 28) C dX1_board_23 (by decide) (fun c_23 => absurd c_23 (by decide)) (fun c_23 => ?_)
    refine bh_iconst (v := 0) C dX1_board_26 (by decide) ?_
    exact bh_zret C hQ dX1_board_27 () (v := 0) (w := wh_modlX cI bd (mq_now M) (mq_fc M) (mq_bc M) (mq_sc M) (mq_dep M) (mq_lat M) (mq_brd M) (mq_pl M) (mq_bf M) (mq_br M) (mq_pu M) (mq_ls M) (mq_rows M) 1) (wh_sel1 (d := 1) (co_in1 hv) (by decide)).symm rfl (Nat.le_of_ble_eq_true rfl) (Nat.le_of_ble_eq_true rfl) (fun z9 => absurd (z9.symm.trans (co_in1 hv)) (by decide))
  · skip
    replace c_8 := bh_ne0 c_8
    have hv := bh_inR40.mp c_8
    refine bh_iconst (v := 0) C dX1_board_11 (by decide) ?_
    refine bh_goto (tgt := 16) C dX1_board_12 (by decide) ?_
    refine bh_eqw (w' := wh_modlX cI bd (mq_now M) (mq_fc M) (mq_bc M) (mq_sc M) (mq_dep M) (mq_lat M) (mq_brd M) (mq_pl M) (mq_bf M) (mq_br M) (mq_pu M) (mq_ls M) (mq_rows M) thr) rfl ?_
    refine bh_put (ty := .int) (v := .int 0) (w' := wh_modlX cI bd (mq_now M) (mq_fc M) (mq_bc M) (mq_sc M) (mq_dep M) (mq_lat M) (mq_brd M) (mq_pl M) (mq_bf M) (mq_br M) (mq_pu M) (mq_ls M) (mq_rows M) 0) C ct_X1_board_in tyX1 tyX1_ok nmX1 0 rfl rfl 13 (by decide) (by decide +kernel) rfl rfl (by decide +kernel) rfl rfl (Nat.le_of_ble_eq_true rfl) dX1_board_16 rfl ?_
    refine bh_aload_n C dX1_board_19 rfl 0 rfl ?_
    refine bh_get C ct_X1_board_in 0 rfl rfl 13 (by decide) (by decide +kernel) rfl (v := .int 0) rfl dX1_board_20 ?_
    refine bh_if_le (tgt := 28) C dX1_board_23 (by decide) (fun c_23 => ?_) (fun c_23 => absurd c_23 (by decide))
    refine bh_aload_n C dX1_board_28 rfl 0 rfl ?_
    refine bh_get C ct_X1_board_in 0 rfl rfl 4 (by decide) (by decide +kernel) rfl (v := .ref (bd 4)) rfl dX1_board_29 ?_
    refine bh_iload_n C dX1_board_32 rfl 1 rfl ?_
    refine bh_iald C 3 0 (f := (mq_brd M)) rfl rfl (i := x) hv (x := ((mq_brd M) x.toNatClampNeg)) rfl dX1_board_33 ?_
    refine bh_iconst (v := 1) C dX1_board_34 (by decide) ?_
    refine bh_icmp_ne (tgt := 42) C dX1_board_35 (by decide) (fun c_35 => ?_) (fun c_35 => ?_)
    · skip
      refine bh_iconst (v := 0) C dX1_board_42 (by decide) ?_
      refine bh_istore_n (lv' := [(3, .int 0), (0, .ref (bd 0)), (1, .int x), (2, .int z)]) C dX1_board_43 rfl (by decide) rfl ?_
      refine bh_aload_n C dX1_board_44 rfl 1 rfl ?_
      refine bh_get C ct_X1_board_in 0 rfl rfl 4 (by decide) (by decide +kernel) rfl (v := .ref (bd 4)) rfl dX1_board_45 ?_
      refine bh_iload_n C dX1_board_48 rfl 2 rfl ?_
      refine bh_iload_n C dX1_board_49 rfl 3 rfl ?_
      refine bh_if_eq (tgt := 57) C dX1_board_50 (by decide) (fun c_50 => ?_) (fun c_50 => ?_)
      · skip
        refine bh_iconst (v := 0) C dX1_board_57 (by decide) ?_
        refine bh_iast (w' := wh_modlX cI bd (mq_now M) (mq_fc M) (mq_bc M) (mq_sc M) (mq_dep M) (mq_lat M) (upd (mq_brd M) x.toNatClampNeg 0) (mq_pl M) (mq_bf M) (mq_br M) (mq_pu M) (mq_ls M) (mq_rows M) 0) C 3 0 rfl rfl hv dX1_board_58 rfl ?_
        refine bh_iload_n C dX1_board_59 rfl 0 rfl ?_
        exact bh_zret C hQ dX1_board_60 () (v := 0) (w := wh_modlX cI bd (mq_now M) (mq_fc M) (mq_bc M) (mq_sc M) (mq_dep M) (mq_lat M) (upd (mq_brd M) x.toNatClampNeg 0) (mq_pl M) (mq_bf M) (mq_br M) (mq_pu M) (mq_ls M) (mq_rows M) 0) (by rw [wh_sel0 (co_in0 hv)]; first | (rw [c_50]; rfl) | (rw [hz.resolve_left c_50]; rfl)) rfl (Nat.le_of_ble_eq_true rfl) (Nat.le_of_ble_eq_true rfl) (by first | exact fun _ => c_35.symm | exact fun _ => (MI_brdz hI c_35).symm)
      · skip
        refine bh_iconst (v := 1) C dX1_board_53 (by decide) ?_
        refine bh_goto (tgt := 58) C dX1_board_54 (by decide) ?_
        refine bh_iast (w' := wh_modlX cI bd (mq_now M) (mq_fc M) (mq_bc M) (mq_sc M) (mq_dep M) (mq_lat M) (upd (mq_brd M) x.toNatClampNeg 1) (mq_pl M) (mq_bf M) (mq_br M) (mq_pu M) (mq_ls M) (mq_rows M) 0) C 3 0 rfl rfl hv dX1_board_58 rfl ?_
        refine bh_iload_n C dX1_board_59 rfl 0 rfl ?_
        exact bh_zret C hQ dX1_board_60 () (v := 0) (w := wh_modlX cI bd (mq_now M) (mq_fc M) (mq_bc M) (mq_sc M) (mq_dep M) (mq_lat M) (upd (mq_brd M) x.toNatClampNeg 1) (mq_pl M) (mq_bf M) (mq_br M) (mq_pu M) (mq_ls M) (mq_rows M) 0) (by rw [wh_sel0 (co_in0 hv)]; first | (rw [c_50]; rfl) | (rw [hz.resolve_left c_50]; rfl)) rfl (Nat.le_of_ble_eq_true rfl) (Nat.le_of_ble_eq_true rfl) (by first | exact fun _ => c_35.symm | exact fun _ => (MI_brdz hI c_35).symm)
    · skip
      refine bh_iconst (v := 1) C dX1_board_38 (by decide) ?_
      refine bh_goto (tgt := 43) C dX1_board_39 (by decide) ?_
      refine bh_istore_n (lv' := [(3, .int 1), (0, .ref (bd 0)), (1, .int x), (2, .int z)]) C dX1_board_43 rfl (by decide) rfl ?_
      refine bh_aload_n C dX1_board_44 rfl 1 rfl ?_
      refine bh_get C ct_X1_board_in 0 rfl rfl 4 (by decide) (by decide +kernel) rfl (v := .ref (bd 4)) rfl dX1_board_45 ?_
      refine bh_iload_n C dX1_board_48 rfl 2 rfl ?_
      refine bh_iload_n C dX1_board_49 rfl 3 rfl ?_
      refine bh_if_eq (tgt := 57) C dX1_board_50 (by decide) (fun c_50 => ?_) (fun c_50 => ?_)
      · skip
        refine bh_iconst (v := 0) C dX1_board_57 (by decide) ?_
        refine bh_iast (w' := wh_modlX cI bd (mq_now M) (mq_fc M) (mq_bc M) (mq_sc M) (mq_dep M) (mq_lat M) (upd (mq_brd M) x.toNatClampNeg 0) (mq_pl M) (mq_bf M) (mq_br M) (mq_pu M) (mq_ls M) (mq_rows M) 0) C 3 0 rfl rfl hv dX1_board_58 rfl ?_
        refine bh_iload_n C dX1_board_59 rfl 0 rfl ?_
        exact bh_zret C hQ dX1_board_60 () (v := 1) (w := wh_modlX cI bd (mq_now M) (mq_fc M) (mq_bc M) (mq_sc M) (mq_dep M) (mq_lat M) (upd (mq_brd M) x.toNatClampNeg 0) (mq_pl M) (mq_bf M) (mq_br M) (mq_pu M) (mq_ls M) (mq_rows M) 0) (by rw [wh_sel0 (co_in0 hv)]; first | (rw [c_50]; rfl) | (rw [hz.resolve_left c_50]; rfl)) rfl (Nat.le_of_ble_eq_true rfl) (Nat.le_of_ble_eq_true rfl) (by first | exact fun _ => c_35.symm | exact fun _ => (MI_brdz hI c_35).symm)
      · skip
        refine bh_iconst (v := 1) C dX1_board_53 (by decide) ?_
        refine bh_goto (tgt := 58) C dX1_board_54 (by decide) ?_
        refine bh_iast (w' := wh_modlX cI bd (mq_now M) (mq_fc M) (mq_bc M) (mq_sc M) (mq_dep M) (mq_lat M) (upd (mq_brd M) x.toNatClampNeg 1) (mq_pl M) (mq_bf M) (mq_br M) (mq_pu M) (mq_ls M) (mq_rows M) 0) C 3 0 rfl rfl hv dX1_board_58 rfl ?_
        refine bh_iload_n C dX1_board_59 rfl 0 rfl ?_
        exact bh_zret C hQ dX1_board_60 () (v := 1) (w := wh_modlX cI bd (mq_now M) (mq_fc M) (mq_bc M) (mq_sc M) (mq_dep M) (mq_lat M) (upd (mq_brd M) x.toNatClampNeg 1) (mq_pl M) (mq_bf M) (mq_br M) (mq_pu M) (mq_ls M) (mq_rows M) 0) (by rw [wh_sel0 (co_in0 hv)]; first | (rw [c_50]; rfl) | (rw [hz.resolve_left c_50]; rfl)) rfl (Nat.le_of_ble_eq_true rfl) (Nat.le_of_ble_eq_true rfl) (by first | exact fun _ => c_35.symm | exact fun _ => (MI_brdz hI c_35).symm)
theorem ct_X1_count_in : ∀ w ∈ wsX10, w ∈ wsX1_count := by decide +kernel
set_option maxRecDepth 100000 in
set_option maxHeartbeats 4000000 in
theorem ct_X1_count (l : Launch) (D : va_G) (cI cZ cL : ClassId) (bd : Nat → Nat) {K T : Nat} (M : MT) (thr x : Int32) (hI : MI K T M) : bh_Mi l D (wh_tys cI cZ cL) yX1_count wsX1_count ({ frames := 1, cells := 0, slots := 0, locals := 23 } : Room) [.ref (bd 0), .int x] (wh_modl cI bd M thr) (fun r (_ : Unit) => co_count x = 0 → r = nI (mo_cn (fun j => decide (mq_pl M j = x)) (mq_bc M))) (fun _ => wh_modl cI bd M (co_count x)) 0 0 := by
  refine bh_ofi (cc := cX1_count) (maxL := 2) (by decide +kernel) rfl (Nat.le_of_ble_eq_true rfl) ?_
  intro p e s m args below meth c A Q _ C hQ
  refine bh_eqlv (lv' := [(0, .ref (bd 0)), (1, .int x)]) rfl ?_
  have hfc := MI_fc hI; have hbc := MI_bc hI; have hsc := MI_sc hI; have hnow := MI_now2 hI
  refine bh_aload_n C dX1_count_0 rfl 0 rfl ?_
  refine bh_iload_n C dX1_count_1 rfl 1 rfl ?_
  refine bh_iconst (v := 1) C dX1_count_2 (by decide) ?_
  refine bh_bipush (v := 11) C dX1_count_3 (by decide) ?_
  refine bh_calli_N (As := [.int x, .int 1, .int 11]) C (ct_X1_in l D cI cZ cL bd x 1 11) ⟨callB_of 3 C.1.2.2.2.2 ggX1_count_X1_in rfl rfl rfl (C.1.2.2.2.2 _ (by decide +kernel)) (C.1.2.2.2.2 _ (by decide +kernel)) (by decide +kernel) ⟨Nat.le_of_ble_eq_true rfl, Nat.le_of_ble_eq_true rfl⟩, C.1.2.2.2.2 _ (by decide +kernel)⟩ rfl rfl (Nat.le_of_ble_eq_true rfl) dX1_count_5 ⟨Nat.le_of_ble_eq_true rfl, Nat.le_of_ble_eq_true rfl⟩ (fun r_5 u_5 hp_5 => ?_)
  subst hp_5
  refine bh_if_eq (tgt := 15) C dX1_count_8 (by decide) (fun c_8 => ?_) (fun c_8 => ?_)
  · skip
    replace c_8 := bh_eq0 c_8
    have hco : co_count x = 1 := if_pos (bh_nR c_8)
    refine bh_iconst (v := 1) C dX1_count_15 (by decide) ?_
    refine bh_eqw (w' := wh_modlX cI bd (mq_now M) (mq_fc M) (mq_bc M) (mq_sc M) (mq_dep M) (mq_lat M) (mq_brd M) (mq_pl M) (mq_bf M) (mq_br M) (mq_pu M) (mq_ls M) (mq_rows M) thr) rfl ?_
    refine bh_put (ty := .int) (v := .int 1) (w' := wh_modlX cI bd (mq_now M) (mq_fc M) (mq_bc M) (mq_sc M) (mq_dep M) (mq_lat M) (mq_brd M) (mq_pl M) (mq_bf M) (mq_br M) (mq_pu M) (mq_ls M) (mq_rows M) 1) C ct_X1_count_in tyX1 tyX1_ok nmX1 0 rfl rfl 13 (by decide) (by decide +kernel) rfl rfl (by decide +kernel) rfl rfl (Nat.le_of_ble_eq_true rfl) dX1_count_16 rfl ?_
    refine bh_aload_n C dX1_count_19 rfl 0 rfl ?_
    refine bh_get C ct_X1_count_in 0 rfl rfl 13 (by decide) (by decide +kernel) rfl (v := .int 1) rfl dX1_count_20 ?_
    refine bh_if_ne (tgt := 34) C dX1_count_23 (by decide) (fun c_23 => ?_) (fun c_23 => absurd c_23 (by decide))
    refine bh_iconst (v := 0) C dX1_count_34 (by decide) ?_
    exact bh_zret C hQ dX1_count_35 () (v := 0) (w := wh_modlX cI bd (mq_now M) (mq_fc M) (mq_bc M) (mq_sc M) (mq_dep M) (mq_lat M) (mq_brd M) (mq_pl M) (mq_bf M) (mq_br M) (mq_pu M) (mq_ls M) (mq_rows M) 1) (congrArg (wh_modl cI bd M) hco.symm) rfl (Nat.le_of_ble_eq_true rfl) (Nat.le_of_ble_eq_true rfl) (by first | exact fun _ => rfl | exact fun z => absurd (z.symm.trans hco) (by decide))
  · skip
    replace c_8 := bh_ne0 c_8
    have hco : co_count x = 0 := if_neg (bh_yR c_8)
    refine bh_iconst (v := 0) C dX1_count_11 (by decide) ?_
    refine bh_goto (tgt := 16) C dX1_count_12 (by decide) ?_
    refine bh_eqw (w' := wh_modlX cI bd (mq_now M) (mq_fc M) (mq_bc M) (mq_sc M) (mq_dep M) (mq_lat M) (mq_brd M) (mq_pl M) (mq_bf M) (mq_br M) (mq_pu M) (mq_ls M) (mq_rows M) thr) rfl ?_
    refine bh_put (ty := .int) (v := .int 0) (w' := wh_modlX cI bd (mq_now M) (mq_fc M) (mq_bc M) (mq_sc M) (mq_dep M) (mq_lat M) (mq_brd M) (mq_pl M) (mq_bf M) (mq_br M) (mq_pu M) (mq_ls M) (mq_rows M) 0) C ct_X1_count_in tyX1 tyX1_ok nmX1 0 rfl rfl 13 (by decide) (by decide +kernel) rfl rfl (by decide +kernel) rfl rfl (Nat.le_of_ble_eq_true rfl) dX1_count_16 rfl ?_
    refine bh_aload_n C dX1_count_19 rfl 0 rfl ?_
    refine bh_get C ct_X1_count_in 0 rfl rfl 13 (by decide) (by decide +kernel) rfl (v := .int 0) rfl dX1_count_20 ?_
    refine bh_if_ne (tgt := 34) C dX1_count_23 (by decide) (fun c_23 => absurd c_23 (by decide)) (fun c_23 => ?_)
    refine bh_aload_n C dX1_count_26 rfl 0 rfl ?_
    refine bh_iload_n C dX1_count_27 rfl 1 rfl ?_
    refine bh_eqw (w' := wh_modl cI bd M 0) rfl ?_
    refine bh_calli_0 (As := [.int x]) C (ct_X1_at l D cI cZ cL bd M 0 x hI) (cwV 1 C.1.2.2.2.2 gX1_count_X1_at rfl rfl rfl (by decide +kernel) ⟨Nat.le_of_ble_eq_true rfl, Nat.le_of_ble_eq_true rfl⟩) (ci := 1) rfl 0 rfl rfl rfl (Nat.le_of_ble_eq_true rfl) dX1_count_28 ⟨Nat.le_of_ble_eq_true rfl, Nat.le_of_ble_eq_true rfl⟩ (fun r_28 u_28 hp_28 => ?_)
    subst hp_28
    refine bh_goto (tgt := 35) C dX1_count_31 (by decide) ?_
    exact bh_zret C hQ dX1_count_35 () (v := (nI (mo_cn (fun j => decide (mq_pl M j = x)) (mq_bc M)))) (w := wh_modl cI bd M 0) (congrArg (wh_modl cI bd M) hco.symm) rfl (Nat.le_of_ble_eq_true rfl) (Nat.le_of_ble_eq_true rfl) (by first | exact fun _ => rfl | exact fun z => absurd (z.symm.trans hco) (by decide))
theorem ct_X1_atLateral_in : ∀ w ∈ wsX10, w ∈ wsX1_atLateral := by decide +kernel
set_option maxRecDepth 100000 in
set_option maxHeartbeats 4000000 in
theorem ct_X1_atLateral (l : Launch) (D : va_G) (cI cZ cL : ClassId) (bd : Nat → Nat) {K T : Nat} (M : MT) (thr x : Int32) (hI : MI K T M) : bh_Mi l D (wh_tys cI cZ cL) yX1_atLateral wsX1_atLateral ({ frames := 1, cells := 0, slots := 0, locals := 22 } : Room) [.ref (bd 0), .int x] (wh_modl cI bd M thr) (fun r (_ : Unit) => co_in x 4 = 0 → r = nI (mo_atl M x)) (fun _ => wh_modl cI bd M (co_in x 4)) 0 0 := by
  refine bh_ofi (cc := cX1_atLateral) (maxL := 4) (by decide +kernel) rfl (Nat.le_of_ble_eq_true rfl) ?_
  intro p e s m args below meth c A Q _ C hQ
  refine bh_eqlv (lv' := [(0, .ref (bd 0)), (1, .int x)]) rfl ?_
  have hfc := MI_fc hI; have hbc := MI_bc hI; have hsc := MI_sc hI; have hnow := MI_now2 hI
  refine bh_aload_n C dX1_atLateral_0 rfl 0 rfl ?_
  refine bh_iload_n C dX1_atLateral_1 rfl 1 rfl ?_
  refine bh_iconst (v := 0) C dX1_atLateral_2 (by decide) ?_
  refine bh_iconst (v := 3) C dX1_atLateral_3 (by decide) ?_
  refine bh_calli_N (As := [.int x, .int 0, .int 3]) C (ct_X1_in l D cI cZ cL bd x 0 3) ⟨callB_of 3 C.1.2.2.2.2 ggX1_atLateral_X1_in rfl rfl rfl (C.1.2.2.2.2 _ (by decide +kernel)) (C.1.2.2.2.2 _ (by decide +kernel)) (by decide +kernel) ⟨Nat.le_of_ble_eq_true rfl, Nat.le_of_ble_eq_true rfl⟩, C.1.2.2.2.2 _ (by decide +kernel)⟩ rfl rfl (Nat.le_of_ble_eq_true rfl) dX1_atLateral_4 ⟨Nat.le_of_ble_eq_true rfl, Nat.le_of_ble_eq_true rfl⟩ (fun r_4 u_4 hp_4 => ?_)
  subst hp_4
  refine bh_if_eq (tgt := 14) C dX1_atLateral_7 (by decide) (fun c_7 => ?_) (fun c_7 => ?_)
  · skip
    replace c_7 := bh_eq0 c_7
    have hv := fun q => c_7 (bh_inR4.mpr q)
    refine bh_iconst (v := 1) C dX1_atLateral_14 (by decide) ?_
    refine bh_eqw (w' := wh_modlX cI bd (mq_now M) (mq_fc M) (mq_bc M) (mq_sc M) (mq_dep M) (mq_lat M) (mq_brd M) (mq_pl M) (mq_bf M) (mq_br M) (mq_pu M) (mq_ls M) (mq_rows M) thr) rfl ?_
    refine bh_put (ty := .int) (v := .int 1) (w' := wh_modlX cI bd (mq_now M) (mq_fc M) (mq_bc M) (mq_sc M) (mq_dep M) (mq_lat M) (mq_brd M) (mq_pl M) (mq_bf M) (mq_br M) (mq_pu M) (mq_ls M) (mq_rows M) 1) C ct_X1_atLateral_in tyX1 tyX1_ok nmX1 0 rfl rfl 13 (by decide) (by decide +kernel) rfl rfl (by decide +kernel) rfl rfl (Nat.le_of_ble_eq_true rfl) dX1_atLateral_15 rfl ?_
    refine bh_iconst (v := 0) C dX1_atLateral_18 (by decide) ?_
    refine bh_istore_n (lv' := [(2, .int 0), (0, .ref (bd 0)), (1, .int x)]) C dX1_atLateral_19 rfl (by decide) rfl ?_
    refine bh_iconst (v := 0) C dX1_atLateral_20 (by decide) ?_
    refine bh_istore_n (lv' := [(3, .int 0), (2, .int 0), (0, .ref (bd 0)), (1, .int x)]) C dX1_atLateral_21 rfl (by decide) rfl ?_
    refine bh_iload_n C dX1_atLateral_22 rfl 0 rfl ?_
    refine bh_aload_n C dX1_atLateral_23 rfl 2 rfl ?_
    refine bh_get C ct_X1_atLateral_in 0 rfl rfl 5 (by decide) (by decide +kernel) rfl (v := .int (nI (mq_bc M))) rfl dX1_atLateral_24 ?_
    refine bh_icmp_ge (tgt := 77) C dX1_atLateral_27 (by decide) (fun c_27 => ?_) (fun c_27 => ?_)
    · skip
      refine bh_iload_n C dX1_atLateral_77 rfl 1 rfl ?_
      exact bh_zret C hQ dX1_atLateral_78 () (v := 0) (w := wh_modlX cI bd (mq_now M) (mq_fc M) (mq_bc M) (mq_sc M) (mq_dep M) (mq_lat M) (mq_brd M) (mq_pl M) (mq_bf M) (mq_br M) (mq_pu M) (mq_ls M) (mq_rows M) 1) (congrArg (wh_modl cI bd M) (co_in1 hv).symm) rfl (Nat.le_of_ble_eq_true rfl) (Nat.le_of_ble_eq_true rfl) (fun z => absurd (z.symm.trans (co_in1 hv)) (by decide))
    · skip
      refine bh_aload_n C dX1_atLateral_30 rfl 2 rfl ?_
      refine bh_get C ct_X1_atLateral_in 0 rfl rfl 13 (by decide) (by decide +kernel) rfl (v := .int 1) rfl dX1_atLateral_31 ?_
      refine bh_if_ne (tgt := 77) C dX1_atLateral_34 (by decide) (fun c_34 => ?_) (fun c_34 => absurd c_34 (by decide))
      refine bh_iload_n C dX1_atLateral_77 rfl 1 rfl ?_
      exact bh_zret C hQ dX1_atLateral_78 () (v := 0) (w := wh_modlX cI bd (mq_now M) (mq_fc M) (mq_bc M) (mq_sc M) (mq_dep M) (mq_lat M) (mq_brd M) (mq_pl M) (mq_bf M) (mq_br M) (mq_pu M) (mq_ls M) (mq_rows M) 1) (congrArg (wh_modl cI bd M) (co_in1 hv).symm) rfl (Nat.le_of_ble_eq_true rfl) (Nat.le_of_ble_eq_true rfl) (fun z => absurd (z.symm.trans (co_in1 hv)) (by decide))
  · skip
    replace c_7 := bh_ne0 c_7
    have hv := bh_inR4.mp c_7
    refine bh_iconst (v := 0) C dX1_atLateral_10 (by decide) ?_
    refine bh_goto (tgt := 15) C dX1_atLateral_11 (by decide) ?_
    refine bh_eqw (w' := wh_modlX cI bd (mq_now M) (mq_fc M) (mq_bc M) (mq_sc M) (mq_dep M) (mq_lat M) (mq_brd M) (mq_pl M) (mq_bf M) (mq_br M) (mq_pu M) (mq_ls M) (mq_rows M) thr) rfl ?_
    refine bh_put (ty := .int) (v := .int 0) (w' := wh_modlX cI bd (mq_now M) (mq_fc M) (mq_bc M) (mq_sc M) (mq_dep M) (mq_lat M) (mq_brd M) (mq_pl M) (mq_bf M) (mq_br M) (mq_pu M) (mq_ls M) (mq_rows M) 0) C ct_X1_atLateral_in tyX1 tyX1_ok nmX1 0 rfl rfl 13 (by decide) (by decide +kernel) rfl rfl (by decide +kernel) rfl rfl (Nat.le_of_ble_eq_true rfl) dX1_atLateral_15 rfl ?_
    refine bh_iconst (v := 0) C dX1_atLateral_18 (by decide) ?_
    refine bh_istore_n (lv' := [(2, .int 0), (0, .ref (bd 0)), (1, .int x)]) C dX1_atLateral_19 rfl (by decide) rfl ?_
    refine bh_iconst (v := 0) C dX1_atLateral_20 (by decide) ?_
    refine bh_istore_n (lv' := [(3, .int 0), (2, .int 0), (0, .ref (bd 0)), (1, .int x)]) C dX1_atLateral_21 rfl (by decide) rfl ?_
    have loop : ∀ (n : Nat) (k : Nat), mq_bc M + 1 ≤ k + n → k ≤ mq_bc M → bh_W p l e ({ frames := 1, cells := 0, slots := 0, locals := 22 } : Room) s m args below meth c 4 D A 0 0 Q (wh_modlX cI bd (mq_now M) (mq_fc M) (mq_bc M) (mq_sc M) (mq_dep M) (mq_lat M) (mq_brd M) (mq_pl M) (mq_bf M) (mq_br M) (mq_pu M) (mq_ls M) (mq_rows M) 0) ([(3, .int (nI k)), (2, .int (nI (mo_cn (fun j => decide (mq_pl M j = 7 ∧ mq_lat M (mq_bf M j).toNatClampNeg = x)) k))), (0, .ref (bd 0)), (1, .int x)]) 22 [] := by
      intro n
      induction n with
      | zero => intro k h1 h2; exact absurd h1 (by omega)
      | succ n ih =>
        intro k h1 h2
        refine bh_iload_n C dX1_atLateral_22 rfl 0 rfl ?_
        refine bh_aload_n C dX1_atLateral_23 rfl 2 rfl ?_
        refine bh_get C ct_X1_atLateral_in 0 rfl rfl 5 (by decide) (by decide +kernel) rfl (v := .int (nI (mq_bc M))) rfl dX1_atLateral_24 ?_
        refine bh_icmp_ge (tgt := 77) C dX1_atLateral_27 (by decide) (fun c_27 => ?_) (fun c_27 => ?_)
        · skip
          have c_27 := bh_le (by omega) (by omega) c_27
          have hkb : k = mq_bc M := by omega
          refine bh_iload_n C dX1_atLateral_77 rfl 1 rfl ?_
          exact bh_zret C hQ dX1_atLateral_78 () (v := (nI (mo_cn (fun j => decide (mq_pl M j = 7 ∧ mq_lat M (mq_bf M j).toNatClampNeg = x)) k))) (w := wh_modlX cI bd (mq_now M) (mq_fc M) (mq_bc M) (mq_sc M) (mq_dep M) (mq_lat M) (mq_brd M) (mq_pl M) (mq_bf M) (mq_br M) (mq_pu M) (mq_ls M) (mq_rows M) 0) (congrArg (wh_modl cI bd M) (co_in0 hv).symm) rfl (Nat.le_of_ble_eq_true rfl) (Nat.le_of_ble_eq_true rfl) (fun _ => by rw [hkb]; rfl)
        · skip
          have c_27 := bh_nle2 (by omega) (by omega) c_27
          refine bh_aload_n C dX1_atLateral_30 rfl 2 rfl ?_
          refine bh_get C ct_X1_atLateral_in 0 rfl rfl 13 (by decide) (by decide +kernel) rfl (v := .int 0) rfl dX1_atLateral_31 ?_
          refine bh_if_ne (tgt := 77) C dX1_atLateral_34 (by decide) (fun c_34 => absurd c_34 (by decide)) (fun c_34 => ?_)
          refine bh_iload_n C dX1_atLateral_37 rfl 1 rfl ?_
          refine bh_aload_n C dX1_atLateral_38 rfl 2 rfl ?_
          refine bh_get C ct_X1_atLateral_in 0 rfl rfl 6 (by decide) (by decide +kernel) rfl (v := .ref (bd 6)) rfl dX1_atLateral_39 ?_
          refine bh_iload_n C dX1_atLateral_42 rfl 0 rfl ?_
          refine bh_iald C 4 0 (f := (mq_pl M)) rfl rfl (i := (nI k)) (vp_in_nI (n := k) (by omega) (by decide)) (x := ((mq_pl M) k)) (congrArg (mq_pl M) (nI_clamp (n := k) (by omega))) dX1_atLateral_43 ?_
          refine bh_bipush (v := 7) C dX1_atLateral_44 (by decide) ?_
          refine bh_icmp_ne (tgt := 68) C dX1_atLateral_46 (by decide) (fun c_46 => ?_) (fun c_46 => ?_)
          · skip
            refine bh_iconst (v := 0) C dX1_atLateral_68 (by decide) ?_
            refine bh_iadd C dX1_atLateral_69 ?_
            refine bh_topi (Int32.add_zero _) ?_
            refine bh_istore_n (lv' := [(2, .int (nI (mo_cn (fun j => decide (mq_pl M j = 7 ∧ mq_lat M (mq_bf M j).toNatClampNeg = x)) k))), (3, .int (nI k)), (0, .ref (bd 0)), (1, .int x)]) C dX1_atLateral_70 rfl (by decide) rfl ?_
            refine bh_iinc (v := (nI (k + 1))) (lv' := [(3, .int (nI (k + 1))), (2, .int (nI (mo_cn (fun j => decide (mq_pl M j = 7 ∧ mq_lat M (mq_bf M j).toNatClampNeg = x)) k))), (0, .ref (bd 0)), (1, .int x)]) C dX1_atLateral_71 (k := 1) rfl (nI_1 _) (by decide) rfl ?_
            refine bh_goto (tgt := 22) C dX1_atLateral_74 (by decide) ?_
            refine bh_eqlv (lv' := [(3, .int (nI (k + 1))), (2, .int (nI (mo_cn (fun j => decide (mq_pl M j = 7 ∧ mq_lat M (mq_bf M j).toNatClampNeg = x)) (k + 1)))), (0, .ref (bd 0)), (1, .int x)]) (by rw [bh_cn0 (f := (fun j => decide (mq_pl M j = 7 ∧ mq_lat M (mq_bf M j).toNatClampNeg = x))) (decide_eq_false (by first | exact fun z => c_46 z.1 | exact fun z => c_61 z.2))]) ?_
            exact bh_lv [0, 1, 2, 3] rfl (ih (k + 1) (by omega) (by omega))
          · skip
            refine bh_aload_n C dX1_atLateral_49 rfl 2 rfl ?_
            refine bh_get C ct_X1_atLateral_in 0 rfl rfl 3 (by decide) (by decide +kernel) rfl (v := .ref (bd 3)) rfl dX1_atLateral_50 ?_
            refine bh_aload_n C dX1_atLateral_53 rfl 2 rfl ?_
            refine bh_get C ct_X1_atLateral_in 0 rfl rfl 7 (by decide) (by decide +kernel) rfl (v := .ref (bd 7)) rfl dX1_atLateral_54 ?_
            refine bh_iload_n C dX1_atLateral_57 rfl 0 rfl ?_
            refine bh_iald C 5 0 (f := (mq_bf M)) rfl rfl (i := (nI k)) (vp_in_nI (n := k) (by omega) (by decide)) (x := ((mq_bf M) k)) (congrArg (mq_bf M) (nI_clamp (n := k) (by omega))) dX1_atLateral_58 ?_
            refine bh_iald C 2 0 (f := (mq_lat M)) rfl rfl (i := ((mq_bf M) k)) (MI_bf hI _) (x := ((mq_lat M) ((mq_bf M) k).toNatClampNeg)) rfl dX1_atLateral_59 ?_
            refine bh_iload_n C dX1_atLateral_60 rfl 3 rfl ?_
            refine bh_icmp_ne (tgt := 68) C dX1_atLateral_61 (by decide) (fun c_61 => ?_) (fun c_61 => ?_)
            · skip
              refine bh_iconst (v := 0) C dX1_atLateral_68 (by decide) ?_
              refine bh_iadd C dX1_atLateral_69 ?_
              refine bh_topi (Int32.add_zero _) ?_
              refine bh_istore_n (lv' := [(2, .int (nI (mo_cn (fun j => decide (mq_pl M j = 7 ∧ mq_lat M (mq_bf M j).toNatClampNeg = x)) k))), (3, .int (nI k)), (0, .ref (bd 0)), (1, .int x)]) C dX1_atLateral_70 rfl (by decide) rfl ?_
              refine bh_iinc (v := (nI (k + 1))) (lv' := [(3, .int (nI (k + 1))), (2, .int (nI (mo_cn (fun j => decide (mq_pl M j = 7 ∧ mq_lat M (mq_bf M j).toNatClampNeg = x)) k))), (0, .ref (bd 0)), (1, .int x)]) C dX1_atLateral_71 (k := 1) rfl (nI_1 _) (by decide) rfl ?_
              refine bh_goto (tgt := 22) C dX1_atLateral_74 (by decide) ?_
              refine bh_eqlv (lv' := [(3, .int (nI (k + 1))), (2, .int (nI (mo_cn (fun j => decide (mq_pl M j = 7 ∧ mq_lat M (mq_bf M j).toNatClampNeg = x)) (k + 1)))), (0, .ref (bd 0)), (1, .int x)]) (by rw [bh_cn0 (f := (fun j => decide (mq_pl M j = 7 ∧ mq_lat M (mq_bf M j).toNatClampNeg = x))) (decide_eq_false (by first | exact fun z => c_46 z.1 | exact fun z => c_61 z.2))]) ?_
              exact bh_lv [0, 1, 2, 3] rfl (ih (k + 1) (by omega) (by omega))
            · skip
              refine bh_iconst (v := 1) C dX1_atLateral_64 (by decide) ?_
              refine bh_goto (tgt := 69) C dX1_atLateral_65 (by decide) ?_
              refine bh_iadd C dX1_atLateral_69 ?_
              refine bh_topi (nI_1 _) ?_
              refine bh_istore_n (lv' := [(2, .int (nI ((mo_cn (fun j => decide (mq_pl M j = 7 ∧ mq_lat M (mq_bf M j).toNatClampNeg = x)) k) + 1))), (3, .int (nI k)), (0, .ref (bd 0)), (1, .int x)]) C dX1_atLateral_70 rfl (by decide) rfl ?_
              refine bh_iinc (v := (nI (k + 1))) (lv' := [(3, .int (nI (k + 1))), (2, .int (nI ((mo_cn (fun j => decide (mq_pl M j = 7 ∧ mq_lat M (mq_bf M j).toNatClampNeg = x)) k) + 1))), (0, .ref (bd 0)), (1, .int x)]) C dX1_atLateral_71 (k := 1) rfl (nI_1 _) (by decide) rfl ?_
              refine bh_goto (tgt := 22) C dX1_atLateral_74 (by decide) ?_
              refine bh_eqlv (lv' := [(3, .int (nI (k + 1))), (2, .int (nI (mo_cn (fun j => decide (mq_pl M j = 7 ∧ mq_lat M (mq_bf M j).toNatClampNeg = x)) (k + 1)))), (0, .ref (bd 0)), (1, .int x)]) (by rw [bh_cn1 (f := (fun j => decide (mq_pl M j = 7 ∧ mq_lat M (mq_bf M j).toNatClampNeg = x))) (decide_eq_true ⟨c_46, c_61⟩)]) ?_
              exact bh_lv [0, 1, 2, 3] rfl (ih (k + 1) (by omega) (by omega))
    exact bh_lv [0, 1, 2, 3] rfl (loop (mq_bc M + 1) 0 (by omega) (by omega))
theorem ct_X1_unmatched_in : ∀ w ∈ wsX10, w ∈ wsX1_unmatched := by decide +kernel
set_option maxRecDepth 100000 in
set_option maxHeartbeats 4000000 in
theorem ct_X1_unmatched (l : Launch) (D : va_G) (cI cZ cL : ClassId) (bd : Nat → Nat) {K T : Nat} (M : MT) (thr x : Int32) (hI : MI K T M) : bh_Mi l D (wh_tys cI cZ cL) yX1_unmatched wsX1_unmatched ({ frames := 2, cells := 0, slots := 0, locals := 43 } : Room) [.ref (bd 0), .int x] (wh_modl cI bd M thr) (fun r (_ : Unit) => co_in x (mq_fc M) = 0 → r = nI (mo_unm M x)) (fun _ => wh_modl cI bd M (co_in x (mq_fc M))) 0 0 := by
  refine bh_ofi (cc := cX1_unmatched) (maxL := 4) (by decide +kernel) rfl (Nat.le_of_ble_eq_true rfl) ?_
  intro p e s m args below meth c A Q _ C hQ
  refine bh_eqlv (lv' := [(0, .ref (bd 0)), (1, .int x)]) rfl ?_
  have hfc := MI_fc hI; have hbc := MI_bc hI; have hsc := MI_sc hI; have hnow := MI_now2 hI
  refine bh_iconst (v := 0) C dX1_unmatched_0 (by decide) ?_
  refine bh_istore_n (lv' := [(2, .int 0), (0, .ref (bd 0)), (1, .int x)]) C dX1_unmatched_1 rfl (by decide) rfl ?_
  refine bh_iconst (v := 0) C dX1_unmatched_2 (by decide) ?_
  refine bh_istore_n (lv' := [(3, .int 0), (2, .int 0), (0, .ref (bd 0)), (1, .int x)]) C dX1_unmatched_3 rfl (by decide) rfl ?_
  have loop : ∀ (n : Nat) (k : Nat) (t9 : Int32), mq_bc M + 1 ≤ k + n → k ≤ mq_bc M → bh_W p l e ({ frames := 2, cells := 0, slots := 0, locals := 43 } : Room) s m args below meth c 4 D A 0 0 Q (wh_modl cI bd M t9) ([(3, .int (nI k)), (2, .int (nI (mo_cn (fun j => decide ((mq_pl M j = 8 ∧ mq_bf M j = x) ∧ ¬ mo_fly M j)) k))), (0, .ref (bd 0)), (1, .int x)]) 4 [] := by
    intro n
    induction n with
    | zero => intro k t9 h1 h2; exact absurd h1 (by omega)
    | succ n ih =>
      intro k t9 h1 h2
      refine bh_aload_n C dX1_unmatched_4 rfl 2 rfl ?_
      refine bh_iload_n C dX1_unmatched_5 rfl 3 rfl ?_
      refine bh_calli_0 (As := [.int x]) C (ct_X1_isFlight l D cI cZ cL bd M t9 x hI) (cwV 1 C.1.2.2.2.2 gX1_unmatched_X1_isFlight rfl rfl rfl (by decide +kernel) ⟨Nat.le_of_ble_eq_true rfl, Nat.le_of_ble_eq_true rfl⟩) (ci := 1) rfl 0 rfl rfl rfl (Nat.le_of_ble_eq_true rfl) dX1_unmatched_6 ⟨Nat.le_of_ble_eq_true rfl, Nat.le_of_ble_eq_true rfl⟩ (fun r_6 u_6 hp_6 => ?_)
      subst hp_6
      refine bh_if_eq (tgt := 63) C dX1_unmatched_9 (by decide) (fun c_9 => ?_) (fun c_9 => ?_)
      · skip
        replace c_9 := bh_eq0 c_9
        have hv := fun q => c_9 (mo_in_t q)
        refine bh_iload_n C dX1_unmatched_63 rfl 1 rfl ?_
        exact bh_zret C hQ dX1_unmatched_64 () (v := (nI (mo_cn (fun j => decide ((mq_pl M j = 8 ∧ mq_bf M j = x) ∧ ¬ mo_fly M j)) k))) (w := wh_modl cI bd M (co_in x (mq_fc M))) rfl rfl (Nat.le_of_ble_eq_true rfl) (Nat.le_of_ble_eq_true rfl) (by first | exact fun _ => by rw [hkb]; rfl | exact fun z => absurd (z.symm.trans (co_in1 hv)) (by decide))
      · skip
        replace c_9 := bh_ne0 c_9
        have hv := mo_in_iff.mp c_9
        refine bh_iload_n C dX1_unmatched_12 rfl 0 rfl ?_
        refine bh_aload_n C dX1_unmatched_13 rfl 2 rfl ?_
        refine bh_get C ct_X1_unmatched_in 0 rfl rfl 5 (by decide) (by decide +kernel) rfl (v := .int (nI (mq_bc M))) rfl dX1_unmatched_14 ?_
        refine bh_icmp_ge (tgt := 63) C dX1_unmatched_17 (by decide) (fun c_17 => ?_) (fun c_17 => ?_)
        · skip
          have c_17 := bh_le (by omega) (by omega) c_17
          have hkb : k = mq_bc M := by omega
          refine bh_iload_n C dX1_unmatched_63 rfl 1 rfl ?_
          exact bh_zret C hQ dX1_unmatched_64 () (v := (nI (mo_cn (fun j => decide ((mq_pl M j = 8 ∧ mq_bf M j = x) ∧ ¬ mo_fly M j)) k))) (w := wh_modl cI bd M (co_in x (mq_fc M))) rfl rfl (Nat.le_of_ble_eq_true rfl) (Nat.le_of_ble_eq_true rfl) (by first | exact fun _ => by rw [hkb]; rfl | exact fun z => absurd (z.symm.trans (co_in1 hv)) (by decide))
        · skip
          have c_17 := bh_nle2 (by omega) (by omega) c_17
          refine bh_iload_n C dX1_unmatched_20 rfl 1 rfl ?_
          refine bh_aload_n C dX1_unmatched_21 rfl 2 rfl ?_
          refine bh_get C ct_X1_unmatched_in 0 rfl rfl 6 (by decide) (by decide +kernel) rfl (v := .ref (bd 6)) rfl dX1_unmatched_22 ?_
          refine bh_iload_n C dX1_unmatched_25 rfl 0 rfl ?_
          refine bh_iald C 4 0 (f := (mq_pl M)) rfl rfl (i := (nI k)) (vp_in_nI (n := k) (by omega) (by decide)) (x := ((mq_pl M) k)) (congrArg (mq_pl M) (nI_clamp (n := k) (by omega))) dX1_unmatched_26 ?_
          refine bh_bipush (v := 8) C dX1_unmatched_27 (by decide) ?_
          refine bh_icmp_ne (tgt := 54) C dX1_unmatched_29 (by decide) (fun c_29 => ?_) (fun c_29 => ?_)
          · skip
            refine bh_iconst (v := 0) C dX1_unmatched_54 (by decide) ?_
            refine bh_iadd C dX1_unmatched_55 ?_
            refine bh_topi (Int32.add_zero _) ?_
            refine bh_istore_n (lv' := [(2, .int (nI (mo_cn (fun j => decide ((mq_pl M j = 8 ∧ mq_bf M j = x) ∧ ¬ mo_fly M j)) k))), (3, .int (nI k)), (0, .ref (bd 0)), (1, .int x)]) C dX1_unmatched_56 rfl (by decide) rfl ?_
            refine bh_iinc (v := (nI (k + 1))) (lv' := [(3, .int (nI (k + 1))), (2, .int (nI (mo_cn (fun j => decide ((mq_pl M j = 8 ∧ mq_bf M j = x) ∧ ¬ mo_fly M j)) k))), (0, .ref (bd 0)), (1, .int x)]) C dX1_unmatched_57 (k := 1) rfl (nI_1 _) (by decide) rfl ?_
            refine bh_goto (tgt := 4) C dX1_unmatched_60 (by decide) ?_
            refine bh_eqlv (lv' := [(3, .int (nI (k + 1))), (2, .int (nI (mo_cn (fun j => decide ((mq_pl M j = 8 ∧ mq_bf M j = x) ∧ ¬ mo_fly M j)) (k + 1)))), (0, .ref (bd 0)), (1, .int x)]) (by rw [bh_cn0 (f := (fun j => decide ((mq_pl M j = 8 ∧ mq_bf M j = x) ∧ ¬ mo_fly M j))) (decide_eq_false (by first | exact fun z => c_29 z.1.1 | exact fun z => c_39 z.1.2 | exact fun z => z.2 c_47))]) ?_
            exact bh_lv [0, 1, 2, 3] rfl (ih (k + 1) _ (by omega) (by omega))
          · skip
            refine bh_aload_n C dX1_unmatched_32 rfl 2 rfl ?_
            refine bh_get C ct_X1_unmatched_in 0 rfl rfl 7 (by decide) (by decide +kernel) rfl (v := .ref (bd 7)) rfl dX1_unmatched_33 ?_
            refine bh_iload_n C dX1_unmatched_36 rfl 0 rfl ?_
            refine bh_iald C 5 0 (f := (mq_bf M)) rfl rfl (i := (nI k)) (vp_in_nI (n := k) (by omega) (by decide)) (x := ((mq_bf M) k)) (congrArg (mq_bf M) (nI_clamp (n := k) (by omega))) dX1_unmatched_37 ?_
            refine bh_iload_n C dX1_unmatched_38 rfl 3 rfl ?_
            refine bh_icmp_ne (tgt := 54) C dX1_unmatched_39 (by decide) (fun c_39 => ?_) (fun c_39 => ?_)
            · skip
              refine bh_iconst (v := 0) C dX1_unmatched_54 (by decide) ?_
              refine bh_iadd C dX1_unmatched_55 ?_
              refine bh_topi (Int32.add_zero _) ?_
              refine bh_istore_n (lv' := [(2, .int (nI (mo_cn (fun j => decide ((mq_pl M j = 8 ∧ mq_bf M j = x) ∧ ¬ mo_fly M j)) k))), (3, .int (nI k)), (0, .ref (bd 0)), (1, .int x)]) C dX1_unmatched_56 rfl (by decide) rfl ?_
              refine bh_iinc (v := (nI (k + 1))) (lv' := [(3, .int (nI (k + 1))), (2, .int (nI (mo_cn (fun j => decide ((mq_pl M j = 8 ∧ mq_bf M j = x) ∧ ¬ mo_fly M j)) k))), (0, .ref (bd 0)), (1, .int x)]) C dX1_unmatched_57 (k := 1) rfl (nI_1 _) (by decide) rfl ?_
              refine bh_goto (tgt := 4) C dX1_unmatched_60 (by decide) ?_
              refine bh_eqlv (lv' := [(3, .int (nI (k + 1))), (2, .int (nI (mo_cn (fun j => decide ((mq_pl M j = 8 ∧ mq_bf M j = x) ∧ ¬ mo_fly M j)) (k + 1)))), (0, .ref (bd 0)), (1, .int x)]) (by rw [bh_cn0 (f := (fun j => decide ((mq_pl M j = 8 ∧ mq_bf M j = x) ∧ ¬ mo_fly M j))) (decide_eq_false (by first | exact fun z => c_29 z.1.1 | exact fun z => c_39 z.1.2 | exact fun z => z.2 c_47))]) ?_
              exact bh_lv [0, 1, 2, 3] rfl (ih (k + 1) _ (by omega) (by omega))
            · skip
              refine bh_aload_n C dX1_unmatched_42 rfl 2 rfl ?_
              refine bh_iload_n C dX1_unmatched_43 rfl 0 rfl ?_
              refine bh_calli_0 (As := [.int (nI k)]) C (ct_X1_isMatched l D cI cZ cL bd M (co_in x (mq_fc M)) k hI (by omega)) (cwV 1 C.1.2.2.2.2 gX1_unmatched_X1_isMatched rfl rfl rfl (by decide +kernel) ⟨Nat.le_of_ble_eq_true rfl, Nat.le_of_ble_eq_true rfl⟩) (ci := 1) rfl 0 rfl rfl rfl (Nat.le_of_ble_eq_true rfl) dX1_unmatched_44 ⟨Nat.le_of_ble_eq_true rfl, Nat.le_of_ble_eq_true rfl⟩ (fun r_44 u_44 hp_44 => ?_)
              subst hp_44
              refine bh_if_ne (tgt := 54) C dX1_unmatched_47 (by decide) (fun c_47 => ?_) (fun c_47 => ?_)
              · skip
                replace c_47 := bh_ne0 c_47
                refine bh_iconst (v := 0) C dX1_unmatched_54 (by decide) ?_
                refine bh_iadd C dX1_unmatched_55 ?_
                refine bh_topi (Int32.add_zero _) ?_
                refine bh_istore_n (lv' := [(2, .int (nI (mo_cn (fun j => decide ((mq_pl M j = 8 ∧ mq_bf M j = x) ∧ ¬ mo_fly M j)) k))), (3, .int (nI k)), (0, .ref (bd 0)), (1, .int x)]) C dX1_unmatched_56 rfl (by decide) rfl ?_
                refine bh_iinc (v := (nI (k + 1))) (lv' := [(3, .int (nI (k + 1))), (2, .int (nI (mo_cn (fun j => decide ((mq_pl M j = 8 ∧ mq_bf M j = x) ∧ ¬ mo_fly M j)) k))), (0, .ref (bd 0)), (1, .int x)]) C dX1_unmatched_57 (k := 1) rfl (nI_1 _) (by decide) rfl ?_
                refine bh_goto (tgt := 4) C dX1_unmatched_60 (by decide) ?_
                refine bh_eqlv (lv' := [(3, .int (nI (k + 1))), (2, .int (nI (mo_cn (fun j => decide ((mq_pl M j = 8 ∧ mq_bf M j = x) ∧ ¬ mo_fly M j)) (k + 1)))), (0, .ref (bd 0)), (1, .int x)]) (by rw [bh_cn0 (f := (fun j => decide ((mq_pl M j = 8 ∧ mq_bf M j = x) ∧ ¬ mo_fly M j))) (decide_eq_false (by first | exact fun z => c_29 z.1.1 | exact fun z => c_39 z.1.2 | exact fun z => z.2 c_47))]) ?_
                exact bh_lv [0, 1, 2, 3] rfl (ih (k + 1) _ (by omega) (by omega))
              · skip
                replace c_47 := bh_eq0 c_47
                refine bh_iconst (v := 1) C dX1_unmatched_50 (by decide) ?_
                refine bh_goto (tgt := 55) C dX1_unmatched_51 (by decide) ?_
                refine bh_iadd C dX1_unmatched_55 ?_
                refine bh_topi (nI_1 _) ?_
                refine bh_istore_n (lv' := [(2, .int (nI ((mo_cn (fun j => decide ((mq_pl M j = 8 ∧ mq_bf M j = x) ∧ ¬ mo_fly M j)) k) + 1))), (3, .int (nI k)), (0, .ref (bd 0)), (1, .int x)]) C dX1_unmatched_56 rfl (by decide) rfl ?_
                refine bh_iinc (v := (nI (k + 1))) (lv' := [(3, .int (nI (k + 1))), (2, .int (nI ((mo_cn (fun j => decide ((mq_pl M j = 8 ∧ mq_bf M j = x) ∧ ¬ mo_fly M j)) k) + 1))), (0, .ref (bd 0)), (1, .int x)]) C dX1_unmatched_57 (k := 1) rfl (nI_1 _) (by decide) rfl ?_
                refine bh_goto (tgt := 4) C dX1_unmatched_60 (by decide) ?_
                refine bh_eqlv (lv' := [(3, .int (nI (k + 1))), (2, .int (nI (mo_cn (fun j => decide ((mq_pl M j = 8 ∧ mq_bf M j = x) ∧ ¬ mo_fly M j)) (k + 1)))), (0, .ref (bd 0)), (1, .int x)]) (by rw [bh_cn1 (f := (fun j => decide ((mq_pl M j = 8 ∧ mq_bf M j = x) ∧ ¬ mo_fly M j))) (decide_eq_true ⟨⟨c_29, c_39⟩, c_47⟩)]) ?_
                exact bh_lv [0, 1, 2, 3] rfl (ih (k + 1) _ (by omega) (by omega))
  exact bh_lv [0, 1, 2, 3] rfl (loop (mq_bc M + 1) 0 _ (by omega) (by omega))
theorem ct_X1_canCome_in : ∀ w ∈ wsX10, w ∈ wsX1_canCome := by decide +kernel
set_option maxRecDepth 100000 in
set_option maxHeartbeats 4000000 in
theorem ct_X1_canCome (l : Launch) (D : va_G) (cI cZ cL : ClassId) (bd : Nat → Nat) {K T : Nat} (M : MT) (thr x r0 : Int32) (hI : MI K T M) : bh_Mi l D (wh_tys cI cZ cL) yX1_canCome wsX1_canCome ({ frames := 1, cells := 0, slots := 0, locals := 22 } : Room) [.ref (bd 0), .int x, .int r0] (wh_modl cI bd M thr) (fun r (_ : Unit) => r = if co_take M x r0 = 0 then 1 else 0) (fun _ => wh_modl cI bd M (co_take M x r0)) 0 0 := by
  refine bh_ofi (cc := cX1_canCome) (maxL := 3) (by decide +kernel) rfl (Nat.le_of_ble_eq_true rfl) ?_
  intro p e s m args below meth c A Q _ C hQ
  refine bh_eqlv (lv' := [(0, .ref (bd 0)), (1, .int x), (2, .int r0)]) rfl ?_
  have hfc := MI_fc hI; have hbc := MI_bc hI; have hsc := MI_sc hI; have hnow := MI_now2 hI
  refine bh_aload_n C dX1_canCome_0 rfl 0 rfl ?_
  refine bh_iload_n C dX1_canCome_1 rfl 1 rfl ?_
  refine bh_iconst (v := 0) C dX1_canCome_2 (by decide) ?_
  refine bh_aload_n C dX1_canCome_3 rfl 0 rfl ?_
  refine bh_get C ct_X1_canCome_in 0 rfl rfl 1 (by decide) (by decide +kernel) rfl (v := .int (nI (mq_fc M))) rfl dX1_canCome_4 ?_
  refine bh_iconst (v := 1) C dX1_canCome_7 (by decide) ?_
  refine bh_isub C dX1_canCome_8 ?_
  refine bh_calli_N (As := [.int x, .int 0, .int ((nI (mq_fc M)) - 1)]) C (ct_X1_in l D cI cZ cL bd x 0 ((nI (mq_fc M)) - 1)) ⟨callB_of 3 C.1.2.2.2.2 ggX1_canCome_X1_in rfl rfl rfl (C.1.2.2.2.2 _ (by decide +kernel)) (C.1.2.2.2.2 _ (by decide +kernel)) (by decide +kernel) ⟨Nat.le_of_ble_eq_true rfl, Nat.le_of_ble_eq_true rfl⟩, C.1.2.2.2.2 _ (by decide +kernel)⟩ rfl rfl (Nat.le_of_ble_eq_true rfl) dX1_canCome_9 ⟨Nat.le_of_ble_eq_true rfl, Nat.le_of_ble_eq_true rfl⟩ (fun r_9 u_9 hp_9 => ?_)
  subst hp_9
  refine bh_if_eq (tgt := 25) C dX1_canCome_12 (by decide) (fun c_12 => ?_) (fun c_12 => ?_)
  · skip
    replace c_12 := bh_eq0 c_12
    have hv := fun q => c_12 ((bh_inR (by omega)).mpr q)
    have hco : co_take M x r0 = 1 := co_take1 (fun z => hv z.1)
    refine bh_iconst (v := 1) C dX1_canCome_25 (by decide) ?_
    refine bh_goto (tgt := 30) C dX1_canCome_26 (by decide) ?_
    refine bh_eqw (w' := wh_modlX cI bd (mq_now M) (mq_fc M) (mq_bc M) (mq_sc M) (mq_dep M) (mq_lat M) (mq_brd M) (mq_pl M) (mq_bf M) (mq_br M) (mq_pu M) (mq_ls M) (mq_rows M) thr) rfl ?_
    refine bh_put (ty := .int) (v := .int 1) (w' := wh_modlX cI bd (mq_now M) (mq_fc M) (mq_bc M) (mq_sc M) (mq_dep M) (mq_lat M) (mq_brd M) (mq_pl M) (mq_bf M) (mq_br M) (mq_pu M) (mq_ls M) (mq_rows M) 1) C ct_X1_canCome_in tyX1 tyX1_ok nmX1 0 rfl rfl 13 (by decide) (by decide +kernel) rfl rfl (by decide +kernel) rfl rfl (Nat.le_of_ble_eq_true rfl) dX1_canCome_30 rfl ?_
    refine bh_aload_n C dX1_canCome_33 rfl 0 rfl ?_
    refine bh_get C ct_X1_canCome_in 0 rfl rfl 13 (by decide) (by decide +kernel) rfl (v := .int 1) rfl dX1_canCome_34 ?_
    refine bh_if_ne (tgt := 67) C dX1_canCome_37 (by decide) (fun c_37 => ?_) (fun c_37 => absurd c_37 (by decide))
    refine bh_aload_n C dX1_canCome_67 rfl 0 rfl ?_
    refine bh_get C ct_X1_canCome_in 0 rfl rfl 13 (by decide) (by decide +kernel) rfl (v := .int 1) rfl dX1_canCome_68 ?_
    refine bh_if_ne (tgt := 78) C dX1_canCome_71 (by decide) (fun c_71 => ?_) (fun c_71 => absurd c_71 (by decide))
    refine bh_iconst (v := 0) C dX1_canCome_78 (by decide) ?_
    exact bh_zret C hQ dX1_canCome_79 () (v := 0) (w := wh_modlX cI bd (mq_now M) (mq_fc M) (mq_bc M) (mq_sc M) (mq_dep M) (mq_lat M) (mq_brd M) (mq_pl M) (mq_bf M) (mq_br M) (mq_pu M) (mq_ls M) (mq_rows M) 1) (congrArg (wh_modl cI bd M) hco.symm) rfl (Nat.le_of_ble_eq_true rfl) (Nat.le_of_ble_eq_true rfl) (by first | exact (if_pos hco).symm | exact (if_neg (by rw [hco]; decide)).symm)
  · skip
    replace c_12 := bh_ne0 c_12
    have hv := (bh_inR (by omega)).mp c_12
    refine bh_iload_n C dX1_canCome_15 rfl 2 rfl ?_
    refine bh_iconst (v := 0) C dX1_canCome_16 (by decide) ?_
    refine bh_bipush (v := 39) C dX1_canCome_17 (by decide) ?_
    refine bh_calli_N (As := [.int r0, .int 0, .int 39]) C (ct_X1_in l D cI cZ cL bd r0 0 39) ⟨callB_of 3 C.1.2.2.2.2 ggX1_canCome_X1_in rfl rfl rfl (C.1.2.2.2.2 _ (by decide +kernel)) (C.1.2.2.2.2 _ (by decide +kernel)) (by decide +kernel) ⟨Nat.le_of_ble_eq_true rfl, Nat.le_of_ble_eq_true rfl⟩, C.1.2.2.2.2 _ (by decide +kernel)⟩ rfl rfl (Nat.le_of_ble_eq_true rfl) dX1_canCome_19 ⟨Nat.le_of_ble_eq_true rfl, Nat.le_of_ble_eq_true rfl⟩ (fun r_19 u_19 hp_19 => ?_)
    subst hp_19
    refine bh_if_ne (tgt := 29) C dX1_canCome_22 (by decide) (fun c_22 => ?_) (fun c_22 => ?_)
    · skip
      replace c_22 := bh_ne0 c_22
      have hu := bh_inR40.mp c_22
      refine bh_iconst (v := 0) C dX1_canCome_29 (by decide) ?_
      refine bh_eqw (w' := wh_modlX cI bd (mq_now M) (mq_fc M) (mq_bc M) (mq_sc M) (mq_dep M) (mq_lat M) (mq_brd M) (mq_pl M) (mq_bf M) (mq_br M) (mq_pu M) (mq_ls M) (mq_rows M) thr) rfl ?_
      refine bh_put (ty := .int) (v := .int 0) (w' := wh_modlX cI bd (mq_now M) (mq_fc M) (mq_bc M) (mq_sc M) (mq_dep M) (mq_lat M) (mq_brd M) (mq_pl M) (mq_bf M) (mq_br M) (mq_pu M) (mq_ls M) (mq_rows M) 0) C ct_X1_canCome_in tyX1 tyX1_ok nmX1 0 rfl rfl 13 (by decide) (by decide +kernel) rfl rfl (by decide +kernel) rfl rfl (Nat.le_of_ble_eq_true rfl) dX1_canCome_30 rfl ?_
      refine bh_aload_n C dX1_canCome_33 rfl 0 rfl ?_
      refine bh_get C ct_X1_canCome_in 0 rfl rfl 13 (by decide) (by decide +kernel) rfl (v := .int 0) rfl dX1_canCome_34 ?_
      refine bh_if_ne (tgt := 67) C dX1_canCome_37 (by decide) (fun c_37 => absurd c_37 (by decide)) (fun c_37 => ?_)
      refine bh_aload_n C dX1_canCome_40 rfl 0 rfl ?_
      refine bh_get C ct_X1_canCome_in 0 rfl rfl 5 (by decide) (by decide +kernel) rfl (v := .int (nI (mq_bc M))) rfl dX1_canCome_41 ?_
      refine bh_bipush (v := 48) C dX1_canCome_44 (by decide) ?_
      refine bh_icmp_eq (tgt := 62) C dX1_canCome_46 (by decide) (fun c_46 => ?_) (fun c_46 => ?_)
      · skip
        have c_46 := (nI_eq (b := 48) (by omega) (by decide)).mp c_46
        have hco : co_take M x r0 = 2 := co_take2 hv hu (Or.inl (by omega))
        refine bh_aload_n C dX1_canCome_62 rfl 0 rfl ?_
        refine bh_iconst (v := 2) C dX1_canCome_63 (by decide) ?_
        refine bh_put (ty := .int) (v := .int 2) (w' := wh_modlX cI bd (mq_now M) (mq_fc M) (mq_bc M) (mq_sc M) (mq_dep M) (mq_lat M) (mq_brd M) (mq_pl M) (mq_bf M) (mq_br M) (mq_pu M) (mq_ls M) (mq_rows M) 2) C ct_X1_canCome_in tyX1 tyX1_ok nmX1 0 rfl rfl 13 (by decide) (by decide +kernel) rfl rfl (by decide +kernel) rfl rfl (Nat.le_of_ble_eq_true rfl) dX1_canCome_64 rfl ?_
        refine bh_aload_n C dX1_canCome_67 rfl 0 rfl ?_
        refine bh_get C ct_X1_canCome_in 0 rfl rfl 13 (by decide) (by decide +kernel) rfl (v := .int 2) rfl dX1_canCome_68 ?_
        refine bh_if_ne (tgt := 78) C dX1_canCome_71 (by decide) (fun c_71 => ?_) (fun c_71 => absurd c_71 (by decide))
        refine bh_iconst (v := 0) C dX1_canCome_78 (by decide) ?_
        exact bh_zret C hQ dX1_canCome_79 () (v := 0) (w := wh_modlX cI bd (mq_now M) (mq_fc M) (mq_bc M) (mq_sc M) (mq_dep M) (mq_lat M) (mq_brd M) (mq_pl M) (mq_bf M) (mq_br M) (mq_pu M) (mq_ls M) (mq_rows M) 2) (congrArg (wh_modl cI bd M) hco.symm) rfl (Nat.le_of_ble_eq_true rfl) (Nat.le_of_ble_eq_true rfl) (by first | exact (if_pos hco).symm | exact (if_neg (by rw [hco]; decide)).symm)
      · skip
        have c_46 : ¬ mq_bc M = 48 := fun q => c_46 (by rw [q]; decide +kernel)
        refine bh_aload_n C dX1_canCome_49 rfl 0 rfl ?_
        refine bh_get C ct_X1_canCome_in 0 rfl rfl 0 (by decide) (by decide +kernel) rfl (v := .int (nI (mq_now M))) rfl dX1_canCome_50 ?_
        refine bh_aload_n C dX1_canCome_53 rfl 0 rfl ?_
        refine bh_get C ct_X1_canCome_in 0 rfl rfl 2 (by decide) (by decide +kernel) rfl (v := .ref (bd 2)) rfl dX1_canCome_54 ?_
        refine bh_iload_n C dX1_canCome_57 rfl 1 rfl ?_
        refine bh_iald C 1 0 (f := (mq_dep M)) rfl rfl (i := x) (bh_inW hv hfc) (x := ((mq_dep M) x.toNatClampNeg)) rfl dX1_canCome_58 ?_
        refine bh_icmp_lt (tgt := 67) C dX1_canCome_59 (by decide) (fun c_59 => ?_) (fun c_59 => ?_)
        · skip
          have hco : co_take M x r0 = 0 := co_take0 hv hu (by omega) c_59
          refine bh_aload_n C dX1_canCome_67 rfl 0 rfl ?_
          refine bh_get C ct_X1_canCome_in 0 rfl rfl 13 (by decide) (by decide +kernel) rfl (v := .int 0) rfl dX1_canCome_68 ?_
          refine bh_if_ne (tgt := 78) C dX1_canCome_71 (by decide) (fun c_71 => absurd c_71 (by decide)) (fun c_71 => ?_)
          refine bh_iconst (v := 1) C dX1_canCome_74 (by decide) ?_
          refine bh_goto (tgt := 79) C dX1_canCome_75 (by decide) ?_
          exact bh_zret C hQ dX1_canCome_79 () (v := 1) (w := wh_modlX cI bd (mq_now M) (mq_fc M) (mq_bc M) (mq_sc M) (mq_dep M) (mq_lat M) (mq_brd M) (mq_pl M) (mq_bf M) (mq_br M) (mq_pu M) (mq_ls M) (mq_rows M) 0) (congrArg (wh_modl cI bd M) hco.symm) rfl (Nat.le_of_ble_eq_true rfl) (Nat.le_of_ble_eq_true rfl) (by first | exact (if_pos hco).symm | exact (if_neg (by rw [hco]; decide)).symm)
        · skip
          have hco : co_take M x r0 = 2 := co_take2 hv hu (Or.inr (Int32.not_lt.mp c_59))
          refine bh_aload_n C dX1_canCome_62 rfl 0 rfl ?_
          refine bh_iconst (v := 2) C dX1_canCome_63 (by decide) ?_
          refine bh_put (ty := .int) (v := .int 2) (w' := wh_modlX cI bd (mq_now M) (mq_fc M) (mq_bc M) (mq_sc M) (mq_dep M) (mq_lat M) (mq_brd M) (mq_pl M) (mq_bf M) (mq_br M) (mq_pu M) (mq_ls M) (mq_rows M) 2) C ct_X1_canCome_in tyX1 tyX1_ok nmX1 0 rfl rfl 13 (by decide) (by decide +kernel) rfl rfl (by decide +kernel) rfl rfl (Nat.le_of_ble_eq_true rfl) dX1_canCome_64 rfl ?_
          refine bh_aload_n C dX1_canCome_67 rfl 0 rfl ?_
          refine bh_get C ct_X1_canCome_in 0 rfl rfl 13 (by decide) (by decide +kernel) rfl (v := .int 2) rfl dX1_canCome_68 ?_
          refine bh_if_ne (tgt := 78) C dX1_canCome_71 (by decide) (fun c_71 => ?_) (fun c_71 => absurd c_71 (by decide))
          refine bh_iconst (v := 0) C dX1_canCome_78 (by decide) ?_
          exact bh_zret C hQ dX1_canCome_79 () (v := 0) (w := wh_modlX cI bd (mq_now M) (mq_fc M) (mq_bc M) (mq_sc M) (mq_dep M) (mq_lat M) (mq_brd M) (mq_pl M) (mq_bf M) (mq_br M) (mq_pu M) (mq_ls M) (mq_rows M) 2) (congrArg (wh_modl cI bd M) hco.symm) rfl (Nat.le_of_ble_eq_true rfl) (Nat.le_of_ble_eq_true rfl) (by first | exact (if_pos hco).symm | exact (if_neg (by rw [hco]; decide)).symm)
    · skip
      replace c_22 := bh_eq0 c_22
      have hu := fun q => c_22 (bh_inR40.mpr q)
      have hco : co_take M x r0 = 1 := co_take1 (fun z => hu z.2)
      refine bh_iconst (v := 1) C dX1_canCome_25 (by decide) ?_
      refine bh_goto (tgt := 30) C dX1_canCome_26 (by decide) ?_
      refine bh_eqw (w' := wh_modlX cI bd (mq_now M) (mq_fc M) (mq_bc M) (mq_sc M) (mq_dep M) (mq_lat M) (mq_brd M) (mq_pl M) (mq_bf M) (mq_br M) (mq_pu M) (mq_ls M) (mq_rows M) thr) rfl ?_
      refine bh_put (ty := .int) (v := .int 1) (w' := wh_modlX cI bd (mq_now M) (mq_fc M) (mq_bc M) (mq_sc M) (mq_dep M) (mq_lat M) (mq_brd M) (mq_pl M) (mq_bf M) (mq_br M) (mq_pu M) (mq_ls M) (mq_rows M) 1) C ct_X1_canCome_in tyX1 tyX1_ok nmX1 0 rfl rfl 13 (by decide) (by decide +kernel) rfl rfl (by decide +kernel) rfl rfl (Nat.le_of_ble_eq_true rfl) dX1_canCome_30 rfl ?_
      refine bh_aload_n C dX1_canCome_33 rfl 0 rfl ?_
      refine bh_get C ct_X1_canCome_in 0 rfl rfl 13 (by decide) (by decide +kernel) rfl (v := .int 1) rfl dX1_canCome_34 ?_
      refine bh_if_ne (tgt := 67) C dX1_canCome_37 (by decide) (fun c_37 => ?_) (fun c_37 => absurd c_37 (by decide))
      refine bh_aload_n C dX1_canCome_67 rfl 0 rfl ?_
      refine bh_get C ct_X1_canCome_in 0 rfl rfl 13 (by decide) (by decide +kernel) rfl (v := .int 1) rfl dX1_canCome_68 ?_
      refine bh_if_ne (tgt := 78) C dX1_canCome_71 (by decide) (fun c_71 => ?_) (fun c_71 => absurd c_71 (by decide))
      refine bh_iconst (v := 0) C dX1_canCome_78 (by decide) ?_
      exact bh_zret C hQ dX1_canCome_79 () (v := 0) (w := wh_modlX cI bd (mq_now M) (mq_fc M) (mq_bc M) (mq_sc M) (mq_dep M) (mq_lat M) (mq_brd M) (mq_pl M) (mq_bf M) (mq_br M) (mq_pu M) (mq_ls M) (mq_rows M) 1) (congrArg (wh_modl cI bd M) hco.symm) rfl (Nat.le_of_ble_eq_true rfl) (Nat.le_of_ble_eq_true rfl) (by first | exact (if_pos hco).symm | exact (if_neg (by rw [hco]; decide)).symm)
theorem ct_X1_added_in : ∀ w ∈ wsX10, w ∈ wsX1_added := by decide +kernel
set_option maxRecDepth 100000 in
set_option maxHeartbeats 4000000 in
theorem ct_X1_added (l : Launch) (D : va_G) (cI cZ cL : ClassId) (bd : Nat → Nat) {K T : Nat} (M : MT) (thr x r0 : Int32) (hI : MI K T M) (hb48 : mq_bc M < 48) : bh_Mi l D (wh_tys cI cZ cL) yX1_added wsX1_added ({ frames := 0, cells := 0, slots := 0, locals := 0 } : Room) [.ref (bd 0), .int x, .int r0] (wh_modl cI bd M thr) (fun r (_ : Unit) => r = nI (mq_bc M)) (fun _ => wh_modl cI bd (mo_take M x r0) thr) 0 0 := by
  refine bh_ofi (cc := cX1_added) (maxL := 3) (by decide +kernel) rfl (Nat.le_of_ble_eq_true rfl) ?_
  intro p e s m args below meth c A Q _ C hQ
  refine bh_eqlv (lv' := [(0, .ref (bd 0)), (1, .int x), (2, .int r0)]) rfl ?_
  have hfc := MI_fc hI; have hbc := MI_bc hI; have hsc := MI_sc hI; have hnow := MI_now2 hI
  refine bh_aload_n C dX1_added_0 rfl 0 rfl ?_
  refine bh_get C ct_X1_added_in 0 rfl rfl 7 (by decide) (by decide +kernel) rfl (v := .ref (bd 7)) rfl dX1_added_1 ?_
  refine bh_aload_n C dX1_added_4 rfl 0 rfl ?_
  refine bh_get C ct_X1_added_in 0 rfl rfl 5 (by decide) (by decide +kernel) rfl (v := .int (nI (mq_bc M))) rfl dX1_added_5 ?_
  refine bh_iload_n C dX1_added_8 rfl 1 rfl ?_
  refine bh_eqw (w' := wh_modlX cI bd (mq_now M) (mq_fc M) (mq_bc M) (mq_sc M) (mq_dep M) (mq_lat M) (mq_brd M) (mq_pl M) (mq_bf M) (mq_br M) (mq_pu M) (mq_ls M) (mq_rows M) thr) rfl ?_
  refine bh_iast (w' := wh_modlX cI bd (mq_now M) (mq_fc M) (mq_bc M) (mq_sc M) (mq_dep M) (mq_lat M) (mq_brd M) (mq_pl M) (upd (mq_bf M) ((mq_bc M)) x) (mq_br M) (mq_pu M) (mq_ls M) (mq_rows M) thr) C 5 0 rfl rfl (vp_in_nI (n := (mq_bc M)) (by omega) (by decide)) dX1_added_9 (by rw [nI_clamp (n := (mq_bc M)) (by omega)]; rfl) ?_
  refine bh_aload_n C dX1_added_10 rfl 0 rfl ?_
  refine bh_get C ct_X1_added_in 0 rfl rfl 8 (by decide) (by decide +kernel) rfl (v := .ref (bd 8)) rfl dX1_added_11 ?_
  refine bh_aload_n C dX1_added_14 rfl 0 rfl ?_
  refine bh_get C ct_X1_added_in 0 rfl rfl 5 (by decide) (by decide +kernel) rfl (v := .int (nI (mq_bc M))) rfl dX1_added_15 ?_
  refine bh_iload_n C dX1_added_18 rfl 2 rfl ?_
  refine bh_iast (w' := wh_modlX cI bd (mq_now M) (mq_fc M) (mq_bc M) (mq_sc M) (mq_dep M) (mq_lat M) (mq_brd M) (mq_pl M) (upd (mq_bf M) ((mq_bc M)) x) (upd (mq_br M) ((mq_bc M)) r0) (mq_pu M) (mq_ls M) (mq_rows M) thr) C 6 0 rfl rfl (vp_in_nI (n := (mq_bc M)) (by omega) (by decide)) dX1_added_19 (by rw [nI_clamp (n := (mq_bc M)) (by omega)]; rfl) ?_
  refine bh_aload_n C dX1_added_20 rfl 0 rfl ?_
  refine bh_get C ct_X1_added_in 0 rfl rfl 9 (by decide) (by decide +kernel) rfl (v := .ref (bd 9)) rfl dX1_added_21 ?_
  refine bh_aload_n C dX1_added_24 rfl 0 rfl ?_
  refine bh_get C ct_X1_added_in 0 rfl rfl 5 (by decide) (by decide +kernel) rfl (v := .int (nI (mq_bc M))) rfl dX1_added_25 ?_
  refine bh_iconst (v := 0) C dX1_added_28 (by decide) ?_
  refine bh_iast (w' := wh_modlX cI bd (mq_now M) (mq_fc M) (mq_bc M) (mq_sc M) (mq_dep M) (mq_lat M) (mq_brd M) (mq_pl M) (upd (mq_bf M) ((mq_bc M)) x) (upd (mq_br M) ((mq_bc M)) r0) (upd (mq_pu M) ((mq_bc M)) 0) (mq_ls M) (mq_rows M) thr) C 7 0 rfl rfl (vp_in_nI (n := (mq_bc M)) (by omega) (by decide)) dX1_added_29 (by rw [nI_clamp (n := (mq_bc M)) (by omega)]; rfl) ?_
  refine bh_aload_n C dX1_added_30 rfl 0 rfl ?_
  refine bh_get C ct_X1_added_in 0 rfl rfl 6 (by decide) (by decide +kernel) rfl (v := .ref (bd 6)) rfl dX1_added_31 ?_
  refine bh_aload_n C dX1_added_34 rfl 0 rfl ?_
  refine bh_get C ct_X1_added_in 0 rfl rfl 5 (by decide) (by decide +kernel) rfl (v := .int (nI (mq_bc M))) rfl dX1_added_35 ?_
  refine bh_iconst (v := 0) C dX1_added_38 (by decide) ?_
  refine bh_iast (w' := wh_modlX cI bd (mq_now M) (mq_fc M) (mq_bc M) (mq_sc M) (mq_dep M) (mq_lat M) (mq_brd M) (upd (mq_pl M) ((mq_bc M)) 0) (upd (mq_bf M) ((mq_bc M)) x) (upd (mq_br M) ((mq_bc M)) r0) (upd (mq_pu M) ((mq_bc M)) 0) (mq_ls M) (mq_rows M) thr) C 4 0 rfl rfl (vp_in_nI (n := (mq_bc M)) (by omega) (by decide)) dX1_added_39 (by rw [nI_clamp (n := (mq_bc M)) (by omega)]; rfl) ?_
  refine bh_aload_n C dX1_added_40 rfl 0 rfl ?_
  refine bh_dup C dX1_added_41 rfl ?_
  refine bh_get C ct_X1_added_in 0 rfl rfl 5 (by decide) (by decide +kernel) rfl (v := .int (nI (mq_bc M))) rfl dX1_added_42 ?_
  refine bh_iconst (v := 1) C dX1_added_45 (by decide) ?_
  refine bh_iadd C dX1_added_46 ?_
  refine bh_topi (nI_1 _) ?_
  refine bh_put (ty := .int) (v := .int (nI ((mq_bc M) + 1))) (w' := wh_modlX cI bd (mq_now M) (mq_fc M) (((mq_bc M) + 1)) (mq_sc M) (mq_dep M) (mq_lat M) (mq_brd M) (upd (mq_pl M) ((mq_bc M)) 0) (upd (mq_bf M) ((mq_bc M)) x) (upd (mq_br M) ((mq_bc M)) r0) (upd (mq_pu M) ((mq_bc M)) 0) (mq_ls M) (mq_rows M) thr) C ct_X1_added_in tyX1 tyX1_ok nmX1 0 rfl rfl 5 (by decide) (by decide +kernel) rfl rfl (by decide +kernel) rfl rfl (Nat.le_of_ble_eq_true rfl) dX1_added_47 rfl ?_
  refine bh_aload_n C dX1_added_50 rfl 0 rfl ?_
  refine bh_get C ct_X1_added_in 0 rfl rfl 5 (by decide) (by decide +kernel) rfl (v := .int (nI (((mq_bc M) + 1)))) rfl dX1_added_51 ?_
  refine bh_iconst (v := 1) C dX1_added_54 (by decide) ?_
  refine bh_isub C dX1_added_55 ?_
  refine bh_topi (nI_pred _) ?_
  exact bh_zret C hQ dX1_added_56 () (v := (nI (mq_bc M))) (w := wh_modlX cI bd (mq_now M) (mq_fc M) (((mq_bc M) + 1)) (mq_sc M) (mq_dep M) (mq_lat M) (mq_brd M) (upd (mq_pl M) ((mq_bc M)) 0) (upd (mq_bf M) ((mq_bc M)) x) (upd (mq_br M) ((mq_bc M)) r0) (upd (mq_pu M) ((mq_bc M)) 0) (mq_ls M) (mq_rows M) thr) (by rw [bh_updpu hI]; rfl) rfl (Nat.le_of_ble_eq_true rfl) (Nat.le_of_ble_eq_true rfl) rfl
set_option maxRecDepth 100000 in
set_option maxHeartbeats 4000000 in
theorem ct_X1_checkIn (l : Launch) (D : va_G) (cI cZ cL : ClassId) (bd : Nat → Nat) {K T : Nat} (M : MT) (thr x r0 : Int32) (hI : MI K T M) (hK4 : K + 4 ≤ 2048) : bh_Mi l D (wh_tys cI cZ cL) yX1_checkIn wsX1_checkIn ({ frames := 2, cells := 0, slots := 0, locals := 44 } : Room) [.ref (bd 0), .int x, .int r0] (wh_modl cI bd M thr) (fun r (_ : Unit) => co_take M x r0 = 0 → r = nI (mq_bc M)) (fun _ => wh_modl cI bd (mo_sel (co_take M x r0) (mo_bring (mo_take M x r0) (mq_bc M) 1) M) (co_take M x r0)) 0 0 := by
  refine bh_ofi (cc := cX1_checkIn) (maxL := 4) (by decide +kernel) rfl (Nat.le_of_ble_eq_true rfl) ?_
  intro p e s m args below meth c A Q _ C hQ
  refine bh_eqlv (lv' := [(0, .ref (bd 0)), (1, .int x), (2, .int r0)]) rfl ?_
  have hfc := MI_fc hI; have hbc := MI_bc hI; have hsc := MI_sc hI; have hnow := MI_now2 hI
  have hsc9 := MI_phi0 hI
  refine bh_aload_n C dX1_checkIn_0 rfl 0 rfl ?_
  refine bh_iload_n C dX1_checkIn_1 rfl 1 rfl ?_
  refine bh_iload_n C dX1_checkIn_2 rfl 2 rfl ?_
  refine bh_calli_0 (As := [.int x, .int r0]) C (ct_X1_canCome l D cI cZ cL bd M thr x r0 hI) (cwV 2 C.1.2.2.2.2 gX1_checkIn_X1_canCome rfl rfl rfl (by decide +kernel) ⟨Nat.le_of_ble_eq_true rfl, Nat.le_of_ble_eq_true rfl⟩) (ci := 1) rfl 0 rfl rfl rfl (Nat.le_of_ble_eq_true rfl) dX1_checkIn_3 ⟨Nat.le_of_ble_eq_true rfl, Nat.le_of_ble_eq_true rfl⟩ (fun r_3 u_3 hp_3 => ?_)
  subst hp_3
  refine bh_if_ne (tgt := 11) C dX1_checkIn_6 (by decide) (fun c_6 => ?_) (fun c_6 => ?_)
  · skip
    replace c_6 := bh_ne0 c_6
    have hco := c_6
    have htk := co_take_0 c_6
    refine bh_aload_n C dX1_checkIn_11 rfl 0 rfl ?_
    refine bh_iload_n C dX1_checkIn_12 rfl 1 rfl ?_
    refine bh_iload_n C dX1_checkIn_13 rfl 2 rfl ?_
    refine bh_calli_0 (As := [.int x, .int r0]) C (ct_X1_added l D cI cZ cL bd M (co_take M x r0) x r0 hI htk.2.2) (cwV 2 C.1.2.2.2.2 gX1_checkIn_X1_added rfl rfl rfl (by decide +kernel) ⟨Nat.le_of_ble_eq_true rfl, Nat.le_of_ble_eq_true rfl⟩) (ci := 1) rfl 0 rfl rfl rfl (Nat.le_of_ble_eq_true rfl) dX1_checkIn_14 ⟨Nat.le_of_ble_eq_true rfl, Nat.le_of_ble_eq_true rfl⟩ (fun r_14 u_14 hp_14 => ?_)
    subst hp_14
    refine bh_istore_n (lv' := [(3, .int (nI (mq_bc M))), (0, .ref (bd 0)), (1, .int x), (2, .int r0)]) C dX1_checkIn_17 rfl (by decide) rfl ?_
    refine bh_aload_n C dX1_checkIn_18 rfl 1 rfl ?_
    refine bh_iload_n C dX1_checkIn_19 rfl 0 rfl ?_
    refine bh_iconst (v := 1) C dX1_checkIn_20 (by decide) ?_
    refine bh_callv_0 (As := [.int (nI (mq_bc M)), .int 1]) C (ct_X1_comes l D cI cZ cL bd (mo_take M x r0) (co_take M x r0) (mq_bc M) 1 htk.2.2 (show mq_sc M < 6000 by omega)) (cwV 2 C.1.2.2.2.2 gX1_checkIn_X1_comes rfl rfl rfl (by decide +kernel) ⟨Nat.le_of_ble_eq_true rfl, Nat.le_of_ble_eq_true rfl⟩) (ci := 1) rfl 0 rfl rfl rfl (Nat.le_of_ble_eq_true rfl) dX1_checkIn_21 ⟨Nat.le_of_ble_eq_true rfl, Nat.le_of_ble_eq_true rfl⟩ (fun u_21 hp_21 => ?_)
    refine bh_iload_n C dX1_checkIn_24 rfl 0 rfl ?_
    exact bh_zret C hQ dX1_checkIn_25 () (v := (nI (mq_bc M))) (w := wh_modl cI bd (mo_bring (mo_take M x r0) (mq_bc M) 1) (co_take M x r0)) (by rw [show mo_sel (co_take M x r0) (mo_bring (mo_take M x r0) (mq_bc M) 1) M = (mo_bring (mo_take M x r0) (mq_bc M) 1) from if_pos hco]) rfl (Nat.le_of_ble_eq_true rfl) (Nat.le_of_ble_eq_true rfl) (fun _ => rfl)
  · skip
    replace c_6 := bh_eq0 c_6
    refine bh_iconst (v := 0) C dX1_checkIn_9 (by decide) ?_
    exact bh_zret C hQ dX1_checkIn_10 () (v := 0) (w := wh_modl cI bd M (co_take M x r0)) (by rw [show mo_sel (co_take M x r0) (mo_bring (mo_take M x r0) (mq_bc M) 1) M = M from if_neg c_6]) rfl (Nat.le_of_ble_eq_true rfl) (Nat.le_of_ble_eq_true rfl) (fun z => absurd z c_6)
set_option maxRecDepth 100000 in
set_option maxHeartbeats 4000000 in
theorem ct_X1_transfer (l : Launch) (D : va_G) (cI cZ cL : ClassId) (bd : Nat → Nat) {K T : Nat} (M : MT) (thr x r0 : Int32) (hI : MI K T M) (hK4 : K + 4 ≤ 2048) : bh_Mi l D (wh_tys cI cZ cL) yX1_transfer wsX1_transfer ({ frames := 3, cells := 0, slots := 0, locals := 67 } : Room) [.ref (bd 0), .int x, .int r0] (wh_modl cI bd M thr) (fun r (_ : Unit) => co_take M x r0 = 0 → r = nI (mq_bc M)) (fun _ => wh_modl cI bd (mo_sel (co_take M x r0) (mo_route (mo_take M x r0) (mq_bc M)) M) (co_take M x r0)) 0 0 := by
  refine bh_ofi (cc := cX1_transfer) (maxL := 4) (by decide +kernel) rfl (Nat.le_of_ble_eq_true rfl) ?_
  intro p e s m args below meth c A Q _ C hQ
  refine bh_eqlv (lv' := [(0, .ref (bd 0)), (1, .int x), (2, .int r0)]) rfl ?_
  have hfc := MI_fc hI; have hbc := MI_bc hI; have hsc := MI_sc hI; have hnow := MI_now2 hI
  have hsc9 := MI_phi0 hI
  refine bh_aload_n C dX1_transfer_0 rfl 0 rfl ?_
  refine bh_iload_n C dX1_transfer_1 rfl 1 rfl ?_
  refine bh_iload_n C dX1_transfer_2 rfl 2 rfl ?_
  refine bh_calli_0 (As := [.int x, .int r0]) C (ct_X1_canCome l D cI cZ cL bd M thr x r0 hI) (cwV 2 C.1.2.2.2.2 gX1_transfer_X1_canCome rfl rfl rfl (by decide +kernel) ⟨Nat.le_of_ble_eq_true rfl, Nat.le_of_ble_eq_true rfl⟩) (ci := 1) rfl 0 rfl rfl rfl (Nat.le_of_ble_eq_true rfl) dX1_transfer_3 ⟨Nat.le_of_ble_eq_true rfl, Nat.le_of_ble_eq_true rfl⟩ (fun r_3 u_3 hp_3 => ?_)
  subst hp_3
  refine bh_if_ne (tgt := 11) C dX1_transfer_6 (by decide) (fun c_6 => ?_) (fun c_6 => ?_)
  · skip
    replace c_6 := bh_ne0 c_6
    have hco := c_6
    have htk := co_take_0 c_6
    refine bh_aload_n C dX1_transfer_11 rfl 0 rfl ?_
    refine bh_iload_n C dX1_transfer_12 rfl 1 rfl ?_
    refine bh_iload_n C dX1_transfer_13 rfl 2 rfl ?_
    refine bh_calli_0 (As := [.int x, .int r0]) C (ct_X1_added l D cI cZ cL bd M (co_take M x r0) x r0 hI htk.2.2) (cwV 2 C.1.2.2.2.2 gX1_transfer_X1_added rfl rfl rfl (by decide +kernel) ⟨Nat.le_of_ble_eq_true rfl, Nat.le_of_ble_eq_true rfl⟩) (ci := 1) rfl 0 rfl rfl rfl (Nat.le_of_ble_eq_true rfl) dX1_transfer_14 ⟨Nat.le_of_ble_eq_true rfl, Nat.le_of_ble_eq_true rfl⟩ (fun r_14 u_14 hp_14 => ?_)
    subst hp_14
    refine bh_istore_n (lv' := [(3, .int (nI (mq_bc M))), (0, .ref (bd 0)), (1, .int x), (2, .int r0)]) C dX1_transfer_17 rfl (by decide) rfl ?_
    refine bh_aload_n C dX1_transfer_18 rfl 1 rfl ?_
    refine bh_iload_n C dX1_transfer_19 rfl 0 rfl ?_
    refine bh_calli_0 (As := [.int (nI (mq_bc M))]) C (ct_X1_routes l D cI cZ cL bd (mo_take M x r0) (co_take M x r0) (mq_bc M) (MI_take hI (bh_inW htk.1 hfc) htk.2.1 htk.2.2) htk.2.2 (show mq_sc M < 2048 by omega)) (cwV 1 C.1.2.2.2.2 gX1_transfer_X1_routes rfl rfl rfl (by decide +kernel) ⟨Nat.le_of_ble_eq_true rfl, Nat.le_of_ble_eq_true rfl⟩) (ci := 1) rfl 0 rfl rfl rfl (Nat.le_of_ble_eq_true rfl) dX1_transfer_20 ⟨Nat.le_of_ble_eq_true rfl, Nat.le_of_ble_eq_true rfl⟩ (fun r_20 u_20 hp_20 => ?_)
    subst hp_20
    refine bh_pop C dX1_transfer_23 rfl ?_
    refine bh_iload_n C dX1_transfer_24 rfl 0 rfl ?_
    exact bh_zret C hQ dX1_transfer_25 () (v := (nI (mq_bc M))) (w := wh_modl cI bd (mo_route (mo_take M x r0) (mq_bc M)) (co_take M x r0)) (by rw [show mo_sel (co_take M x r0) (mo_route (mo_take M x r0) (mq_bc M)) M = (mo_route (mo_take M x r0) (mq_bc M)) from if_pos hco]) rfl (Nat.le_of_ble_eq_true rfl) (Nat.le_of_ble_eq_true rfl) (fun _ => rfl)
  · skip
    replace c_6 := bh_eq0 c_6
    refine bh_iconst (v := 0) C dX1_transfer_9 (by decide) ?_
    exact bh_zret C hQ dX1_transfer_10 () (v := 0) (w := wh_modl cI bd M (co_take M x r0)) (by rw [show mo_sel (co_take M x r0) (mo_route (mo_take M x r0) (mq_bc M)) M = M from if_neg c_6]) rfl (Nat.le_of_ble_eq_true rfl) (Nat.le_of_ble_eq_true rfl) (fun z => absurd z c_6)
theorem ct_X1_letGo_in : ∀ w ∈ wsX10, w ∈ wsX1_letGo := by decide +kernel
set_option maxRecDepth 100000 in
set_option maxHeartbeats 4000000 in
theorem ct_X1_letGo (l : Launch) (D : va_G) (cI cZ cL : ClassId) (bd : Nat → Nat) {K T : Nat} (M : MT) (thr b : Int32) (hI : MI K T M) (hK4 : K + 4 ≤ 2048) : bh_Mi l D (wh_tys cI cZ cL) yX1_letGo wsX1_letGo ({ frames := 3, cells := 0, slots := 0, locals := 67 } : Room) [.ref (bd 0), .int b] (wh_modl cI bd M thr) (fun r (_ : Unit) => co_place M b 4 = 0 → r = mq_pl (mo_route M b.toNatClampNeg) b.toNatClampNeg) (fun _ => wh_modl cI bd (mo_sel (co_place M b 4) (mo_route M b.toNatClampNeg) M) (co_place M b 4)) 0 0 := by
  refine bh_ofi (cc := cX1_letGo) (maxL := 2) (by decide +kernel) rfl (Nat.le_of_ble_eq_true rfl) ?_
  intro p e s m args below meth c A Q _ C hQ
  refine bh_eqlv (lv' := [(0, .ref (bd 0)), (1, .int b)]) rfl ?_
  have hfc := MI_fc hI; have hbc := MI_bc hI; have hsc := MI_sc hI; have hnow := MI_now2 hI
  have hsc9 := MI_phi0 hI
  refine bh_aload_n C dX1_letGo_0 rfl 0 rfl ?_
  refine bh_iload_n C dX1_letGo_1 rfl 1 rfl ?_
  refine bh_calli_0 (As := [.int b]) C (ct_X1_isBag l D cI cZ cL bd M thr b hI) (cwV 1 C.1.2.2.2.2 gX1_letGo_X1_isBag rfl rfl rfl (by decide +kernel) ⟨Nat.le_of_ble_eq_true rfl, Nat.le_of_ble_eq_true rfl⟩) (ci := 1) rfl 0 rfl rfl rfl (Nat.le_of_ble_eq_true rfl) dX1_letGo_2 ⟨Nat.le_of_ble_eq_true rfl, Nat.le_of_ble_eq_true rfl⟩ (fun r_2 u_2 hp_2 => ?_)
  subst hp_2
  refine bh_if_ne (tgt := 10) C dX1_letGo_5 (by decide) (fun c_5 => ?_) (fun c_5 => ?_)
  · skip
    replace c_5 := bh_ne0 c_5
    have hb9 := mo_in_iff.mp c_5
    obtain ⟨k, hk, rfl⟩ := vp_in_of hb9 (by omega)
    have hk9 : (nI k).toNatClampNeg = k := nI_clamp (by omega)
    refine bh_aload_n C dX1_letGo_10 rfl 0 rfl ?_
    refine bh_get C ct_X1_letGo_in 0 rfl rfl 6 (by decide) (by decide +kernel) rfl (v := .ref (bd 6)) rfl dX1_letGo_11 ?_
    refine bh_iload_n C dX1_letGo_14 rfl 1 rfl ?_
    refine bh_iald C 4 0 (f := (mq_pl M)) rfl rfl (i := (nI k)) (vp_in_nI (n := k) (by omega) (by decide)) (x := ((mq_pl M) k)) (congrArg (mq_pl M) (nI_clamp (n := k) (by omega))) dX1_letGo_15 ?_
    refine bh_iconst (v := 4) C dX1_letGo_16 (by decide) ?_
    refine bh_icmp_ne (tgt := 28) C dX1_letGo_17 (by decide) (fun c_17 => ?_) (fun c_17 => ?_)
    · skip
      refine bh_aload_n C dX1_letGo_28 rfl 0 rfl ?_
      refine bh_iconst (v := 2) C dX1_letGo_29 (by decide) ?_
      refine bh_calli_0 (As := [.int 2]) C (ct_X1_fails l D cI cZ cL bd M (co_in (nI k) (mq_bc M)) 2) (cwV 1 C.1.2.2.2.2 gX1_letGo_X1_fails rfl rfl rfl (by decide +kernel) ⟨Nat.le_of_ble_eq_true rfl, Nat.le_of_ble_eq_true rfl⟩) (ci := 1) rfl 0 rfl rfl rfl (Nat.le_of_ble_eq_true rfl) dX1_letGo_30 ⟨Nat.le_of_ble_eq_true rfl, Nat.le_of_ble_eq_true rfl⟩ (fun r_30 u_30 hp_30 => ?_)
      subst hp_30
      exact bh_zret C hQ dX1_letGo_33 () (v := 0) (w := wh_modl cI bd M 2) (wh_sel1 (d := 2) (show co_place M (nI k) 4 = 2 from co_place2 hb9 (by rw [hk9]; exact c_17)) (by decide)).symm rfl (Nat.le_of_ble_eq_true rfl) (Nat.le_of_ble_eq_true rfl) (fun z => absurd (z.symm.trans (show co_place M (nI k) 4 = 2 from co_place2 hb9 (by rw [hk9]; exact c_17))) (by decide))
    · skip
      refine bh_aload_n C dX1_letGo_20 rfl 0 rfl ?_
      refine bh_iload_n C dX1_letGo_21 rfl 1 rfl ?_
      refine bh_calli_0 (As := [.int (nI k)]) C (ct_X1_routes l D cI cZ cL bd M (co_in (nI k) (mq_bc M)) k hI (by omega) (show mq_sc M < 2048 by omega)) (cwV 1 C.1.2.2.2.2 gX1_letGo_X1_routes rfl rfl rfl (by decide +kernel) ⟨Nat.le_of_ble_eq_true rfl, Nat.le_of_ble_eq_true rfl⟩) (ci := 1) rfl 0 rfl rfl rfl (Nat.le_of_ble_eq_true rfl) dX1_letGo_22 ⟨Nat.le_of_ble_eq_true rfl, Nat.le_of_ble_eq_true rfl⟩ (fun r_22 u_22 hp_22 => ?_)
      subst hp_22
      refine bh_goto (tgt := 33) C dX1_letGo_25 (by decide) ?_
      exact bh_zret C hQ dX1_letGo_33 () (v := (mq_pl (mo_route M k) k)) (w := wh_modl cI bd (mo_route M k) (co_in (nI k) (mq_bc M))) (by rw [hk9]; exact wh_tsel0 (co_in0 hb9) (show co_place M (nI k) 4 = 0 from co_place0 hb9 (by rw [hk9]; exact c_17))) rfl (Nat.le_of_ble_eq_true rfl) (Nat.le_of_ble_eq_true rfl) (fun _ => by rw [hk9])
  · skip
    replace c_5 := bh_eq0 c_5
    have hv := fun q => c_5 (mo_in_t q)
    refine bh_iconst (v := 0) C dX1_letGo_8 (by decide) ?_
    exact bh_zret C hQ dX1_letGo_9 () (v := 0) (w := wh_modl cI bd M (co_in b (mq_bc M))) (wh_tsel1 (d := 1) (show co_in b (mq_bc M) = 1 from co_in1 hv) (show co_place M b 4 = 1 from if_neg (mo_in_f hv)) (by decide)) rfl (Nat.le_of_ble_eq_true rfl) (Nat.le_of_ble_eq_true rfl) (fun z => absurd (z.symm.trans (show co_place M b 4 = 1 from if_neg (mo_in_f hv))) (by decide))
theorem ct_X1_load_in : ∀ w ∈ wsX10, w ∈ wsX1_load := by decide +kernel
set_option maxRecDepth 100000 in
set_option maxHeartbeats 4000000 in
theorem ct_X1_load (l : Launch) (D : va_G) (cI cZ cL : ClassId) (bd : Nat → Nat) {K T : Nat} (M : MT) (thr b : Int32) (hI : MI K T M) (hK4 : K + 4 ≤ 2048) : bh_Mi l D (wh_tys cI cZ cL) yX1_load wsX1_load ({ frames := 2, cells := 0, slots := 0, locals := 43 } : Room) [.ref (bd 0), .int b] (wh_modl cI bd M thr) (fun r (_ : Unit) => co_place M b 7 = 0 → r = nI (mo_ld (mo_bring M b.toNatClampNeg 8) (mq_bf M b.toNatClampNeg))) (fun _ => wh_modl cI bd (mo_sel (co_place M b 7) (mo_bring M b.toNatClampNeg 8) M) (co_place M b 7)) 0 0 := by
  refine bh_ofi (cc := cX1_load) (maxL := 2) (by decide +kernel) rfl (Nat.le_of_ble_eq_true rfl) ?_
  intro p e s m args below meth c A Q _ C hQ
  refine bh_eqlv (lv' := [(0, .ref (bd 0)), (1, .int b)]) rfl ?_
  have hfc := MI_fc hI; have hbc := MI_bc hI; have hsc := MI_sc hI; have hnow := MI_now2 hI
  have hsc9 := MI_phi0 hI
  refine bh_aload_n C dX1_load_0 rfl 0 rfl ?_
  refine bh_iload_n C dX1_load_1 rfl 1 rfl ?_
  refine bh_calli_0 (As := [.int b]) C (ct_X1_isBag l D cI cZ cL bd M thr b hI) (cwV 1 C.1.2.2.2.2 gX1_load_X1_isBag rfl rfl rfl (by decide +kernel) ⟨Nat.le_of_ble_eq_true rfl, Nat.le_of_ble_eq_true rfl⟩) (ci := 1) rfl 0 rfl rfl rfl (Nat.le_of_ble_eq_true rfl) dX1_load_2 ⟨Nat.le_of_ble_eq_true rfl, Nat.le_of_ble_eq_true rfl⟩ (fun r_2 u_2 hp_2 => ?_)
  subst hp_2
  refine bh_if_ne (tgt := 10) C dX1_load_5 (by decide) (fun c_5 => ?_) (fun c_5 => ?_)
  · skip
    replace c_5 := bh_ne0 c_5
    have hb9 := mo_in_iff.mp c_5
    obtain ⟨k, hk, rfl⟩ := vp_in_of hb9 (by omega)
    have hk9 : (nI k).toNatClampNeg = k := nI_clamp (by omega)
    refine bh_aload_n C dX1_load_10 rfl 0 rfl ?_
    refine bh_get C ct_X1_load_in 0 rfl rfl 6 (by decide) (by decide +kernel) rfl (v := .ref (bd 6)) rfl dX1_load_11 ?_
    refine bh_iload_n C dX1_load_14 rfl 1 rfl ?_
    refine bh_iald C 4 0 (f := (mq_pl M)) rfl rfl (i := (nI k)) (vp_in_nI (n := k) (by omega) (by decide)) (x := ((mq_pl M) k)) (congrArg (mq_pl M) (nI_clamp (n := k) (by omega))) dX1_load_15 ?_
    refine bh_bipush (v := 7) C dX1_load_16 (by decide) ?_
    refine bh_icmp_eq (tgt := 27) C dX1_load_18 (by decide) (fun c_18 => ?_) (fun c_18 => ?_)
    · skip
      refine bh_aload_n C dX1_load_27 rfl 0 rfl ?_
      refine bh_iload_n C dX1_load_28 rfl 1 rfl ?_
      refine bh_bipush (v := 8) C dX1_load_29 (by decide) ?_
      refine bh_callv_0 (As := [.int (nI k), .int 8]) C (ct_X1_comes l D cI cZ cL bd M (co_in (nI k) (mq_bc M)) k 8 (by omega) (by omega)) (cwV 2 C.1.2.2.2.2 gX1_load_X1_comes rfl rfl rfl (by decide +kernel) ⟨Nat.le_of_ble_eq_true rfl, Nat.le_of_ble_eq_true rfl⟩) (ci := 1) rfl 0 rfl rfl rfl (Nat.le_of_ble_eq_true rfl) dX1_load_31 ⟨Nat.le_of_ble_eq_true rfl, Nat.le_of_ble_eq_true rfl⟩ (fun u_31 hp_31 => ?_)
      refine bh_aload_n C dX1_load_34 rfl 0 rfl ?_
      refine bh_aload_n C dX1_load_35 rfl 0 rfl ?_
      refine bh_get C ct_X1_load_in 0 rfl rfl 7 (by decide) (by decide +kernel) rfl (v := .ref (bd 7)) rfl dX1_load_36 ?_
      refine bh_iload_n C dX1_load_39 rfl 1 rfl ?_
      refine bh_iald C 5 0 (f := (mq_bf (mo_bring M k 8))) rfl rfl (i := (nI k)) (vp_in_nI (n := k) (by omega) (by decide)) (x := ((mq_bf (mo_bring M k 8)) k)) (congrArg (mq_bf (mo_bring M k 8)) (nI_clamp (n := k) (by omega))) dX1_load_40 ?_
      refine bh_calli_0 (As := [.int ((mq_bf (mo_bring M k 8)) k)]) C (ct_X1_loaded l D cI cZ cL bd (mo_bring M k 8) (co_in (nI k) (mq_bc M)) ((mq_bf (mo_bring M k 8)) k) (MI_bringC hI hk (vp_in_nI (n := 8) (by decide) (by decide)) hK4)) (cwV 1 C.1.2.2.2.2 gX1_load_X1_loaded rfl rfl rfl (by decide +kernel) ⟨Nat.le_of_ble_eq_true rfl, Nat.le_of_ble_eq_true rfl⟩) (ci := 1) rfl 0 rfl rfl rfl (Nat.le_of_ble_eq_true rfl) dX1_load_41 ⟨Nat.le_of_ble_eq_true rfl, Nat.le_of_ble_eq_true rfl⟩ (fun r_41 u_41 hp_41 => ?_)
      subst hp_41
      exact bh_zret C hQ dX1_load_44 () (v := (nI (mo_ld (mo_bring M k 8) ((mq_bf (mo_bring M k 8)) k)))) (w := wh_modl cI bd (mo_bring M k 8) (co_in (nI k) (mq_bc M))) (by rw [hk9]; exact wh_tsel0 (co_in0 hb9) (show co_place M (nI k) 7 = 0 from co_place0 hb9 (by rw [hk9]; exact c_18))) rfl (Nat.le_of_ble_eq_true rfl) (Nat.le_of_ble_eq_true rfl) (fun _ => by rw [hk9]; rfl)
    · skip
      refine bh_aload_n C dX1_load_21 rfl 0 rfl ?_
      refine bh_iconst (v := 2) C dX1_load_22 (by decide) ?_
      refine bh_calli_0 (As := [.int 2]) C (ct_X1_fails l D cI cZ cL bd M (co_in (nI k) (mq_bc M)) 2) (cwV 1 C.1.2.2.2.2 gX1_load_X1_fails rfl rfl rfl (by decide +kernel) ⟨Nat.le_of_ble_eq_true rfl, Nat.le_of_ble_eq_true rfl⟩) (ci := 1) rfl 0 rfl rfl rfl (Nat.le_of_ble_eq_true rfl) dX1_load_23 ⟨Nat.le_of_ble_eq_true rfl, Nat.le_of_ble_eq_true rfl⟩ (fun r_23 u_23 hp_23 => ?_)
      subst hp_23
      exact bh_zret C hQ dX1_load_26 () (v := 0) (w := wh_modl cI bd M 2) (wh_sel1 (d := 2) (show co_place M (nI k) 7 = 2 from co_place2 hb9 (by rw [hk9]; exact c_18)) (by decide)).symm rfl (Nat.le_of_ble_eq_true rfl) (Nat.le_of_ble_eq_true rfl) (fun z => absurd (z.symm.trans (show co_place M (nI k) 7 = 2 from co_place2 hb9 (by rw [hk9]; exact c_18))) (by decide))
  · skip
    replace c_5 := bh_eq0 c_5
    have hv := fun q => c_5 (mo_in_t q)
    refine bh_iconst (v := 0) C dX1_load_8 (by decide) ?_
    exact bh_zret C hQ dX1_load_9 () (v := 0) (w := wh_modl cI bd M (co_in b (mq_bc M))) (wh_tsel1 (d := 1) (show co_in b (mq_bc M) = 1 from co_in1 hv) (show co_place M b 7 = 1 from if_neg (mo_in_f hv)) (by decide)) rfl (Nat.le_of_ble_eq_true rfl) (Nat.le_of_ble_eq_true rfl) (fun z => absurd (z.symm.trans (show co_place M b 7 = 1 from if_neg (mo_in_f hv))) (by decide))
theorem ct_X1_offload_in : ∀ w ∈ wsX10, w ∈ wsX1_offload := by decide +kernel
set_option maxRecDepth 100000 in
set_option maxHeartbeats 4000000 in
theorem ct_X1_offload (l : Launch) (D : va_G) (cI cZ cL : ClassId) (bd : Nat → Nat) {K T : Nat} (M : MT) (thr b : Int32) (hI : MI K T M) (hK4 : K + 4 ≤ 2048) : bh_Mi l D (wh_tys cI cZ cL) yX1_offload wsX1_offload ({ frames := 2, cells := 0, slots := 0, locals := 43 } : Room) [.ref (bd 0), .int b] (wh_modl cI bd M thr) (fun r (_ : Unit) => co_place M b 8 = 0 → r = nI (mo_ld (mo_bring M b.toNatClampNeg 10) (mq_bf M b.toNatClampNeg))) (fun _ => wh_modl cI bd (mo_sel (co_place M b 8) (mo_bring M b.toNatClampNeg 10) M) (co_place M b 8)) 0 0 := by
  refine bh_ofi (cc := cX1_offload) (maxL := 2) (by decide +kernel) rfl (Nat.le_of_ble_eq_true rfl) ?_
  intro p e s m args below meth c A Q _ C hQ
  refine bh_eqlv (lv' := [(0, .ref (bd 0)), (1, .int b)]) rfl ?_
  have hfc := MI_fc hI; have hbc := MI_bc hI; have hsc := MI_sc hI; have hnow := MI_now2 hI
  have hsc9 := MI_phi0 hI
  refine bh_aload_n C dX1_offload_0 rfl 0 rfl ?_
  refine bh_iload_n C dX1_offload_1 rfl 1 rfl ?_
  refine bh_calli_0 (As := [.int b]) C (ct_X1_isBag l D cI cZ cL bd M thr b hI) (cwV 1 C.1.2.2.2.2 gX1_offload_X1_isBag rfl rfl rfl (by decide +kernel) ⟨Nat.le_of_ble_eq_true rfl, Nat.le_of_ble_eq_true rfl⟩) (ci := 1) rfl 0 rfl rfl rfl (Nat.le_of_ble_eq_true rfl) dX1_offload_2 ⟨Nat.le_of_ble_eq_true rfl, Nat.le_of_ble_eq_true rfl⟩ (fun r_2 u_2 hp_2 => ?_)
  subst hp_2
  refine bh_if_ne (tgt := 10) C dX1_offload_5 (by decide) (fun c_5 => ?_) (fun c_5 => ?_)
  · skip
    replace c_5 := bh_ne0 c_5
    have hb9 := mo_in_iff.mp c_5
    obtain ⟨k, hk, rfl⟩ := vp_in_of hb9 (by omega)
    have hk9 : (nI k).toNatClampNeg = k := nI_clamp (by omega)
    refine bh_aload_n C dX1_offload_10 rfl 0 rfl ?_
    refine bh_get C ct_X1_offload_in 0 rfl rfl 6 (by decide) (by decide +kernel) rfl (v := .ref (bd 6)) rfl dX1_offload_11 ?_
    refine bh_iload_n C dX1_offload_14 rfl 1 rfl ?_
    refine bh_iald C 4 0 (f := (mq_pl M)) rfl rfl (i := (nI k)) (vp_in_nI (n := k) (by omega) (by decide)) (x := ((mq_pl M) k)) (congrArg (mq_pl M) (nI_clamp (n := k) (by omega))) dX1_offload_15 ?_
    refine bh_bipush (v := 8) C dX1_offload_16 (by decide) ?_
    refine bh_icmp_eq (tgt := 27) C dX1_offload_18 (by decide) (fun c_18 => ?_) (fun c_18 => ?_)
    · skip
      refine bh_aload_n C dX1_offload_27 rfl 0 rfl ?_
      refine bh_iload_n C dX1_offload_28 rfl 1 rfl ?_
      refine bh_bipush (v := 10) C dX1_offload_29 (by decide) ?_
      refine bh_callv_0 (As := [.int (nI k), .int 10]) C (ct_X1_comes l D cI cZ cL bd M (co_in (nI k) (mq_bc M)) k 10 (by omega) (by omega)) (cwV 2 C.1.2.2.2.2 gX1_offload_X1_comes rfl rfl rfl (by decide +kernel) ⟨Nat.le_of_ble_eq_true rfl, Nat.le_of_ble_eq_true rfl⟩) (ci := 1) rfl 0 rfl rfl rfl (Nat.le_of_ble_eq_true rfl) dX1_offload_31 ⟨Nat.le_of_ble_eq_true rfl, Nat.le_of_ble_eq_true rfl⟩ (fun u_31 hp_31 => ?_)
      refine bh_aload_n C dX1_offload_34 rfl 0 rfl ?_
      refine bh_aload_n C dX1_offload_35 rfl 0 rfl ?_
      refine bh_get C ct_X1_offload_in 0 rfl rfl 7 (by decide) (by decide +kernel) rfl (v := .ref (bd 7)) rfl dX1_offload_36 ?_
      refine bh_iload_n C dX1_offload_39 rfl 1 rfl ?_
      refine bh_iald C 5 0 (f := (mq_bf (mo_bring M k 10))) rfl rfl (i := (nI k)) (vp_in_nI (n := k) (by omega) (by decide)) (x := ((mq_bf (mo_bring M k 10)) k)) (congrArg (mq_bf (mo_bring M k 10)) (nI_clamp (n := k) (by omega))) dX1_offload_40 ?_
      refine bh_calli_0 (As := [.int ((mq_bf (mo_bring M k 10)) k)]) C (ct_X1_loaded l D cI cZ cL bd (mo_bring M k 10) (co_in (nI k) (mq_bc M)) ((mq_bf (mo_bring M k 10)) k) (MI_bringC hI hk (vp_in_nI (n := 10) (by decide) (by decide)) hK4)) (cwV 1 C.1.2.2.2.2 gX1_offload_X1_loaded rfl rfl rfl (by decide +kernel) ⟨Nat.le_of_ble_eq_true rfl, Nat.le_of_ble_eq_true rfl⟩) (ci := 1) rfl 0 rfl rfl rfl (Nat.le_of_ble_eq_true rfl) dX1_offload_41 ⟨Nat.le_of_ble_eq_true rfl, Nat.le_of_ble_eq_true rfl⟩ (fun r_41 u_41 hp_41 => ?_)
      subst hp_41
      exact bh_zret C hQ dX1_offload_44 () (v := (nI (mo_ld (mo_bring M k 10) ((mq_bf (mo_bring M k 10)) k)))) (w := wh_modl cI bd (mo_bring M k 10) (co_in (nI k) (mq_bc M))) (by rw [hk9]; exact wh_tsel0 (co_in0 hb9) (show co_place M (nI k) 8 = 0 from co_place0 hb9 (by rw [hk9]; exact c_18))) rfl (Nat.le_of_ble_eq_true rfl) (Nat.le_of_ble_eq_true rfl) (fun _ => by rw [hk9]; rfl)
    · skip
      refine bh_aload_n C dX1_offload_21 rfl 0 rfl ?_
      refine bh_iconst (v := 2) C dX1_offload_22 (by decide) ?_
      refine bh_calli_0 (As := [.int 2]) C (ct_X1_fails l D cI cZ cL bd M (co_in (nI k) (mq_bc M)) 2) (cwV 1 C.1.2.2.2.2 gX1_offload_X1_fails rfl rfl rfl (by decide +kernel) ⟨Nat.le_of_ble_eq_true rfl, Nat.le_of_ble_eq_true rfl⟩) (ci := 1) rfl 0 rfl rfl rfl (Nat.le_of_ble_eq_true rfl) dX1_offload_23 ⟨Nat.le_of_ble_eq_true rfl, Nat.le_of_ble_eq_true rfl⟩ (fun r_23 u_23 hp_23 => ?_)
      subst hp_23
      exact bh_zret C hQ dX1_offload_26 () (v := 0) (w := wh_modl cI bd M 2) (wh_sel1 (d := 2) (show co_place M (nI k) 8 = 2 from co_place2 hb9 (by rw [hk9]; exact c_18)) (by decide)).symm rfl (Nat.le_of_ble_eq_true rfl) (Nat.le_of_ble_eq_true rfl) (fun z => absurd (z.symm.trans (show co_place M (nI k) 8 = 2 from co_place2 hb9 (by rw [hk9]; exact c_18))) (by decide))
  · skip
    replace c_5 := bh_eq0 c_5
    have hv := fun q => c_5 (mo_in_t q)
    refine bh_iconst (v := 0) C dX1_offload_8 (by decide) ?_
    exact bh_zret C hQ dX1_offload_9 () (v := 0) (w := wh_modl cI bd M (co_in b (mq_bc M))) (wh_tsel1 (d := 1) (show co_in b (mq_bc M) = 1 from co_in1 hv) (show co_place M b 8 = 1 from if_neg (mo_in_f hv)) (by decide)) rfl (Nat.le_of_ble_eq_true rfl) (Nat.le_of_ble_eq_true rfl) (fun z => absurd (z.symm.trans (show co_place M b 8 = 1 from if_neg (mo_in_f hv))) (by decide))
