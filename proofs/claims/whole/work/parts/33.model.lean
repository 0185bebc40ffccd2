theorem ct_X1_sendOn_in : ∀ w ∈ wsX10, w ∈ wsX1_sendOn := by decide +kernel
set_option maxRecDepth 100000 in
set_option maxHeartbeats 4000000 in
theorem ct_X1_sendOn (l : Launch) (D : va_G) (cI cZ cL : ClassId) (bd : Nat → Nat) {K T : Nat} (M : MT) (thr b x : Int32) (hI : MI K T M) (hK4 : K + 4 ≤ 2048) : bh_Mi l D (wh_tys cI cZ cL) yX1_sendOn wsX1_sendOn ({ frames := 3, cells := 0, slots := 0, locals := 67 } : Room) [.ref (bd 0), .int b, .int x] (wh_modl cI bd M thr) (fun r (_ : Unit) => co_send M b x = 0 → r = mq_pl (mo_route (mo_snd M b.toNatClampNeg x) b.toNatClampNeg) b.toNatClampNeg) (fun _ => wh_modl cI bd (mo_sel (co_send M b x) (mo_route (mo_snd M b.toNatClampNeg x) b.toNatClampNeg) M) (co_send M b x)) 0 0 := by
  refine bh_ofi (cc := cX1_sendOn) (maxL := 3) (by decide +kernel) rfl (Nat.le_of_ble_eq_true rfl) ?_
  intro p e s m args below meth c A Q _ C hQ
  refine bh_eqlv (lv' := [(0, .ref (bd 0)), (1, .int b), (2, .int x)]) rfl ?_
  have hfc := MI_fc hI; have hbc := MI_bc hI; have hsc := MI_sc hI; have hnow := MI_now2 hI
  have hsc9 := MI_phi0 hI
  refine bh_aload_n C dX1_sendOn_0 rfl 0 rfl ?_
  refine bh_iload_n C dX1_sendOn_1 rfl 1 rfl ?_
  refine bh_iconst (v := 0) C dX1_sendOn_2 (by decide) ?_
  refine bh_aload_n C dX1_sendOn_3 rfl 0 rfl ?_
  refine bh_get C ct_X1_sendOn_in 0 rfl rfl 5 (by decide) (by decide +kernel) rfl (v := .int (nI (mq_bc M))) rfl dX1_sendOn_4 ?_
  refine bh_iconst (v := 1) C dX1_sendOn_7 (by decide) ?_
  refine bh_isub C dX1_sendOn_8 ?_
  refine bh_calli_N (As := [.int b, .int 0, .int ((nI (mq_bc M)) - 1)]) C (ct_X1_in l D cI cZ cL bd b 0 ((nI (mq_bc M)) - 1)) ⟨callB_of 3 C.1.2.2.2.2 ggX1_sendOn_X1_in rfl rfl rfl (C.1.2.2.2.2 _ (by decide +kernel)) (C.1.2.2.2.2 _ (by decide +kernel)) (by decide +kernel) ⟨Nat.le_of_ble_eq_true rfl, Nat.le_of_ble_eq_true rfl⟩, C.1.2.2.2.2 _ (by decide +kernel)⟩ rfl rfl (Nat.le_of_ble_eq_true rfl) dX1_sendOn_9 ⟨Nat.le_of_ble_eq_true rfl, Nat.le_of_ble_eq_true rfl⟩ (fun r_9 u_9 hp_9 => ?_)
  subst hp_9
  refine bh_if_eq (tgt := 33) C dX1_sendOn_12 (by decide) (fun c_12 => ?_) (fun c_12 => ?_)
  · skip
    replace c_12 := bh_eq0 c_12
    have hv := fun q => c_12 ((bh_inR (by omega)).mpr q)
    have hco : co_send M b x = 1 := if_neg (fun z => hv (mo_in_iff.mp z.1))
    refine bh_iconst (v := 1) C dX1_sendOn_33 (by decide) ?_
    refine bh_eqw (w' := wh_modlX cI bd (mq_now M) (mq_fc M) (mq_bc M) (mq_sc M) (mq_dep M) (mq_lat M) (mq_brd M) (mq_pl M) (mq_bf M) (mq_br M) (mq_pu M) (mq_ls M) (mq_rows M) thr) rfl ?_
    refine bh_put (ty := .int) (v := .int 1) (w' := wh_modlX cI bd (mq_now M) (mq_fc M) (mq_bc M) (mq_sc M) (mq_dep M) (mq_lat M) (mq_brd M) (mq_pl M) (mq_bf M) (mq_br M) (mq_pu M) (mq_ls M) (mq_rows M) 1) C ct_X1_sendOn_in tyX1 tyX1_ok nmX1 0 rfl rfl 13 (by decide) (by decide +kernel) rfl rfl (by decide +kernel) rfl rfl (Nat.le_of_ble_eq_true rfl) dX1_sendOn_34 rfl ?_
    refine bh_aload_n C dX1_sendOn_37 rfl 0 rfl ?_
    refine bh_get C ct_X1_sendOn_in 0 rfl rfl 13 (by decide) (by decide +kernel) rfl (v := .int 1) rfl dX1_sendOn_38 ?_
    refine bh_if_le (tgt := 46) C dX1_sendOn_41 (by decide) (fun c_41 => absurd c_41 (by decide)) (fun c_41 => ?_)
    refine bh_iconst (v := 0) C dX1_sendOn_44 (by decide) ?_
    exact bh_zret C hQ dX1_sendOn_45 () (v := 0) (w := wh_modlX cI bd (mq_now M) (mq_fc M) (mq_bc M) (mq_sc M) (mq_dep M) (mq_lat M) (mq_brd M) (mq_pl M) (mq_bf M) (mq_br M) (mq_pu M) (mq_ls M) (mq_rows M) 1) (wh_sel1 (d := 1) hco (by decide)).symm rfl (Nat.le_of_ble_eq_true rfl) (Nat.le_of_ble_eq_true rfl) (fun z => absurd (z.symm.trans hco) (by decide))
  · skip
    replace c_12 := bh_ne0 c_12
    have hb9 := (bh_inR (by omega)).mp c_12
    obtain ⟨k, hk, rfl⟩ := vp_in_of hb9 (by omega)
    have hk9 : (nI k).toNatClampNeg = k := nI_clamp (by omega)
    refine bh_iload_n C dX1_sendOn_15 rfl 2 rfl ?_
    refine bh_iconst (v := 0) C dX1_sendOn_16 (by decide) ?_
    refine bh_aload_n C dX1_sendOn_17 rfl 0 rfl ?_
    refine bh_get C ct_X1_sendOn_in 0 rfl rfl 1 (by decide) (by decide +kernel) rfl (v := .int (nI (mq_fc M))) rfl dX1_sendOn_18 ?_
    refine bh_iconst (v := 1) C dX1_sendOn_21 (by decide) ?_
    refine bh_isub C dX1_sendOn_22 ?_
    refine bh_calli_N (As := [.int x, .int 0, .int ((nI (mq_fc M)) - 1)]) C (ct_X1_in l D cI cZ cL bd x 0 ((nI (mq_fc M)) - 1)) ⟨callB_of 3 C.1.2.2.2.2 ggX1_sendOn_X1_in rfl rfl rfl (C.1.2.2.2.2 _ (by decide +kernel)) (C.1.2.2.2.2 _ (by decide +kernel)) (by decide +kernel) ⟨Nat.le_of_ble_eq_true rfl, Nat.le_of_ble_eq_true rfl⟩, C.1.2.2.2.2 _ (by decide +kernel)⟩ rfl rfl (Nat.le_of_ble_eq_true rfl) dX1_sendOn_23 ⟨Nat.le_of_ble_eq_true rfl, Nat.le_of_ble_eq_true rfl⟩ (fun r_23 u_23 hp_23 => ?_)
    subst hp_23
    refine bh_if_eq (tgt := 33) C dX1_sendOn_26 (by decide) (fun c_26 => ?_) (fun c_26 => ?_)
    · skip
      replace c_26 := bh_eq0 c_26
      have hv := fun q => c_26 ((bh_inR (by omega)).mpr q)
      have hco : co_send M (nI k) x = 1 := if_neg (fun z => hv (mo_in_iff.mp z.2))
      refine bh_iconst (v := 1) C dX1_sendOn_33 (by decide) ?_
      refine bh_eqw (w' := wh_modlX cI bd (mq_now M) (mq_fc M) (mq_bc M) (mq_sc M) (mq_dep M) (mq_lat M) (mq_brd M) (mq_pl M) (mq_bf M) (mq_br M) (mq_pu M) (mq_ls M) (mq_rows M) thr) rfl ?_
      refine bh_put (ty := .int) (v := .int 1) (w' := wh_modlX cI bd (mq_now M) (mq_fc M) (mq_bc M) (mq_sc M) (mq_dep M) (mq_lat M) (mq_brd M) (mq_pl M) (mq_bf M) (mq_br M) (mq_pu M) (mq_ls M) (mq_rows M) 1) C ct_X1_sendOn_in tyX1 tyX1_ok nmX1 0 rfl rfl 13 (by decide) (by decide +kernel) rfl rfl (by decide +kernel) rfl rfl (Nat.le_of_ble_eq_true rfl) dX1_sendOn_34 rfl ?_
      refine bh_aload_n C dX1_sendOn_37 rfl 0 rfl ?_
      refine bh_get C ct_X1_sendOn_in 0 rfl rfl 13 (by decide) (by decide +kernel) rfl (v := .int 1) rfl dX1_sendOn_38 ?_
      refine bh_if_le (tgt := 46) C dX1_sendOn_41 (by decide) (fun c_41 => absurd c_41 (by decide)) (fun c_41 => ?_)
      refine bh_iconst (v := 0) C dX1_sendOn_44 (by decide) ?_
      exact bh_zret C hQ dX1_sendOn_45 () (v := 0) (w := wh_modlX cI bd (mq_now M) (mq_fc M) (mq_bc M) (mq_sc M) (mq_dep M) (mq_lat M) (mq_brd M) (mq_pl M) (mq_bf M) (mq_br M) (mq_pu M) (mq_ls M) (mq_rows M) 1) (wh_sel1 (d := 1) hco (by decide)).symm rfl (Nat.le_of_ble_eq_true rfl) (Nat.le_of_ble_eq_true rfl) (fun z => absurd (z.symm.trans hco) (by decide))
    · skip
      replace c_26 := bh_ne0 c_26
      have hx9 := (bh_inR (by omega)).mp c_26
      refine bh_iconst (v := 0) C dX1_sendOn_29 (by decide) ?_
      refine bh_goto (tgt := 34) C dX1_sendOn_30 (by decide) ?_
      refine bh_eqw (w' := wh_modlX cI bd (mq_now M) (mq_fc M) (mq_bc M) (mq_sc M) (mq_dep M) (mq_lat M) (mq_brd M) (mq_pl M) (mq_bf M) (mq_br M) (mq_pu M) (mq_ls M) (mq_rows M) thr) rfl ?_
      refine bh_put (ty := .int) (v := .int 0) (w' := wh_modlX cI bd (mq_now M) (mq_fc M) (mq_bc M) (mq_sc M) (mq_dep M) (mq_lat M) (mq_brd M) (mq_pl M) (mq_bf M) (mq_br M) (mq_pu M) (mq_ls M) (mq_rows M) 0) C ct_X1_sendOn_in tyX1 tyX1_ok nmX1 0 rfl rfl 13 (by decide) (by decide +kernel) rfl rfl (by decide +kernel) rfl rfl (Nat.le_of_ble_eq_true rfl) dX1_sendOn_34 rfl ?_
      refine bh_aload_n C dX1_sendOn_37 rfl 0 rfl ?_
      refine bh_get C ct_X1_sendOn_in 0 rfl rfl 13 (by decide) (by decide +kernel) rfl (v := .int 0) rfl dX1_sendOn_38 ?_
      refine bh_if_le (tgt := 46) C dX1_sendOn_41 (by decide) (fun c_41 => ?_) (fun c_41 => absurd c_41 (by decide))
      refine bh_aload_n C dX1_sendOn_46 rfl 0 rfl ?_
      refine bh_get C ct_X1_sendOn_in 0 rfl rfl 6 (by decide) (by decide +kernel) rfl (v := .ref (bd 6)) rfl dX1_sendOn_47 ?_
      refine bh_iload_n C dX1_sendOn_50 rfl 1 rfl ?_
      refine bh_iald C 4 0 (f := (mq_pl M)) rfl rfl (i := (nI k)) (vp_in_nI (n := k) (by omega) (by decide)) (x := ((mq_pl M) k)) (congrArg (mq_pl M) (nI_clamp (n := k) (by omega))) dX1_sendOn_51 ?_
      refine bh_bipush (v := 10) C dX1_sendOn_52 (by decide) ?_
      refine bh_icmp_eq (tgt := 68) C dX1_sendOn_54 (by decide) (fun c_54 => ?_) (fun c_54 => ?_)
      · skip
        refine bh_aload_n C dX1_sendOn_68 rfl 0 rfl ?_
        refine bh_get C ct_X1_sendOn_in 0 rfl rfl 0 (by decide) (by decide +kernel) rfl (v := .int (nI (mq_now M))) rfl dX1_sendOn_69 ?_
        refine bh_aload_n C dX1_sendOn_72 rfl 0 rfl ?_
        refine bh_get C ct_X1_sendOn_in 0 rfl rfl 2 (by decide) (by decide +kernel) rfl (v := .ref (bd 2)) rfl dX1_sendOn_73 ?_
        refine bh_iload_n C dX1_sendOn_76 rfl 2 rfl ?_
        refine bh_iald C 1 0 (f := (mq_dep M)) rfl rfl (i := x) (bh_inW hx9 hfc) (x := ((mq_dep M) x.toNatClampNeg)) rfl dX1_sendOn_77 ?_
        refine bh_icmp_lt (tgt := 87) C dX1_sendOn_78 (by decide) (fun c_78 => ?_) (fun c_78 => ?_)
        · skip
          refine bh_aload_n C dX1_sendOn_87 rfl 0 rfl ?_
          refine bh_get C ct_X1_sendOn_in 0 rfl rfl 7 (by decide) (by decide +kernel) rfl (v := .ref (bd 7)) rfl dX1_sendOn_88 ?_
          refine bh_iload_n C dX1_sendOn_91 rfl 1 rfl ?_
          refine bh_iload_n C dX1_sendOn_92 rfl 2 rfl ?_
          refine bh_iast (w' := wh_modlX cI bd (mq_now M) (mq_fc M) (mq_bc M) (mq_sc M) (mq_dep M) (mq_lat M) (mq_brd M) (mq_pl M) (upd (mq_bf M) (k) x) (mq_br M) (mq_pu M) (mq_ls M) (mq_rows M) 0) C 5 0 rfl rfl (vp_in_nI (n := k) (by omega) (by decide)) dX1_sendOn_93 (by rw [nI_clamp (n := k) (by omega)]; rfl) ?_
          refine bh_aload_n C dX1_sendOn_94 rfl 0 rfl ?_
          refine bh_get C ct_X1_sendOn_in 0 rfl rfl 9 (by decide) (by decide +kernel) rfl (v := .ref (bd 9)) rfl dX1_sendOn_95 ?_
          refine bh_iload_n C dX1_sendOn_98 rfl 1 rfl ?_
          refine bh_iconst (v := 1) C dX1_sendOn_99 (by decide) ?_
          refine bh_iast (w' := wh_modlX cI bd (mq_now M) (mq_fc M) (mq_bc M) (mq_sc M) (mq_dep M) (mq_lat M) (mq_brd M) (mq_pl M) (upd (mq_bf M) (k) x) (mq_br M) (upd (mq_pu M) (k) 1) (mq_ls M) (mq_rows M) 0) C 7 0 rfl rfl (vp_in_nI (n := k) (by omega) (by decide)) dX1_sendOn_100 (by rw [nI_clamp (n := k) (by omega)]; rfl) ?_
          refine bh_aload_n C dX1_sendOn_101 rfl 0 rfl ?_
          refine bh_iload_n C dX1_sendOn_102 rfl 1 rfl ?_
          refine bh_eqw (w' := wh_modl cI bd ((mq_now M), (mq_fc M), (mq_bc M), (mq_sc M), (mq_dep M), (mq_lat M), (mq_brd M), (upd (mq_bf M) (k) x), (mq_br M), (upd (mq_pu M) (k) 1), (mq_pl M), (mq_ls M), (mq_ca M), (mq_at M), (mq_sb M), (mq_sp M), (mq_st M)) 0) rfl ?_
          refine bh_calli_0 (As := [.int (nI k)]) C (ct_X1_routes l D cI cZ cL bd ((mq_now M), (mq_fc M), (mq_bc M), (mq_sc M), (mq_dep M), (mq_lat M), (mq_brd M), (upd (mq_bf M) (k) x), (mq_br M), (upd (mq_pu M) (k) 1), (mq_pl M), (mq_ls M), (mq_ca M), (mq_at M), (mq_sb M), (mq_sp M), (mq_st M)) 0 k (MI_send hI hk (bh_inW hx9 hfc)) (by omega) (show mq_sc M < 2048 by omega)) (cwV 1 C.1.2.2.2.2 gX1_sendOn_X1_routes rfl rfl rfl (by decide +kernel) ⟨Nat.le_of_ble_eq_true rfl, Nat.le_of_ble_eq_true rfl⟩) (ci := 1) rfl 0 rfl rfl rfl (Nat.le_of_ble_eq_true rfl) dX1_sendOn_103 ⟨Nat.le_of_ble_eq_true rfl, Nat.le_of_ble_eq_true rfl⟩ (fun r_103 u_103 hp_103 => ?_)
          subst hp_103
          exact bh_zret C hQ dX1_sendOn_106 () (v := (mq_pl (mo_route ((mq_now M), (mq_fc M), (mq_bc M), (mq_sc M), (mq_dep M), (mq_lat M), (mq_brd M), (upd (mq_bf M) (k) x), (mq_br M), (upd (mq_pu M) (k) 1), (mq_pl M), (mq_ls M), (mq_ca M), (mq_at M), (mq_sb M), (mq_sp M), (mq_st M)) k) k)) (w := wh_modl cI bd (mo_route ((mq_now M), (mq_fc M), (mq_bc M), (mq_sc M), (mq_dep M), (mq_lat M), (mq_brd M), (upd (mq_bf M) (k) x), (mq_br M), (upd (mq_pu M) (k) 1), (mq_pl M), (mq_ls M), (mq_ca M), (mq_at M), (mq_sb M), (mq_sp M), (mq_st M)) k) 0) (by rw [hk9]; exact (wh_sel0 (show co_send M (nI k) x = 0 from co_send0 hb9 hx9 (by rw [hk9]; first | exact Or.inl c_54 | exact Or.inr c_65) c_78)).symm) rfl (Nat.le_of_ble_eq_true rfl) (Nat.le_of_ble_eq_true rfl) (fun _ => by rw [hk9]; rfl)
        · skip
          refine bh_aload_n C dX1_sendOn_81 rfl 0 rfl ?_
          refine bh_iconst (v := 2) C dX1_sendOn_82 (by decide) ?_
          refine bh_eqw (w' := wh_modl cI bd M 0) rfl ?_
          refine bh_calli_0 (As := [.int 2]) C (ct_X1_fails l D cI cZ cL bd M 0 2) (cwV 1 C.1.2.2.2.2 gX1_sendOn_X1_fails rfl rfl rfl (by decide +kernel) ⟨Nat.le_of_ble_eq_true rfl, Nat.le_of_ble_eq_true rfl⟩) (ci := 1) rfl 0 rfl rfl rfl (Nat.le_of_ble_eq_true rfl) dX1_sendOn_83 ⟨Nat.le_of_ble_eq_true rfl, Nat.le_of_ble_eq_true rfl⟩ (fun r_83 u_83 hp_83 => ?_)
          subst hp_83
          exact bh_zret C hQ dX1_sendOn_86 () (v := 0) (w := wh_modl cI bd M 2) (wh_sel1 (d := 2) (show co_send M (nI k) x = 2 from co_send2 hb9 hx9 (by rw [hk9]; first | exact Or.inl (fun z => z.elim c_54 c_65) | exact Or.inr (Int32.not_lt.mp c_78))) (by decide)).symm rfl (Nat.le_of_ble_eq_true rfl) (Nat.le_of_ble_eq_true rfl) (fun z => absurd (z.symm.trans (show co_send M (nI k) x = 2 from co_send2 hb9 hx9 (by rw [hk9]; first | exact Or.inl (fun z => z.elim c_54 c_65) | exact Or.inr (Int32.not_lt.mp c_78)))) (by decide))
      · skip
        refine bh_aload_n C dX1_sendOn_57 rfl 0 rfl ?_
        refine bh_get C ct_X1_sendOn_in 0 rfl rfl 6 (by decide) (by decide +kernel) rfl (v := .ref (bd 6)) rfl dX1_sendOn_58 ?_
        refine bh_iload_n C dX1_sendOn_61 rfl 1 rfl ?_
        refine bh_iald C 4 0 (f := (mq_pl M)) rfl rfl (i := (nI k)) (vp_in_nI (n := k) (by omega) (by decide)) (x := ((mq_pl M) k)) (congrArg (mq_pl M) (nI_clamp (n := k) (by omega))) dX1_sendOn_62 ?_
        refine bh_bipush (v := 11) C dX1_sendOn_63 (by decide) ?_
        refine bh_icmp_ne (tgt := 81) C dX1_sendOn_65 (by decide) (fun c_65 => ?_) (fun c_65 => ?_)
        · skip
          refine bh_aload_n C dX1_sendOn_81 rfl 0 rfl ?_
          refine bh_iconst (v := 2) C dX1_sendOn_82 (by decide) ?_
          refine bh_eqw (w' := wh_modl cI bd M 0) rfl ?_
          refine bh_calli_0 (As := [.int 2]) C (ct_X1_fails l D cI cZ cL bd M 0 2) (cwV 1 C.1.2.2.2.2 gX1_sendOn_X1_fails rfl rfl rfl (by decide +kernel) ⟨Nat.le_of_ble_eq_true rfl, Nat.le_of_ble_eq_true rfl⟩) (ci := 1) rfl 0 rfl rfl rfl (Nat.le_of_ble_eq_true rfl) dX1_sendOn_83 ⟨Nat.le_of_ble_eq_true rfl, Nat.le_of_ble_eq_true rfl⟩ (fun r_83 u_83 hp_83 => ?_)
          subst hp_83
          exact bh_zret C hQ dX1_sendOn_86 () (v := 0) (w := wh_modl cI bd M 2) (wh_sel1 (d := 2) (show co_send M (nI k) x = 2 from co_send2 hb9 hx9 (by rw [hk9]; first | exact Or.inl (fun z => z.elim c_54 c_65) | exact Or.inr (Int32.not_lt.mp c_78))) (by decide)).symm rfl (Nat.le_of_ble_eq_true rfl) (Nat.le_of_ble_eq_true rfl) (fun z => absurd (z.symm.trans (show co_send M (nI k) x = 2 from co_send2 hb9 hx9 (by rw [hk9]; first | exact Or.inl (fun z => z.elim c_54 c_65) | exact Or.inr (Int32.not_lt.mp c_78)))) (by decide))
        · skip
          refine bh_aload_n C dX1_sendOn_68 rfl 0 rfl ?_
          refine bh_get C ct_X1_sendOn_in 0 rfl rfl 0 (by decide) (by decide +kernel) rfl (v := .int (nI (mq_now M))) rfl dX1_sendOn_69 ?_
          refine bh_aload_n C dX1_sendOn_72 rfl 0 rfl ?_
          refine bh_get C ct_X1_sendOn_in 0 rfl rfl 2 (by decide) (by decide +kernel) rfl (v := .ref (bd 2)) rfl dX1_sendOn_73 ?_
          refine bh_iload_n C dX1_sendOn_76 rfl 2 rfl ?_
          refine bh_iald C 1 0 (f := (mq_dep M)) rfl rfl (i := x) (bh_inW hx9 hfc) (x := ((mq_dep M) x.toNatClampNeg)) rfl dX1_sendOn_77 ?_
          refine bh_icmp_lt (tgt := 87) C dX1_sendOn_78 (by decide) (fun c_78 => ?_) (fun c_78 => ?_)
          · skip
            refine bh_aload_n C dX1_sendOn_87 rfl 0 rfl ?_
            refine bh_get C ct_X1_sendOn_in 0 rfl rfl 7 (by decide) (by decide +kernel) rfl (v := .ref (bd 7)) rfl dX1_sendOn_88 ?_
            refine bh_iload_n C dX1_sendOn_91 rfl 1 rfl ?_
            refine bh_iload_n C dX1_sendOn_92 rfl 2 rfl ?_
            refine bh_iast (w' := wh_modlX cI bd (mq_now M) (mq_fc M) (mq_bc M) (mq_sc M) (mq_dep M) (mq_lat M) (mq_brd M) (mq_pl M) (upd (mq_bf M) (k) x) (mq_br M) (mq_pu M) (mq_ls M) (mq_rows M) 0) C 5 0 rfl rfl (vp_in_nI (n := k) (by omega) (by decide)) dX1_sendOn_93 (by rw [nI_clamp (n := k) (by omega)]; rfl) ?_
            refine bh_aload_n C dX1_sendOn_94 rfl 0 rfl ?_
            refine bh_get C ct_X1_sendOn_in 0 rfl rfl 9 (by decide) (by decide +kernel) rfl (v := .ref (bd 9)) rfl dX1_sendOn_95 ?_
            refine bh_iload_n C dX1_sendOn_98 rfl 1 rfl ?_
            refine bh_iconst (v := 1) C dX1_sendOn_99 (by decide) ?_
            refine bh_iast (w' := wh_modlX cI bd (mq_now M) (mq_fc M) (mq_bc M) (mq_sc M) (mq_dep M) (mq_lat M) (mq_brd M) (mq_pl M) (upd (mq_bf M) (k) x) (mq_br M) (upd (mq_pu M) (k) 1) (mq_ls M) (mq_rows M) 0) C 7 0 rfl rfl (vp_in_nI (n := k) (by omega) (by decide)) dX1_sendOn_100 (by rw [nI_clamp (n := k) (by omega)]; rfl) ?_
            refine bh_aload_n C dX1_sendOn_101 rfl 0 rfl ?_
            refine bh_iload_n C dX1_sendOn_102 rfl 1 rfl ?_
            refine bh_eqw (w' := wh_modl cI bd ((mq_now M), (mq_fc M), (mq_bc M), (mq_sc M), (mq_dep M), (mq_lat M), (mq_brd M), (upd (mq_bf M) (k) x), (mq_br M), (upd (mq_pu M) (k) 1), (mq_pl M), (mq_ls M), (mq_ca M), (mq_at M), (mq_sb M), (mq_sp M), (mq_st M)) 0) rfl ?_
            refine bh_calli_0 (As := [.int (nI k)]) C (ct_X1_routes l D cI cZ cL bd ((mq_now M), (mq_fc M), (mq_bc M), (mq_sc M), (mq_dep M), (mq_lat M), (mq_brd M), (upd (mq_bf M) (k) x), (mq_br M), (upd (mq_pu M) (k) 1), (mq_pl M), (mq_ls M), (mq_ca M), (mq_at M), (mq_sb M), (mq_sp M), (mq_st M)) 0 k (MI_send hI hk (bh_inW hx9 hfc)) (by omega) (show mq_sc M < 2048 by omega)) (cwV 1 C.1.2.2.2.2 gX1_sendOn_X1_routes rfl rfl rfl (by decide +kernel) ⟨Nat.le_of_ble_eq_true rfl, Nat.le_of_ble_eq_true rfl⟩) (ci := 1) rfl 0 rfl rfl rfl (Nat.le_of_ble_eq_true rfl) dX1_sendOn_103 ⟨Nat.le_of_ble_eq_true rfl, Nat.le_of_ble_eq_true rfl⟩ (fun r_103 u_103 hp_103 => ?_)
            subst hp_103
            exact bh_zret C hQ dX1_sendOn_106 () (v := (mq_pl (mo_route ((mq_now M), (mq_fc M), (mq_bc M), (mq_sc M), (mq_dep M), (mq_lat M), (mq_brd M), (upd (mq_bf M) (k) x), (mq_br M), (upd (mq_pu M) (k) 1), (mq_pl M), (mq_ls M), (mq_ca M), (mq_at M), (mq_sb M), (mq_sp M), (mq_st M)) k) k)) (w := wh_modl cI bd (mo_route ((mq_now M), (mq_fc M), (mq_bc M), (mq_sc M), (mq_dep M), (mq_lat M), (mq_brd M), (upd (mq_bf M) (k) x), (mq_br M), (upd (mq_pu M) (k) 1), (mq_pl M), (mq_ls M), (mq_ca M), (mq_at M), (mq_sb M), (mq_sp M), (mq_st M)) k) 0) (by rw [hk9]; exact (wh_sel0 (show co_send M (nI k) x = 0 from co_send0 hb9 hx9 (by rw [hk9]; first | exact Or.inl c_54 | exact Or.inr c_65) c_78)).symm) rfl (Nat.le_of_ble_eq_true rfl) (Nat.le_of_ble_eq_true rfl) (fun _ => by rw [hk9]; rfl)
          · skip
            refine bh_aload_n C dX1_sendOn_81 rfl 0 rfl ?_
            refine bh_iconst (v := 2) C dX1_sendOn_82 (by decide) ?_
            refine bh_eqw (w' := wh_modl cI bd M 0) rfl ?_
            refine bh_calli_0 (As := [.int 2]) C (ct_X1_fails l D cI cZ cL bd M 0 2) (cwV 1 C.1.2.2.2.2 gX1_sendOn_X1_fails rfl rfl rfl (by decide +kernel) ⟨Nat.le_of_ble_eq_true rfl, Nat.le_of_ble_eq_true rfl⟩) (ci := 1) rfl 0 rfl rfl rfl (Nat.le_of_ble_eq_true rfl) dX1_sendOn_83 ⟨Nat.le_of_ble_eq_true rfl, Nat.le_of_ble_eq_true rfl⟩ (fun r_83 u_83 hp_83 => ?_)
            subst hp_83
            exact bh_zret C hQ dX1_sendOn_86 () (v := 0) (w := wh_modl cI bd M 2) (wh_sel1 (d := 2) (show co_send M (nI k) x = 2 from co_send2 hb9 hx9 (by rw [hk9]; first | exact Or.inl (fun z => z.elim c_54 c_65) | exact Or.inr (Int32.not_lt.mp c_78))) (by decide)).symm rfl (Nat.le_of_ble_eq_true rfl) (Nat.le_of_ble_eq_true rfl) (fun z => absurd (z.symm.trans (show co_send M (nI k) x = 2 from co_send2 hb9 hx9 (by rw [hk9]; first | exact Or.inl (fun z => z.elim c_54 c_65) | exact Or.inr (Int32.not_lt.mp c_78)))) (by decide))
theorem ct_X1_decide_in : ∀ w ∈ wsX10, w ∈ wsX1_decide := by decide +kernel
set_option maxRecDepth 100000 in
set_option maxHeartbeats 4000000 in
theorem ct_X1_decide (l : Launch) (D : va_G) (cI cZ cL : ClassId) (bd : Nat → Nat) {K T : Nat} (M : MT) (thr b z : Int32) (hI : MI K T M) (hK4 : K + 4 ≤ 2048) : bh_Mi l D (wh_tys cI cZ cL) yX1_decide wsX1_decide ({ frames := 3, cells := 0, slots := 0, locals := 67 } : Room) [.ref (bd 0), .int b, .int z] (wh_modl cI bd M thr) (fun r (_ : Unit) => co_deci M b = 0 → r = mq_pl (mo_dec M b.toNatClampNeg z) b.toNatClampNeg) (fun _ => wh_modl cI bd (mo_sel (co_deci M b) (mo_dec M b.toNatClampNeg z) M) (co_deci M b)) 0 0 := by
  refine bh_ofi (cc := cX1_decide) (maxL := 5) (by decide +kernel) rfl (Nat.le_of_ble_eq_true rfl) ?_
  intro p e s m args below meth c A Q _ C hQ
  refine bh_eqlv (lv' := [(0, .ref (bd 0)), (1, .int b), (2, .int z)]) rfl ?_
  have hfc := MI_fc hI; have hbc := MI_bc hI; have hsc := MI_sc hI; have hnow := MI_now2 hI
  have hsc9 := MI_phi0 hI
  refine bh_aload_n C dX1_decide_0 rfl 0 rfl ?_
  refine bh_iload_n C dX1_decide_1 rfl 1 rfl ?_
  refine bh_calli_0 (As := [.int b]) C (ct_X1_isBag l D cI cZ cL bd M thr b hI) (cwV 1 C.1.2.2.2.2 gX1_decide_X1_isBag rfl rfl rfl (by decide +kernel) ⟨Nat.le_of_ble_eq_true rfl, Nat.le_of_ble_eq_true rfl⟩) (ci := 1) rfl 0 rfl rfl rfl (Nat.le_of_ble_eq_true rfl) dX1_decide_2 ⟨Nat.le_of_ble_eq_true rfl, Nat.le_of_ble_eq_true rfl⟩ (fun r_2 u_2 hp_2 => ?_)
  subst hp_2
  refine bh_if_ne (tgt := 10) C dX1_decide_5 (by decide) (fun c_5 => ?_) (fun c_5 => ?_)
  · skip
    replace c_5 := bh_ne0 c_5
    have hb9 := mo_in_iff.mp c_5
    obtain ⟨k, hk, rfl⟩ := vp_in_of hb9 (by omega)
    have hk9 : (nI k).toNatClampNeg = k := nI_clamp (by omega)
    refine bh_aload_n C dX1_decide_10 rfl 0 rfl ?_
    refine bh_get C ct_X1_decide_in 0 rfl rfl 6 (by decide) (by decide +kernel) rfl (v := .ref (bd 6)) rfl dX1_decide_11 ?_
    refine bh_iload_n C dX1_decide_14 rfl 1 rfl ?_
    refine bh_iald C 4 0 (f := (mq_pl M)) rfl rfl (i := (nI k)) (vp_in_nI (n := k) (by omega) (by decide)) (x := ((mq_pl M) k)) (congrArg (mq_pl M) (nI_clamp (n := k) (by omega))) dX1_decide_15 ?_
    refine bh_istore_n (lv' := [(3, .int ((mq_pl M) k)), (0, .ref (bd 0)), (1, .int (nI k)), (2, .int z)]) C dX1_decide_16 rfl (by decide) rfl ?_
    refine bh_aload_n C dX1_decide_17 rfl 1 rfl ?_
    refine bh_get C ct_X1_decide_in 0 rfl rfl 0 (by decide) (by decide +kernel) rfl (v := .int (nI (mq_now M))) rfl dX1_decide_18 ?_
    refine bh_aload_n C dX1_decide_21 rfl 1 rfl ?_
    refine bh_get C ct_X1_decide_in 0 rfl rfl 12 (by decide) (by decide +kernel) rfl (v := .ref (bd 12)) rfl dX1_decide_22 ?_
    refine bh_aload_n C dX1_decide_25 rfl 1 rfl ?_
    refine bh_get C ct_X1_decide_in 0 rfl rfl 10 (by decide) (by decide +kernel) rfl (v := .ref (bd 10)) rfl dX1_decide_26 ?_
    refine bh_iload_n C dX1_decide_29 rfl 2 rfl ?_
    refine bh_iald C 8 0 (f := (mq_ls M)) rfl rfl (i := (nI k)) (vp_in_nI (n := k) (by omega) (by decide)) (x := ((mq_ls M) k)) (congrArg (mq_ls M) (nI_clamp (n := k) (by omega))) dX1_decide_30 ?_
    refine bh_iald C 9 0 (f := (mq_rows M)) rfl rfl (i := ((mq_ls M) k)) (bh_inW (MI_ls hI _) (by decide)) (x := ((mq_rows M) ((mq_ls M) k).toNatClampNeg)) rfl dX1_decide_31 ?_
    refine bh_sipush (v := 1024) C dX1_decide_32 (by decide) ?_
    refine bh_idiv C dX1_decide_35 (by decide) ?_
    refine bh_topi (rows_st hI _) ?_
    refine bh_isub C dX1_decide_36 ?_
    refine bh_istore (lv' := [(4, .int ((nI (mq_now M)) - (mq_st M ((mq_ls M) k).toNatClampNeg))), (3, .int ((mq_pl M) k)), (0, .ref (bd 0)), (1, .int (nI k)), (2, .int z)]) C dX1_decide_37 (by decide) rfl ?_
    refine bh_iload_n C dX1_decide_39 rfl 1 rfl ?_
    refine bh_iconst (v := 1) C dX1_decide_40 (by decide) ?_
    refine bh_iconst (v := 3) C dX1_decide_41 (by decide) ?_
    refine bh_calli_N (As := [.int ((mq_pl M) k), .int 1, .int 3]) C (ct_X1_in l D cI cZ cL bd ((mq_pl M) k) 1 3) ⟨callB_of 3 C.1.2.2.2.2 ggX1_decide_X1_in rfl rfl rfl (C.1.2.2.2.2 _ (by decide +kernel)) (C.1.2.2.2.2 _ (by decide +kernel)) (by decide +kernel) ⟨Nat.le_of_ble_eq_true rfl, Nat.le_of_ble_eq_true rfl⟩, C.1.2.2.2.2 _ (by decide +kernel)⟩ rfl rfl (Nat.le_of_ble_eq_true rfl) dX1_decide_42 ⟨Nat.le_of_ble_eq_true rfl, Nat.le_of_ble_eq_true rfl⟩ (fun r_42 u_42 hp_42 => ?_)
    subst hp_42
    refine bh_if_eq (tgt := 73) C dX1_decide_45 (by decide) (fun c_45 => ?_) (fun c_45 => ?_)
    · skip
      replace c_45 := bh_eq0 c_45
      refine bh_aload_n C dX1_decide_73 rfl 2 rfl ?_
      refine bh_iconst (v := 2) C dX1_decide_74 (by decide) ?_
      refine bh_calli_0 (As := [.int 2]) C (ct_X1_fails l D cI cZ cL bd M (co_in (nI k) (mq_bc M)) 2) (cwV 1 C.1.2.2.2.2 gX1_decide_X1_fails rfl rfl rfl (by decide +kernel) ⟨Nat.le_of_ble_eq_true rfl, Nat.le_of_ble_eq_true rfl⟩) (ci := 1) rfl 0 rfl rfl rfl (Nat.le_of_ble_eq_true rfl) dX1_decide_75 ⟨Nat.le_of_ble_eq_true rfl, Nat.le_of_ble_eq_true rfl⟩ (fun r_75 u_75 hp_75 => ?_)
      subst hp_75
      exact bh_zret C hQ dX1_decide_78 () (v := 0) (w := wh_modl cI bd M 2) (wh_sel1 (d := 2) (show co_deci M (nI k) = 2 from co_deci2 hb9 (by rw [hk9]; first | exact Or.inl (fun z => c_45 ((bh_pl3 (MI_pl hI _)).mpr z)) | exact Or.inr (dec_lt hI hne (by first | exact if_pos c_52 | exact (if_neg c_52).trans (if_pos c_61) | exact (if_neg c_52).trans (if_neg c_61)) c_70))) (by decide)).symm rfl (Nat.le_of_ble_eq_true rfl) (Nat.le_of_ble_eq_true rfl) (fun z9 => absurd (z9.symm.trans (show co_deci M (nI k) = 2 from co_deci2 hb9 (by rw [hk9]; first | exact Or.inl (fun z => c_45 ((bh_pl3 (MI_pl hI _)).mpr z)) | exact Or.inr (dec_lt hI hne (by first | exact if_pos c_52 | exact (if_neg c_52).trans (if_pos c_61) | exact (if_neg c_52).trans (if_neg c_61)) c_70)))) (by decide))
    · skip
      replace c_45 := bh_ne0 c_45
      have h3 := (bh_pl3 (MI_pl hI _)).mp c_45
      have hne := bh_pne h3
      refine bh_iload C dX1_decide_48 0 rfl ?_
      refine bh_iload_n C dX1_decide_50 rfl 1 rfl ?_
      refine bh_iconst (v := 1) C dX1_decide_51 (by decide) ?_
      refine bh_icmp_ne (tgt := 59) C dX1_decide_52 (by decide) (fun c_52 => ?_) (fun c_52 => ?_)
      · skip
        refine bh_iload_n C dX1_decide_59 rfl 1 rfl ?_
        refine bh_iconst (v := 2) C dX1_decide_60 (by decide) ?_
        refine bh_icmp_ne (tgt := 68) C dX1_decide_61 (by decide) (fun c_61 => ?_) (fun c_61 => ?_)
        · skip
          refine bh_bipush (v := 10) C dX1_decide_68 (by decide) ?_
          refine bh_icmp_ge (tgt := 79) C dX1_decide_70 (by decide) (fun c_70 => ?_) (fun c_70 => ?_)
          · skip
            refine bh_iload_n C dX1_decide_79 rfl 4 rfl ?_
            refine bh_if_ne (tgt := 95) C dX1_decide_80 (by decide) (fun c_80 => ?_) (fun c_80 => ?_)
            · skip
              refine bh_aload_n C dX1_decide_95 rfl 2 rfl ?_
              refine bh_iload_n C dX1_decide_96 rfl 3 rfl ?_
              refine bh_calli_0 (As := [.int (nI k)]) C (ct_X1_routes l D cI cZ cL bd M (co_in (nI k) (mq_bc M)) k hI (by omega) (show mq_sc M < 2048 by omega)) (cwV 1 C.1.2.2.2.2 gX1_decide_X1_routes rfl rfl rfl (by decide +kernel) ⟨Nat.le_of_ble_eq_true rfl, Nat.le_of_ble_eq_true rfl⟩) (ci := 1) rfl 0 rfl rfl rfl (Nat.le_of_ble_eq_true rfl) dX1_decide_97 ⟨Nat.le_of_ble_eq_true rfl, Nat.le_of_ble_eq_true rfl⟩ (fun r_97 u_97 hp_97 => ?_)
              subst hp_97
              exact bh_zret C hQ dX1_decide_100 () (v := (mq_pl (mo_route M k) k)) (w := wh_modl cI bd (mo_route M k) (co_in (nI k) (mq_bc M))) (by rw [hk9]; exact (congrArg (fun N => wh_modl cI bd N (co_in (nI k) (mq_bc M))) (show mo_dec M k z = mo_route M k from if_neg c_80).symm).trans (wh_tsel0 (co_in0 hb9) (show co_deci M (nI k) = 0 from co_deci0 hb9 (by rw [hk9]; exact h3) (by rw [hk9]; exact dec_ge hI hne (by first | exact if_pos c_52 | exact (if_neg c_52).trans (if_pos c_61) | exact (if_neg c_52).trans (if_neg c_61)) c_70)))) rfl (Nat.le_of_ble_eq_true rfl) (Nat.le_of_ble_eq_true rfl) (fun _ => by rw [hk9]; exact congrArg (fun N => mq_pl N k) (show mo_dec M k z = mo_route M k from if_neg c_80).symm)
            · skip
              refine bh_aload_n C dX1_decide_83 rfl 2 rfl ?_
              refine bh_iload_n C dX1_decide_84 rfl 3 rfl ?_
              refine bh_iload_n C dX1_decide_85 rfl 1 rfl ?_
              refine bh_iconst (v := 1) C dX1_decide_86 (by decide) ?_
              refine bh_iadd C dX1_decide_87 ?_
              refine bh_callv_0 (As := [.int (nI k), .int (((mq_pl M) k) + 1)]) C (ct_X1_comes l D cI cZ cL bd M (co_in (nI k) (mq_bc M)) k (((mq_pl M) k) + 1) (by omega) (by omega)) (cwV 2 C.1.2.2.2.2 gX1_decide_X1_comes rfl rfl rfl (by decide +kernel) ⟨Nat.le_of_ble_eq_true rfl, Nat.le_of_ble_eq_true rfl⟩) (ci := 1) rfl 0 rfl rfl rfl (Nat.le_of_ble_eq_true rfl) dX1_decide_88 ⟨Nat.le_of_ble_eq_true rfl, Nat.le_of_ble_eq_true rfl⟩ (fun u_88 hp_88 => ?_)
              refine bh_iload_n C dX1_decide_91 rfl 1 rfl ?_
              refine bh_iconst (v := 1) C dX1_decide_92 (by decide) ?_
              refine bh_iadd C dX1_decide_93 ?_
              exact bh_zret C hQ dX1_decide_94 () (v := (((mq_pl M) k) + 1)) (w := wh_modl cI bd (mo_bring M k (((mq_pl M) k) + 1)) (co_in (nI k) (mq_bc M))) (by rw [hk9]; exact (congrArg (fun N => wh_modl cI bd N (co_in (nI k) (mq_bc M))) (dec_b c_80 h3).symm).trans (wh_tsel0 (co_in0 hb9) (show co_deci M (nI k) = 0 from co_deci0 hb9 (by rw [hk9]; exact h3) (by rw [hk9]; exact dec_ge hI hne (by first | exact if_pos c_52 | exact (if_neg c_52).trans (if_pos c_61) | exact (if_neg c_52).trans (if_neg c_61)) c_70)))) rfl (Nat.le_of_ble_eq_true rfl) (Nat.le_of_ble_eq_true rfl) (fun _ => by rw [hk9, dec_b c_80 h3]; exact (bh_upd_same _ _ _).symm)
          · skip
            refine bh_aload_n C dX1_decide_73 rfl 2 rfl ?_
            refine bh_iconst (v := 2) C dX1_decide_74 (by decide) ?_
            refine bh_calli_0 (As := [.int 2]) C (ct_X1_fails l D cI cZ cL bd M (co_in (nI k) (mq_bc M)) 2) (cwV 1 C.1.2.2.2.2 gX1_decide_X1_fails rfl rfl rfl (by decide +kernel) ⟨Nat.le_of_ble_eq_true rfl, Nat.le_of_ble_eq_true rfl⟩) (ci := 1) rfl 0 rfl rfl rfl (Nat.le_of_ble_eq_true rfl) dX1_decide_75 ⟨Nat.le_of_ble_eq_true rfl, Nat.le_of_ble_eq_true rfl⟩ (fun r_75 u_75 hp_75 => ?_)
            subst hp_75
            exact bh_zret C hQ dX1_decide_78 () (v := 0) (w := wh_modl cI bd M 2) (wh_sel1 (d := 2) (show co_deci M (nI k) = 2 from co_deci2 hb9 (by rw [hk9]; first | exact Or.inl (fun z => c_45 ((bh_pl3 (MI_pl hI _)).mpr z)) | exact Or.inr (dec_lt hI hne (by first | exact if_pos c_52 | exact (if_neg c_52).trans (if_pos c_61) | exact (if_neg c_52).trans (if_neg c_61)) c_70))) (by decide)).symm rfl (Nat.le_of_ble_eq_true rfl) (Nat.le_of_ble_eq_true rfl) (fun z9 => absurd (z9.symm.trans (show co_deci M (nI k) = 2 from co_deci2 hb9 (by rw [hk9]; first | exact Or.inl (fun z => c_45 ((bh_pl3 (MI_pl hI _)).mpr z)) | exact Or.inr (dec_lt hI hne (by first | exact if_pos c_52 | exact (if_neg c_52).trans (if_pos c_61) | exact (if_neg c_52).trans (if_neg c_61)) c_70)))) (by decide))
        · skip
          refine bh_iconst (v := 4) C dX1_decide_64 (by decide) ?_
          refine bh_goto (tgt := 70) C dX1_decide_65 (by decide) ?_
          refine bh_icmp_ge (tgt := 79) C dX1_decide_70 (by decide) (fun c_70 => ?_) (fun c_70 => ?_)
          · skip
            refine bh_iload_n C dX1_decide_79 rfl 4 rfl ?_
            refine bh_if_ne (tgt := 95) C dX1_decide_80 (by decide) (fun c_80 => ?_) (fun c_80 => ?_)
            · skip
              refine bh_aload_n C dX1_decide_95 rfl 2 rfl ?_
              refine bh_iload_n C dX1_decide_96 rfl 3 rfl ?_
              refine bh_calli_0 (As := [.int (nI k)]) C (ct_X1_routes l D cI cZ cL bd M (co_in (nI k) (mq_bc M)) k hI (by omega) (show mq_sc M < 2048 by omega)) (cwV 1 C.1.2.2.2.2 gX1_decide_X1_routes rfl rfl rfl (by decide +kernel) ⟨Nat.le_of_ble_eq_true rfl, Nat.le_of_ble_eq_true rfl⟩) (ci := 1) rfl 0 rfl rfl rfl (Nat.le_of_ble_eq_true rfl) dX1_decide_97 ⟨Nat.le_of_ble_eq_true rfl, Nat.le_of_ble_eq_true rfl⟩ (fun r_97 u_97 hp_97 => ?_)
              subst hp_97
              exact bh_zret C hQ dX1_decide_100 () (v := (mq_pl (mo_route M k) k)) (w := wh_modl cI bd (mo_route M k) (co_in (nI k) (mq_bc M))) (by rw [hk9]; exact (congrArg (fun N => wh_modl cI bd N (co_in (nI k) (mq_bc M))) (show mo_dec M k z = mo_route M k from if_neg c_80).symm).trans (wh_tsel0 (co_in0 hb9) (show co_deci M (nI k) = 0 from co_deci0 hb9 (by rw [hk9]; exact h3) (by rw [hk9]; exact dec_ge hI hne (by first | exact if_pos c_52 | exact (if_neg c_52).trans (if_pos c_61) | exact (if_neg c_52).trans (if_neg c_61)) c_70)))) rfl (Nat.le_of_ble_eq_true rfl) (Nat.le_of_ble_eq_true rfl) (fun _ => by rw [hk9]; exact congrArg (fun N => mq_pl N k) (show mo_dec M k z = mo_route M k from if_neg c_80).symm)
            · skip
              refine bh_aload_n C dX1_decide_83 rfl 2 rfl ?_
              refine bh_iload_n C dX1_decide_84 rfl 3 rfl ?_
              refine bh_iload_n C dX1_decide_85 rfl 1 rfl ?_
              refine bh_iconst (v := 1) C dX1_decide_86 (by decide) ?_
              refine bh_iadd C dX1_decide_87 ?_
              refine bh_callv_0 (As := [.int (nI k), .int (((mq_pl M) k) + 1)]) C (ct_X1_comes l D cI cZ cL bd M (co_in (nI k) (mq_bc M)) k (((mq_pl M) k) + 1) (by omega) (by omega)) (cwV 2 C.1.2.2.2.2 gX1_decide_X1_comes rfl rfl rfl (by decide +kernel) ⟨Nat.le_of_ble_eq_true rfl, Nat.le_of_ble_eq_true rfl⟩) (ci := 1) rfl 0 rfl rfl rfl (Nat.le_of_ble_eq_true rfl) dX1_decide_88 ⟨Nat.le_of_ble_eq_true rfl, Nat.le_of_ble_eq_true rfl⟩ (fun u_88 hp_88 => ?_)
              refine bh_iload_n C dX1_decide_91 rfl 1 rfl ?_
              refine bh_iconst (v := 1) C dX1_decide_92 (by decide) ?_
              refine bh_iadd C dX1_decide_93 ?_
              exact bh_zret C hQ dX1_decide_94 () (v := (((mq_pl M) k) + 1)) (w := wh_modl cI bd (mo_bring M k (((mq_pl M) k) + 1)) (co_in (nI k) (mq_bc M))) (by rw [hk9]; exact (congrArg (fun N => wh_modl cI bd N (co_in (nI k) (mq_bc M))) (dec_b c_80 h3).symm).trans (wh_tsel0 (co_in0 hb9) (show co_deci M (nI k) = 0 from co_deci0 hb9 (by rw [hk9]; exact h3) (by rw [hk9]; exact dec_ge hI hne (by first | exact if_pos c_52 | exact (if_neg c_52).trans (if_pos c_61) | exact (if_neg c_52).trans (if_neg c_61)) c_70)))) rfl (Nat.le_of_ble_eq_true rfl) (Nat.le_of_ble_eq_true rfl) (fun _ => by rw [hk9, dec_b c_80 h3]; exact (bh_upd_same _ _ _).symm)
          · skip
            refine bh_aload_n C dX1_decide_73 rfl 2 rfl ?_
            refine bh_iconst (v := 2) C dX1_decide_74 (by decide) ?_
            refine bh_calli_0 (As := [.int 2]) C (ct_X1_fails l D cI cZ cL bd M (co_in (nI k) (mq_bc M)) 2) (cwV 1 C.1.2.2.2.2 gX1_decide_X1_fails rfl rfl rfl (by decide +kernel) ⟨Nat.le_of_ble_eq_true rfl, Nat.le_of_ble_eq_true rfl⟩) (ci := 1) rfl 0 rfl rfl rfl (Nat.le_of_ble_eq_true rfl) dX1_decide_75 ⟨Nat.le_of_ble_eq_true rfl, Nat.le_of_ble_eq_true rfl⟩ (fun r_75 u_75 hp_75 => ?_)
            subst hp_75
            exact bh_zret C hQ dX1_decide_78 () (v := 0) (w := wh_modl cI bd M 2) (wh_sel1 (d := 2) (show co_deci M (nI k) = 2 from co_deci2 hb9 (by rw [hk9]; first | exact Or.inl (fun z => c_45 ((bh_pl3 (MI_pl hI _)).mpr z)) | exact Or.inr (dec_lt hI hne (by first | exact if_pos c_52 | exact (if_neg c_52).trans (if_pos c_61) | exact (if_neg c_52).trans (if_neg c_61)) c_70))) (by decide)).symm rfl (Nat.le_of_ble_eq_true rfl) (Nat.le_of_ble_eq_true rfl) (fun z9 => absurd (z9.symm.trans (show co_deci M (nI k) = 2 from co_deci2 hb9 (by rw [hk9]; first | exact Or.inl (fun z => c_45 ((bh_pl3 (MI_pl hI _)).mpr z)) | exact Or.inr (dec_lt hI hne (by first | exact if_pos c_52 | exact (if_neg c_52).trans (if_pos c_61) | exact (if_neg c_52).trans (if_neg c_61)) c_70)))) (by decide))
      · skip
        refine bh_iconst (v := 2) C dX1_decide_55 (by decide) ?_
        refine bh_goto (tgt := 70) C dX1_decide_56 (by decide) ?_
        refine bh_icmp_ge (tgt := 79) C dX1_decide_70 (by decide) (fun c_70 => ?_) (fun c_70 => ?_)
        · skip
          refine bh_iload_n C dX1_decide_79 rfl 4 rfl ?_
          refine bh_if_ne (tgt := 95) C dX1_decide_80 (by decide) (fun c_80 => ?_) (fun c_80 => ?_)
          · skip
            refine bh_aload_n C dX1_decide_95 rfl 2 rfl ?_
            refine bh_iload_n C dX1_decide_96 rfl 3 rfl ?_
            refine bh_calli_0 (As := [.int (nI k)]) C (ct_X1_routes l D cI cZ cL bd M (co_in (nI k) (mq_bc M)) k hI (by omega) (show mq_sc M < 2048 by omega)) (cwV 1 C.1.2.2.2.2 gX1_decide_X1_routes rfl rfl rfl (by decide +kernel) ⟨Nat.le_of_ble_eq_true rfl, Nat.le_of_ble_eq_true rfl⟩) (ci := 1) rfl 0 rfl rfl rfl (Nat.le_of_ble_eq_true rfl) dX1_decide_97 ⟨Nat.le_of_ble_eq_true rfl, Nat.le_of_ble_eq_true rfl⟩ (fun r_97 u_97 hp_97 => ?_)
            subst hp_97
            exact bh_zret C hQ dX1_decide_100 () (v := (mq_pl (mo_route M k) k)) (w := wh_modl cI bd (mo_route M k) (co_in (nI k) (mq_bc M))) (by rw [hk9]; exact (congrArg (fun N => wh_modl cI bd N (co_in (nI k) (mq_bc M))) (show mo_dec M k z = mo_route M k from if_neg c_80).symm).trans (wh_tsel0 (co_in0 hb9) (show co_deci M (nI k) = 0 from co_deci0 hb9 (by rw [hk9]; exact h3) (by rw [hk9]; exact dec_ge hI hne (by first | exact if_pos c_52 | exact (if_neg c_52).trans (if_pos c_61) | exact (if_neg c_52).trans (if_neg c_61)) c_70)))) rfl (Nat.le_of_ble_eq_true rfl) (Nat.le_of_ble_eq_true rfl) (fun _ => by rw [hk9]; exact congrArg (fun N => mq_pl N k) (show mo_dec M k z = mo_route M k from if_neg c_80).symm)
          · skip
            refine bh_aload_n C dX1_decide_83 rfl 2 rfl ?_
            refine bh_iload_n C dX1_decide_84 rfl 3 rfl ?_
            refine bh_iload_n C dX1_decide_85 rfl 1 rfl ?_
            refine bh_iconst (v := 1) C dX1_decide_86 (by decide) ?_
            refine bh_iadd C dX1_decide_87 ?_
            refine bh_callv_0 (As := [.int (nI k), .int (((mq_pl M) k) + 1)]) C (ct_X1_comes l D cI cZ cL bd M (co_in (nI k) (mq_bc M)) k (((mq_pl M) k) + 1) (by omega) (by omega)) (cwV 2 C.1.2.2.2.2 gX1_decide_X1_comes rfl rfl rfl (by decide +kernel) ⟨Nat.le_of_ble_eq_true rfl, Nat.le_of_ble_eq_true rfl⟩) (ci := 1) rfl 0 rfl rfl rfl (Nat.le_of_ble_eq_true rfl) dX1_decide_88 ⟨Nat.le_of_ble_eq_true rfl, Nat.le_of_ble_eq_true rfl⟩ (fun u_88 hp_88 => ?_)
            refine bh_iload_n C dX1_decide_91 rfl 1 rfl ?_
            refine bh_iconst (v := 1) C dX1_decide_92 (by decide) ?_
            refine bh_iadd C dX1_decide_93 ?_
            exact bh_zret C hQ dX1_decide_94 () (v := (((mq_pl M) k) + 1)) (w := wh_modl cI bd (mo_bring M k (((mq_pl M) k) + 1)) (co_in (nI k) (mq_bc M))) (by rw [hk9]; exact (congrArg (fun N => wh_modl cI bd N (co_in (nI k) (mq_bc M))) (dec_b c_80 h3).symm).trans (wh_tsel0 (co_in0 hb9) (show co_deci M (nI k) = 0 from co_deci0 hb9 (by rw [hk9]; exact h3) (by rw [hk9]; exact dec_ge hI hne (by first | exact if_pos c_52 | exact (if_neg c_52).trans (if_pos c_61) | exact (if_neg c_52).trans (if_neg c_61)) c_70)))) rfl (Nat.le_of_ble_eq_true rfl) (Nat.le_of_ble_eq_true rfl) (fun _ => by rw [hk9, dec_b c_80 h3]; exact (bh_upd_same _ _ _).symm)
        · skip
          refine bh_aload_n C dX1_decide_73 rfl 2 rfl ?_
          refine bh_iconst (v := 2) C dX1_decide_74 (by decide) ?_
          refine bh_calli_0 (As := [.int 2]) C (ct_X1_fails l D cI cZ cL bd M (co_in (nI k) (mq_bc M)) 2) (cwV 1 C.1.2.2.2.2 gX1_decide_X1_fails rfl rfl rfl (by decide +kernel) ⟨Nat.le_of_ble_eq_true rfl, Nat.le_of_ble_eq_true rfl⟩) (ci := 1) rfl 0 rfl rfl rfl (Nat.le_of_ble_eq_true rfl) dX1_decide_75 ⟨Nat.le_of_ble_eq_true rfl, Nat.le_of_ble_eq_true rfl⟩ (fun r_75 u_75 hp_75 => ?_)
          subst hp_75
          exact bh_zret C hQ dX1_decide_78 () (v := 0) (w := wh_modl cI bd M 2) (wh_sel1 (d := 2) (show co_deci M (nI k) = 2 from co_deci2 hb9 (by rw [hk9]; first | exact Or.inl (fun z => c_45 ((bh_pl3 (MI_pl hI _)).mpr z)) | exact Or.inr (dec_lt hI hne (by first | exact if_pos c_52 | exact (if_neg c_52).trans (if_pos c_61) | exact (if_neg c_52).trans (if_neg c_61)) c_70))) (by decide)).symm rfl (Nat.le_of_ble_eq_true rfl) (Nat.le_of_ble_eq_true rfl) (fun z9 => absurd (z9.symm.trans (show co_deci M (nI k) = 2 from co_deci2 hb9 (by rw [hk9]; first | exact Or.inl (fun z => c_45 ((bh_pl3 (MI_pl hI _)).mpr z)) | exact Or.inr (dec_lt hI hne (by first | exact if_pos c_52 | exact (if_neg c_52).trans (if_pos c_61) | exact (if_neg c_52).trans (if_neg c_61)) c_70)))) (by decide))
  · skip
    replace c_5 := bh_eq0 c_5
    have hv := fun q => c_5 (mo_in_t q)
    refine bh_iconst (v := 0) C dX1_decide_8 (by decide) ?_
    exact bh_zret C hQ dX1_decide_9 () (v := 0) (w := wh_modl cI bd M (co_in b (mq_bc M))) (wh_tsel1 (d := 1) (show co_in b (mq_bc M) = 1 from co_in1 hv) (show co_deci M b = 1 from if_neg (mo_in_f hv)) (by decide)) rfl (Nat.le_of_ble_eq_true rfl) (Nat.le_of_ble_eq_true rfl) (fun z => absurd (z.symm.trans (show co_deci M b = 1 from if_neg (mo_in_f hv))) (by decide))
theorem ct_X1_placeByScans_in : ∀ w ∈ wsX10, w ∈ wsX1_placeByScans := by decide +kernel
set_option maxRecDepth 100000 in
set_option maxHeartbeats 4000000 in
theorem ct_X1_placeByScans (l : Launch) (D : va_G) (cI cZ cL : ClassId) (bd : Nat → Nat) {K T : Nat} (M : MT) (thr b t : Int32) (hI : MI K T M) : bh_Mi l D (wh_tys cI cZ cL) yX1_placeByScans wsX1_placeByScans ({ frames := 2, cells := 0, slots := 0, locals := 43 } : Room) [.ref (bd 0), .int b, .int t] (wh_modl cI bd M thr) (fun r (_ : Unit) => co_pbs M b t = 0 → r = mo_pbs M b t (mq_sc M)) (fun _ => wh_modl cI bd M (co_pbs M b t)) 0 0 := by
  refine bh_ofi (cc := cX1_placeByScans) (maxL := 5) (by decide +kernel) rfl (Nat.le_of_ble_eq_true rfl) ?_
  intro p e s m args below meth c A Q _ C hQ
  refine bh_eqlv (lv' := [(0, .ref (bd 0)), (1, .int b), (2, .int t)]) rfl ?_
  have hfc := MI_fc hI; have hbc := MI_bc hI; have hsc := MI_sc hI; have hnow := MI_now2 hI
  refine bh_aload_n C dX1_placeByScans_0 rfl 0 rfl ?_
  refine bh_iload_n C dX1_placeByScans_1 rfl 1 rfl ?_
  refine bh_calli_0 (As := [.int b]) C (ct_X1_isBag l D cI cZ cL bd M thr b hI) (cwV 1 C.1.2.2.2.2 gX1_placeByScans_X1_isBag rfl rfl rfl (by decide +kernel) ⟨Nat.le_of_ble_eq_true rfl, Nat.le_of_ble_eq_true rfl⟩) (ci := 1) rfl 0 rfl rfl rfl (Nat.le_of_ble_eq_true rfl) dX1_placeByScans_2 ⟨Nat.le_of_ble_eq_true rfl, Nat.le_of_ble_eq_true rfl⟩ (fun r_2 u_2 hp_2 => ?_)
  subst hp_2
  refine bh_if_ne (tgt := 10) C dX1_placeByScans_5 (by decide) (fun c_5 => ?_) (fun c_5 => ?_)
  · skip
    replace c_5 := bh_ne0 c_5
    have hb9 := mo_in_iff.mp c_5
    obtain ⟨k, hk, rfl⟩ := vp_in_of hb9 (by omega)
    have hk9 : (nI k).toNatClampNeg = k := nI_clamp (by omega)
    refine bh_iload_n C dX1_placeByScans_10 rfl 2 rfl ?_
    refine bh_iconst (v := 0) C dX1_placeByScans_11 (by decide) ?_
    refine bh_aload_n C dX1_placeByScans_12 rfl 0 rfl ?_
    refine bh_get C ct_X1_placeByScans_in 0 rfl rfl 0 (by decide) (by decide +kernel) rfl (v := .int (nI (mq_now M))) rfl dX1_placeByScans_13 ?_
    refine bh_calli_N (As := [.int t, .int 0, .int (nI (mq_now M))]) C (ct_X1_in l D cI cZ cL bd t 0 (nI (mq_now M))) ⟨callB_of 3 C.1.2.2.2.2 ggX1_placeByScans_X1_in rfl rfl rfl (C.1.2.2.2.2 _ (by decide +kernel)) (C.1.2.2.2.2 _ (by decide +kernel)) (by decide +kernel) ⟨Nat.le_of_ble_eq_true rfl, Nat.le_of_ble_eq_true rfl⟩, C.1.2.2.2.2 _ (by decide +kernel)⟩ rfl rfl (Nat.le_of_ble_eq_true rfl) dX1_placeByScans_16 ⟨Nat.le_of_ble_eq_true rfl, Nat.le_of_ble_eq_true rfl⟩ (fun r_16 u_16 hp_16 => ?_)
    subst hp_16
    refine bh_if_ne (tgt := 28) C dX1_placeByScans_19 (by decide) (fun c_19 => ?_) (fun c_19 => ?_)
    · skip
      replace c_19 := bh_ne0 c_19
      refine bh_iconst (v := (-1)) C dX1_placeByScans_28 (by decide) ?_
      refine bh_istore_n (lv' := [(3, .int (-1)), (0, .ref (bd 0)), (1, .int (nI k)), (2, .int t)]) C dX1_placeByScans_29 rfl (by decide) rfl ?_
      refine bh_iconst (v := 0) C dX1_placeByScans_30 (by decide) ?_
      refine bh_istore (lv' := [(4, .int 0), (3, .int (-1)), (0, .ref (bd 0)), (1, .int (nI k)), (2, .int t)]) C dX1_placeByScans_31 (by decide) rfl ?_
      have loop : ∀ (n j : Nat), mq_sc M + 1 ≤ j + n → j ≤ mq_sc M → bh_W p l e ({ frames := 2, cells := 0, slots := 0, locals := 43 } : Room) s m args below meth c 5 D A 0 0 Q (wh_modl cI bd M (co_in (nI k) (mq_bc M))) ([(4, .int (nI j)), (3, .int (mo_pbs M (nI k) t j)), (0, .ref (bd 0)), (1, .int (nI k)), (2, .int t)]) 33 [] := by
        intro n
        induction n with
        | zero => intro j h1 h2; exact absurd h1 (by omega)
        | succ n ih =>
          intro j h1 h2
          refine bh_iload C dX1_placeByScans_33 0 rfl ?_
          refine bh_aload_n C dX1_placeByScans_35 rfl 2 rfl ?_
          refine bh_get C ct_X1_placeByScans_in 0 rfl rfl 11 (by decide) (by decide +kernel) rfl (v := .int (nI (mq_sc M))) rfl dX1_placeByScans_36 ?_
          refine bh_icmp_ge (tgt := 95) C dX1_placeByScans_39 (by decide) (fun c_39 => ?_) (fun c_39 => ?_)
          · skip
            have c_39 := bh_le (by omega) (by omega) c_39
            have hjb : j = mq_sc M := by omega
            refine bh_iload_n C dX1_placeByScans_95 rfl 1 rfl ?_
            exact bh_zret C hQ dX1_placeByScans_96 () (v := (mo_pbs M (nI k) t j)) (w := wh_modl cI bd M (co_in (nI k) (mq_bc M))) (congrArg (wh_modl cI bd M) ((co_in0 hb9).trans (show co_pbs M (nI k) t = 0 from co_pbs0 hb9 (Int32.not_lt.mpr c_19.1) c_19.2).symm)) rfl (Nat.le_of_ble_eq_true rfl) (Nat.le_of_ble_eq_true rfl) (fun _ => by rw [hjb])
          · skip
            have c_39 := bh_nle2 (by omega) (by omega) c_39
            refine bh_aload_n C dX1_placeByScans_42 rfl 2 rfl ?_
            refine bh_get C ct_X1_placeByScans_in 0 rfl rfl 12 (by decide) (by decide +kernel) rfl (v := .ref (bd 12)) rfl dX1_placeByScans_43 ?_
            refine bh_iload C dX1_placeByScans_46 0 rfl ?_
            refine bh_iald C 9 0 (f := (mq_rows M)) rfl rfl (i := (nI j)) (vp_in_nI (n := j) (by omega) (by decide)) (x := ((mq_rows M) j)) (congrArg (mq_rows M) (nI_clamp (n := j) (by omega))) dX1_placeByScans_48 ?_
            refine bh_bipush (v := 64) C dX1_placeByScans_49 (by decide) ?_
            refine bh_irem C dX1_placeByScans_51 (by decide) ?_
            refine bh_topi (rows_sb hI _) ?_
            refine bh_iload_n C dX1_placeByScans_52 rfl 3 rfl ?_
            refine bh_icmp_ne (tgt := 87) C dX1_placeByScans_53 (by decide) (fun c_53 => ?_) (fun c_53 => ?_)
            · skip
              refine bh_iload_n C dX1_placeByScans_87 rfl 1 rfl ?_
              refine bh_istore_n (lv' := [(3, .int (mo_pbs M (nI k) t j)), (4, .int (nI j)), (0, .ref (bd 0)), (1, .int (nI k)), (2, .int t)]) C dX1_placeByScans_88 rfl (by decide) rfl ?_
              refine bh_iinc (v := (nI (j + 1))) (lv' := [(4, .int (nI (j + 1))), (3, .int (mo_pbs M (nI k) t j)), (0, .ref (bd 0)), (1, .int (nI k)), (2, .int t)]) C dX1_placeByScans_89 (k := 1) rfl (nI_1 _) (by decide) rfl ?_
              refine bh_goto (tgt := 33) C dX1_placeByScans_92 (by decide) ?_
              refine bh_eqlv (lv' := [(4, .int (nI (j + 1))), (3, .int (mo_pbs M (nI k) t (j + 1))), (0, .ref (bd 0)), (1, .int (nI k)), (2, .int t)]) (by rw [(show mo_pbs M (nI k) t (j + 1) = mo_pbs M (nI k) t j from mo_pbs_0 (by first | exact fun z => c_53 z.1 | exact fun z => absurd z.2 (Int32.not_le.mpr c_68)))]) ?_
              exact bh_lv [0, 1, 2, 3, 4] rfl (ih (j + 1) (by omega) (by omega))
            · skip
              refine bh_aload_n C dX1_placeByScans_56 rfl 2 rfl ?_
              refine bh_get C ct_X1_placeByScans_in 0 rfl rfl 12 (by decide) (by decide +kernel) rfl (v := .ref (bd 12)) rfl dX1_placeByScans_57 ?_
              refine bh_iload C dX1_placeByScans_60 0 rfl ?_
              refine bh_iald C 9 0 (f := (mq_rows M)) rfl rfl (i := (nI j)) (vp_in_nI (n := j) (by omega) (by decide)) (x := ((mq_rows M) j)) (congrArg (mq_rows M) (nI_clamp (n := j) (by omega))) dX1_placeByScans_62 ?_
              refine bh_sipush (v := 1024) C dX1_placeByScans_63 (by decide) ?_
              refine bh_idiv C dX1_placeByScans_66 (by decide) ?_
              refine bh_topi (rows_st hI _) ?_
              refine bh_iload_n C dX1_placeByScans_67 rfl 4 rfl ?_
              refine bh_icmp_gt (tgt := 87) C dX1_placeByScans_68 (by decide) (fun c_68 => ?_) (fun c_68 => ?_)
              · skip
                refine bh_iload_n C dX1_placeByScans_87 rfl 1 rfl ?_
                refine bh_istore_n (lv' := [(3, .int (mo_pbs M (nI k) t j)), (4, .int (nI j)), (0, .ref (bd 0)), (1, .int (nI k)), (2, .int t)]) C dX1_placeByScans_88 rfl (by decide) rfl ?_
                refine bh_iinc (v := (nI (j + 1))) (lv' := [(4, .int (nI (j + 1))), (3, .int (mo_pbs M (nI k) t j)), (0, .ref (bd 0)), (1, .int (nI k)), (2, .int t)]) C dX1_placeByScans_89 (k := 1) rfl (nI_1 _) (by decide) rfl ?_
                refine bh_goto (tgt := 33) C dX1_placeByScans_92 (by decide) ?_
                refine bh_eqlv (lv' := [(4, .int (nI (j + 1))), (3, .int (mo_pbs M (nI k) t (j + 1))), (0, .ref (bd 0)), (1, .int (nI k)), (2, .int t)]) (by rw [(show mo_pbs M (nI k) t (j + 1) = mo_pbs M (nI k) t j from mo_pbs_0 (by first | exact fun z => c_53 z.1 | exact fun z => absurd z.2 (Int32.not_le.mpr c_68)))]) ?_
                exact bh_lv [0, 1, 2, 3, 4] rfl (ih (j + 1) (by omega) (by omega))
              · skip
                refine bh_aload_n C dX1_placeByScans_71 rfl 2 rfl ?_
                refine bh_get C ct_X1_placeByScans_in 0 rfl rfl 12 (by decide) (by decide +kernel) rfl (v := .ref (bd 12)) rfl dX1_placeByScans_72 ?_
                refine bh_iload C dX1_placeByScans_75 0 rfl ?_
                refine bh_iald C 9 0 (f := (mq_rows M)) rfl rfl (i := (nI j)) (vp_in_nI (n := j) (by omega) (by decide)) (x := ((mq_rows M) j)) (congrArg (mq_rows M) (nI_clamp (n := j) (by omega))) dX1_placeByScans_77 ?_
                refine bh_bipush (v := 64) C dX1_placeByScans_78 (by decide) ?_
                refine bh_idiv C dX1_placeByScans_80 (by decide) ?_
                refine bh_bipush (v := 16) C dX1_placeByScans_81 (by decide) ?_
                refine bh_irem C dX1_placeByScans_83 (by decide) ?_
                refine bh_topi (rows_sp hI _) ?_
                refine bh_goto (tgt := 88) C dX1_placeByScans_84 (by decide) ?_
                refine bh_istore_n (lv' := [(3, .int (mq_sp M j)), (4, .int (nI j)), (0, .ref (bd 0)), (1, .int (nI k)), (2, .int t)]) C dX1_placeByScans_88 rfl (by decide) rfl ?_
                refine bh_iinc (v := (nI (j + 1))) (lv' := [(4, .int (nI (j + 1))), (3, .int (mq_sp M j)), (0, .ref (bd 0)), (1, .int (nI k)), (2, .int t)]) C dX1_placeByScans_89 (k := 1) rfl (nI_1 _) (by decide) rfl ?_
                refine bh_goto (tgt := 33) C dX1_placeByScans_92 (by decide) ?_
                refine bh_eqlv (lv' := [(4, .int (nI (j + 1))), (3, .int (mo_pbs M (nI k) t (j + 1))), (0, .ref (bd 0)), (1, .int (nI k)), (2, .int t)]) (by rw [(show mo_pbs M (nI k) t (j + 1) = mq_sp M j from mo_pbs_1 c_53 (Int32.not_lt.mp c_68))]) ?_
                exact bh_lv [0, 1, 2, 3, 4] rfl (ih (j + 1) (by omega) (by omega))
      exact bh_lv [0, 1, 2, 3, 4] rfl (loop (mq_sc M + 1) 0 (by omega) (by omega))
    · skip
      replace c_19 := bh_eq0 c_19
      refine bh_aload_n C dX1_placeByScans_22 rfl 0 rfl ?_
      refine bh_iconst (v := 2) C dX1_placeByScans_23 (by decide) ?_
      refine bh_calli_0 (As := [.int 2]) C (ct_X1_fails l D cI cZ cL bd M (co_in (nI k) (mq_bc M)) 2) (cwV 1 C.1.2.2.2.2 gX1_placeByScans_X1_fails rfl rfl rfl (by decide +kernel) ⟨Nat.le_of_ble_eq_true rfl, Nat.le_of_ble_eq_true rfl⟩) (ci := 1) rfl 0 rfl rfl rfl (Nat.le_of_ble_eq_true rfl) dX1_placeByScans_24 ⟨Nat.le_of_ble_eq_true rfl, Nat.le_of_ble_eq_true rfl⟩ (fun r_24 u_24 hp_24 => ?_)
      subst hp_24
      exact bh_zret C hQ dX1_placeByScans_27 () (v := 0) (w := wh_modl cI bd M 2) (congrArg (wh_modl cI bd M) (show co_pbs M (nI k) t = 2 from co_pbs2 hb9 (bh_nT c_19)).symm) rfl (Nat.le_of_ble_eq_true rfl) (Nat.le_of_ble_eq_true rfl) (fun z => absurd (z.symm.trans (show co_pbs M (nI k) t = 2 from co_pbs2 hb9 (bh_nT c_19))) (by decide))
  · skip
    replace c_5 := bh_eq0 c_5
    have hv := fun q => c_5 (mo_in_t q)
    refine bh_iconst (v := 0) C dX1_placeByScans_8 (by decide) ?_
    exact bh_zret C hQ dX1_placeByScans_9 () (v := 0) (w := wh_modl cI bd M (co_in b (mq_bc M))) (congrArg (wh_modl cI bd M) ((co_in1 hv).trans (show co_pbs M b t = 1 from if_neg (mo_in_f hv)).symm)) rfl (Nat.le_of_ble_eq_true rfl) (Nat.le_of_ble_eq_true rfl) (fun z => absurd (z.symm.trans (show co_pbs M b t = 1 from if_neg (mo_in_f hv))) (by decide))
theorem ct_X1_pass_in : ∀ w ∈ wsX10, w ∈ wsX1_pass := by decide +kernel
set_option maxRecDepth 100000 in
set_option maxHeartbeats 4000000 in
theorem ct_X1_pass (l : Launch) (D : va_G) (cI cZ cL : ClassId) (bd : Nat → Nat) {K T : Nat} (M : MT) (thr x : Int32) (hI : MI K T M) (hT : T + 200 ≤ 102400) : bh_Mi l D (wh_tys cI cZ cL) yX1_pass wsX1_pass ({ frames := 4, cells := 0, slots := 0, locals := 89 } : Room) [.ref (bd 0), .int x] (wh_modl cI bd M thr) (fun r (_ : Unit) => co_pass x = 0 → r = nI (mq_sc (mo_pass M x.toNatClampNeg)) - nI (mq_sc M)) (fun _ => wh_modl cI bd (mo_sel (co_pass x) (mo_pass M x.toNatClampNeg) M) (co_pass x)) 0 0 := by
  refine bh_ofi (cc := cX1_pass) (maxL := 4) (by decide +kernel) rfl (Nat.le_of_ble_eq_true rfl) ?_
  intro p e s m args below meth c A Q _ C hQ
  refine bh_eqlv (lv' := [(0, .ref (bd 0)), (1, .int x)]) rfl ?_
  have hfc := MI_fc hI; have hbc := MI_bc hI; have hsc := MI_sc hI; have hnow := MI_now2 hI
  refine bh_aload_n C dX1_pass_0 rfl 0 rfl ?_
  refine bh_iload_n C dX1_pass_1 rfl 1 rfl ?_
  refine bh_iconst (v := 1) C dX1_pass_2 (by decide) ?_
  refine bh_sipush (v := 200) C dX1_pass_3 (by decide) ?_
  refine bh_calli_N (As := [.int x, .int 1, .int 200]) C (ct_X1_in l D cI cZ cL bd x 1 200) ⟨callB_of 3 C.1.2.2.2.2 ggX1_pass_X1_in rfl rfl rfl (C.1.2.2.2.2 _ (by decide +kernel)) (C.1.2.2.2.2 _ (by decide +kernel)) (by decide +kernel) ⟨Nat.le_of_ble_eq_true rfl, Nat.le_of_ble_eq_true rfl⟩, C.1.2.2.2.2 _ (by decide +kernel)⟩ rfl rfl (Nat.le_of_ble_eq_true rfl) dX1_pass_6 ⟨Nat.le_of_ble_eq_true rfl, Nat.le_of_ble_eq_true rfl⟩ (fun r_6 u_6 hp_6 => ?_)
  subst hp_6
  refine bh_if_eq (tgt := 16) C dX1_pass_9 (by decide) (fun c_9 => ?_) (fun c_9 => ?_)
  · skip
    replace c_9 := bh_eq0 c_9
    have hco : co_pass x = 1 := if_pos (bh_nR2 (n := 200) c_9)
    refine bh_iconst (v := 1) C dX1_pass_16 (by decide) ?_
    refine bh_eqw (w' := wh_modlX cI bd (mq_now M) (mq_fc M) (mq_bc M) (mq_sc M) (mq_dep M) (mq_lat M) (mq_brd M) (mq_pl M) (mq_bf M) (mq_br M) (mq_pu M) (mq_ls M) (mq_rows M) thr) rfl ?_
    refine bh_put (ty := .int) (v := .int 1) (w' := wh_modlX cI bd (mq_now M) (mq_fc M) (mq_bc M) (mq_sc M) (mq_dep M) (mq_lat M) (mq_brd M) (mq_pl M) (mq_bf M) (mq_br M) (mq_pu M) (mq_ls M) (mq_rows M) 1) C ct_X1_pass_in tyX1 tyX1_ok nmX1 0 rfl rfl 13 (by decide) (by decide +kernel) rfl rfl (by decide +kernel) rfl rfl (Nat.le_of_ble_eq_true rfl) dX1_pass_17 rfl ?_
    refine bh_aload_n C dX1_pass_20 rfl 0 rfl ?_
    refine bh_get C ct_X1_pass_in 0 rfl rfl 11 (by decide) (by decide +kernel) rfl (v := .int (nI (mq_sc M))) rfl dX1_pass_21 ?_
    refine bh_istore_n (lv' := [(2, .int (nI (mq_sc M))), (0, .ref (bd 0)), (1, .int x)]) C dX1_pass_24 rfl (by decide) rfl ?_
    refine bh_iconst (v := 0) C dX1_pass_25 (by decide) ?_
    refine bh_istore_n (lv' := [(3, .int 0), (2, .int (nI (mq_sc M))), (0, .ref (bd 0)), (1, .int x)]) C dX1_pass_26 rfl (by decide) rfl ?_
    refine bh_iload_n C dX1_pass_27 rfl 0 rfl ?_
    refine bh_iload_n C dX1_pass_28 rfl 3 rfl ?_
    refine bh_icmp_ge (tgt := 49) C dX1_pass_29 (by decide) (fun c_29 => ?_) (fun c_29 => ?_)
    · skip
      refine bh_aload_n C dX1_pass_49 rfl 2 rfl ?_
      refine bh_get C ct_X1_pass_in 0 rfl rfl 11 (by decide) (by decide +kernel) rfl (v := .int (nI (mq_sc M))) rfl dX1_pass_50 ?_
      refine bh_iload_n C dX1_pass_53 rfl 1 rfl ?_
      refine bh_isub C dX1_pass_54 ?_
      exact bh_zret C hQ dX1_pass_55 () (v := ((nI (mq_sc M)) - (nI (mq_sc M)))) (w := wh_modlX cI bd (mq_now M) (mq_fc M) (mq_bc M) (mq_sc M) (mq_dep M) (mq_lat M) (mq_brd M) (mq_pl M) (mq_bf M) (mq_br M) (mq_pu M) (mq_ls M) (mq_rows M) 1) (wh_sel1 (d := 1) hco (by decide)).symm rfl (Nat.le_of_ble_eq_true rfl) (Nat.le_of_ble_eq_true rfl) (fun z => absurd (z.symm.trans hco) (by decide))
    · skip
      refine bh_aload_n C dX1_pass_32 rfl 2 rfl ?_
      refine bh_get C ct_X1_pass_in 0 rfl rfl 13 (by decide) (by decide +kernel) rfl (v := .int 1) rfl dX1_pass_33 ?_
      refine bh_if_ne (tgt := 49) C dX1_pass_36 (by decide) (fun c_36 => ?_) (fun c_36 => absurd c_36 (by decide))
      refine bh_aload_n C dX1_pass_49 rfl 2 rfl ?_
      refine bh_get C ct_X1_pass_in 0 rfl rfl 11 (by decide) (by decide +kernel) rfl (v := .int (nI (mq_sc M))) rfl dX1_pass_50 ?_
      refine bh_iload_n C dX1_pass_53 rfl 1 rfl ?_
      refine bh_isub C dX1_pass_54 ?_
      exact bh_zret C hQ dX1_pass_55 () (v := ((nI (mq_sc M)) - (nI (mq_sc M)))) (w := wh_modlX cI bd (mq_now M) (mq_fc M) (mq_bc M) (mq_sc M) (mq_dep M) (mq_lat M) (mq_brd M) (mq_pl M) (mq_bf M) (mq_br M) (mq_pu M) (mq_ls M) (mq_rows M) 1) (wh_sel1 (d := 1) hco (by decide)).symm rfl (Nat.le_of_ble_eq_true rfl) (Nat.le_of_ble_eq_true rfl) (fun z => absurd (z.symm.trans hco) (by decide))
  · skip
    replace c_9 := bh_ne0 c_9
    have hco : co_pass x = 0 := if_neg (bh_yR2 (n := 200) c_9)
    refine bh_iconst (v := 0) C dX1_pass_12 (by decide) ?_
    refine bh_goto (tgt := 17) C dX1_pass_13 (by decide) ?_
    refine bh_eqw (w' := wh_modlX cI bd (mq_now M) (mq_fc M) (mq_bc M) (mq_sc M) (mq_dep M) (mq_lat M) (mq_brd M) (mq_pl M) (mq_bf M) (mq_br M) (mq_pu M) (mq_ls M) (mq_rows M) thr) rfl ?_
    refine bh_put (ty := .int) (v := .int 0) (w' := wh_modlX cI bd (mq_now M) (mq_fc M) (mq_bc M) (mq_sc M) (mq_dep M) (mq_lat M) (mq_brd M) (mq_pl M) (mq_bf M) (mq_br M) (mq_pu M) (mq_ls M) (mq_rows M) 0) C ct_X1_pass_in tyX1 tyX1_ok nmX1 0 rfl rfl 13 (by decide) (by decide +kernel) rfl rfl (by decide +kernel) rfl rfl (Nat.le_of_ble_eq_true rfl) dX1_pass_17 rfl ?_
    refine bh_aload_n C dX1_pass_20 rfl 0 rfl ?_
    refine bh_get C ct_X1_pass_in 0 rfl rfl 11 (by decide) (by decide +kernel) rfl (v := .int (nI (mq_sc M))) rfl dX1_pass_21 ?_
    refine bh_istore_n (lv' := [(2, .int (nI (mq_sc M))), (0, .ref (bd 0)), (1, .int x)]) C dX1_pass_24 rfl (by decide) rfl ?_
    refine bh_iconst (v := 0) C dX1_pass_25 (by decide) ?_
    refine bh_istore_n (lv' := [(3, .int 0), (2, .int (nI (mq_sc M))), (0, .ref (bd 0)), (1, .int x)]) C dX1_pass_26 rfl (by decide) rfl ?_
    obtain ⟨m9, hm1, hm2, rfl⟩ := bh_rng (n := 200) (by decide) (Int32.not_lt.mpr c_9.1) c_9.2
    have hm9 : (nI m9).toNatClampNeg = m9 := nI_clamp (by omega)
    refine bh_eqw (w' := wh_modl cI bd M 0) rfl ?_
    have loop : ∀ (n : Nat) (k : Nat), m9 + 1 ≤ k + n → k ≤ m9 → bh_W p l e ({ frames := 4, cells := 0, slots := 0, locals := 89 } : Room) s m args below meth c 4 D A 0 0 Q (wh_modl cI bd (mo_pass M k) 0) ([(3, .int (nI k)), (2, .int (nI (mq_sc M))), (0, .ref (bd 0)), (1, .int (nI m9))]) 27 [] := by
      intro n
      induction n with
      | zero => intro k h1 h2; exact absurd h1 (by omega)
      | succ n ih =>
        intro k h1 h2
        have hI9 := MI_pass hI hT (k := k) (by omega)
        refine bh_iload_n C dX1_pass_27 rfl 0 rfl ?_
        refine bh_iload_n C dX1_pass_28 rfl 3 rfl ?_
        refine bh_icmp_ge (tgt := 49) C dX1_pass_29 (by decide) (fun c_29 => ?_) (fun c_29 => ?_)
        · skip
          have c_29 := bh_le (by omega) (by omega) c_29
          have hkb : k = m9 := by omega
          refine bh_aload_n C dX1_pass_49 rfl 2 rfl ?_
          refine bh_get C ct_X1_pass_in 0 rfl rfl 11 (by decide) (by decide +kernel) rfl (v := .int (nI (mq_sc (mo_pass M k)))) rfl dX1_pass_50 ?_
          refine bh_iload_n C dX1_pass_53 rfl 1 rfl ?_
          refine bh_isub C dX1_pass_54 ?_
          exact bh_zret C hQ dX1_pass_55 () (v := ((nI (mq_sc (mo_pass M k))) - (nI (mq_sc M)))) (w := wh_modl cI bd (mo_pass M k) 0) (by rw [hm9, hkb]; exact (wh_sel0 hco).symm) rfl (Nat.le_of_ble_eq_true rfl) (Nat.le_of_ble_eq_true rfl) (fun _ => by rw [hm9, hkb])
        · skip
          have c_29 := bh_nle2 (by omega) (by omega) c_29
          refine bh_aload_n C dX1_pass_32 rfl 2 rfl ?_
          refine bh_get C ct_X1_pass_in 0 rfl rfl 13 (by decide) (by decide +kernel) rfl (v := .int 0) rfl dX1_pass_33 ?_
          refine bh_if_ne (tgt := 49) C dX1_pass_36 (by decide) (fun c_36 => absurd c_36 (by decide)) (fun c_36 => ?_)
          refine bh_aload_n C dX1_pass_39 rfl 2 rfl ?_
          refine bh_callv_0 (As := []) C (ct_X1_minute l D cI cZ cL bd (mo_pass M k) 0 hI9 (by omega)) (cwV 0 C.1.2.2.2.2 gX1_pass_X1_minute rfl rfl rfl (by decide +kernel) ⟨Nat.le_of_ble_eq_true rfl, Nat.le_of_ble_eq_true rfl⟩) (ci := 1) rfl 0 rfl rfl rfl (Nat.le_of_ble_eq_true rfl) dX1_pass_40 ⟨Nat.le_of_ble_eq_true rfl, Nat.le_of_ble_eq_true rfl⟩ (fun u_40 hp_40 => ?_)
          refine bh_eqw (w' := wh_modl cI bd (mo_pass M (k + 1)) 0) (by rw [mo_pass_s]) ?_
          refine bh_iinc (v := (nI (k + 1))) (lv' := [(3, .int (nI (k + 1))), (2, .int (nI (mq_sc M))), (0, .ref (bd 0)), (1, .int (nI m9))]) C dX1_pass_43 (k := 0) rfl (nI_1 _) (by decide) rfl ?_
          refine bh_goto (tgt := 27) C dX1_pass_46 (by decide) ?_
          exact bh_lv [0, 1, 2, 3] rfl (ih (k + 1) (by omega) (by omega))
    exact bh_lv [0, 1, 2, 3] rfl (loop (m9 + 1) 0 (by omega) (by omega))
theorem ct_X1_addFlight_in : ∀ w ∈ wsX10, w ∈ wsX1_addFlight := by decide +kernel
set_option maxRecDepth 100000 in
set_option maxHeartbeats 4000000 in
theorem ct_X1_addFlight (l : Launch) (D : va_G) (cI cZ cL : ClassId) (bd : Nat → Nat) {K T : Nat} (M : MT) (thr x : Int32) (hI : MI K T M) : bh_Mi l D (wh_tys cI cZ cL) yX1_addFlight wsX1_addFlight ({ frames := 1, cells := 0, slots := 0, locals := 22 } : Room) [.ref (bd 0), .int x] (wh_modl cI bd M thr) (fun r (_ : Unit) => co_add M x = 0 → r = nI (mq_fc M)) (fun _ => wh_modl cI bd (mo_sel (co_add M x) (mo_add M x) M) (co_add M x)) 0 0 := by
  refine bh_ofi (cc := cX1_addFlight) (maxL := 6) (by decide +kernel) rfl (Nat.le_of_ble_eq_true rfl) ?_
  intro p e s m args below meth c A Q _ C hQ
  refine bh_eqlv (lv' := [(0, .ref (bd 0)), (1, .int x)]) rfl ?_
  have hfc := MI_fc hI; have hbc := MI_bc hI; have hsc := MI_sc hI; have hnow := MI_now2 hI
  refine bh_aload_n C dX1_addFlight_0 rfl 0 rfl ?_
  refine bh_iconst (v := 0) C dX1_addFlight_1 (by decide) ?_
  refine bh_eqw (w' := wh_modlX cI bd (mq_now M) (mq_fc M) (mq_bc M) (mq_sc M) (mq_dep M) (mq_lat M) (mq_brd M) (mq_pl M) (mq_bf M) (mq_br M) (mq_pu M) (mq_ls M) (mq_rows M) thr) rfl ?_
  refine bh_put (ty := .int) (v := .int 0) (w' := wh_modlX cI bd (mq_now M) (mq_fc M) (mq_bc M) (mq_sc M) (mq_dep M) (mq_lat M) (mq_brd M) (mq_pl M) (mq_bf M) (mq_br M) (mq_pu M) (mq_ls M) (mq_rows M) 0) C ct_X1_addFlight_in tyX1 tyX1_ok nmX1 0 rfl rfl 13 (by decide) (by decide +kernel) rfl rfl (by decide +kernel) rfl rfl (Nat.le_of_ble_eq_true rfl) dX1_addFlight_2 rfl ?_
  refine bh_iload_n C dX1_addFlight_5 rfl 1 rfl ?_
  refine bh_iconst (v := 1) C dX1_addFlight_6 (by decide) ?_
  refine bh_sipush (v := 1000) C dX1_addFlight_7 (by decide) ?_
  refine bh_calli_N (As := [.int x, .int 1, .int 1000]) C (ct_X1_in l D cI cZ cL bd x 1 1000) ⟨callB_of 3 C.1.2.2.2.2 ggX1_addFlight_X1_in rfl rfl rfl (C.1.2.2.2.2 _ (by decide +kernel)) (C.1.2.2.2.2 _ (by decide +kernel)) (by decide +kernel) ⟨Nat.le_of_ble_eq_true rfl, Nat.le_of_ble_eq_true rfl⟩, C.1.2.2.2.2 _ (by decide +kernel)⟩ rfl rfl (Nat.le_of_ble_eq_true rfl) dX1_addFlight_10 ⟨Nat.le_of_ble_eq_true rfl, Nat.le_of_ble_eq_true rfl⟩ (fun r_10 u_10 hp_10 => ?_)
  subst hp_10
  refine bh_if_ne (tgt := 22) C dX1_addFlight_13 (by decide) (fun c_13 => ?_) (fun c_13 => ?_)
  · skip
    replace c_13 := bh_ne0 c_13
    refine bh_aload_n C dX1_addFlight_22 rfl 0 rfl ?_
    refine bh_get C ct_X1_addFlight_in 0 rfl rfl 1 (by decide) (by decide +kernel) rfl (v := .int (nI (mq_fc M))) rfl dX1_addFlight_23 ?_
    refine bh_bipush (v := 10) C dX1_addFlight_26 (by decide) ?_
    refine bh_icmp_ne (tgt := 37) C dX1_addFlight_28 (by decide) (fun c_28 => ?_) (fun c_28 => ?_)
    · skip
      have c_28 : ¬ mq_fc M = 10 := fun q => c_28 (by rw [q]; decide +kernel)
      have hco : co_add M x = 0 := (if_neg (bh_yR2 (n := 1000) c_13)).trans (if_neg (by omega))
      refine bh_aload_n C dX1_addFlight_37 rfl 0 rfl ?_
      refine bh_get C ct_X1_addFlight_in 0 rfl rfl 2 (by decide) (by decide +kernel) rfl (v := .ref (bd 2)) rfl dX1_addFlight_38 ?_
      refine bh_aload_n C dX1_addFlight_41 rfl 0 rfl ?_
      refine bh_get C ct_X1_addFlight_in 0 rfl rfl 1 (by decide) (by decide +kernel) rfl (v := .int (nI (mq_fc M))) rfl dX1_addFlight_42 ?_
      refine bh_aload_n C dX1_addFlight_45 rfl 0 rfl ?_
      refine bh_get C ct_X1_addFlight_in 0 rfl rfl 0 (by decide) (by decide +kernel) rfl (v := .int (nI (mq_now M))) rfl dX1_addFlight_46 ?_
      refine bh_iload_n C dX1_addFlight_49 rfl 1 rfl ?_
      refine bh_iadd C dX1_addFlight_50 ?_
      refine bh_iast (w' := wh_modlX cI bd (mq_now M) (mq_fc M) (mq_bc M) (mq_sc M) (upd (mq_dep M) ((mq_fc M)) ((nI (mq_now M)) + x)) (mq_lat M) (mq_brd M) (mq_pl M) (mq_bf M) (mq_br M) (mq_pu M) (mq_ls M) (mq_rows M) 0) C 1 0 rfl rfl (vp_in_nI (n := (mq_fc M)) (by omega) (by decide)) dX1_addFlight_51 (by rw [nI_clamp (n := (mq_fc M)) (by omega)]; rfl) ?_
      refine bh_iconst (v := 0) C dX1_addFlight_52 (by decide) ?_
      refine bh_istore_n (lv' := [(2, .int 0), (0, .ref (bd 0)), (1, .int x)]) C dX1_addFlight_53 rfl (by decide) rfl ?_
      refine bh_iconst (v := 0) C dX1_addFlight_54 (by decide) ?_
      refine bh_istore_n (lv' := [(3, .int 0), (2, .int 0), (0, .ref (bd 0)), (1, .int x)]) C dX1_addFlight_55 rfl (by decide) rfl ?_
      have hd9 := bh_dIn hnow (Int32.not_lt.mpr c_13.1) c_13.2
      have loop : ∀ (n a g : Nat), (4 - a) * 11 + (10 - g) < n → a ≤ 4 → g ≤ mq_fc M → (∀ i, i < a → ¬ mo_free M (nI (mq_now M) + x) (nI i)) → (∀ j, j < g → ¬ mo_clash M (nI (mq_now M) + x) (nI a) j) → bh_W p l e ({ frames := 1, cells := 0, slots := 0, locals := 22 } : Room) s m args below meth c 6 D A 0 0 Q (wh_modlX cI bd (mq_now M) (mq_fc M) (mq_bc M) (mq_sc M) (upd (mq_dep M) ((mq_fc M)) ((nI (mq_now M)) + x)) (mq_lat M) (mq_brd M) (mq_pl M) (mq_bf M) (mq_br M) (mq_pu M) (mq_ls M) (mq_rows M) 0) ([(3, .int (nI g)), (2, .int (nI a)), (0, .ref (bd 0)), (1, .int x)]) 56 [] := by
        intro n
        induction n with
        | zero => intro a g h1; exact absurd h1 (by omega)
        | succ n ih =>
          intro a g h1 h2 h3 hA9 hG9
          refine bh_iload_n C dX1_addFlight_56 rfl 0 rfl ?_
          refine bh_aload_n C dX1_addFlight_57 rfl 2 rfl ?_
          refine bh_get C ct_X1_addFlight_in 0 rfl rfl 1 (by decide) (by decide +kernel) rfl (v := .int (nI (mq_fc M))) rfl dX1_addFlight_58 ?_
          refine bh_icmp_ge (tgt := 147) C dX1_addFlight_61 (by decide) (fun c_61 => ?_) (fun c_61 => ?_)
          · skip
            have c_61 := bh_le (by omega) (by omega) c_61
            have hgb : g = mq_fc M := by omega
            refine bh_aload_n C dX1_addFlight_147 rfl 2 rfl ?_
            refine bh_get C ct_X1_addFlight_in 0 rfl rfl 3 (by decide) (by decide +kernel) rfl (v := .ref (bd 3)) rfl dX1_addFlight_148 ?_
            refine bh_aload_n C dX1_addFlight_151 rfl 2 rfl ?_
            refine bh_get C ct_X1_addFlight_in 0 rfl rfl 1 (by decide) (by decide +kernel) rfl (v := .int (nI (mq_fc M))) rfl dX1_addFlight_152 ?_
            refine bh_iload_n C dX1_addFlight_155 rfl 1 rfl ?_
            refine bh_iconst (v := 4) C dX1_addFlight_156 (by decide) ?_
            refine bh_icmp_ge (tgt := 164) C dX1_addFlight_157 (by decide) (fun c_157 => ?_) (fun c_157 => ?_)
            · skip
              have c_157 := bh_le (a := 4) (by decide) (by omega) c_157
              have hlow : mo_low M (nI (mq_now M) + x) = -1 := mo_low_no (fun i hi => hA9 i (by omega))
              refine bh_iconst (v := (-1)) C dX1_addFlight_164 (by decide) ?_
              refine bh_iast (w' := wh_modlX cI bd (mq_now M) (mq_fc M) (mq_bc M) (mq_sc M) (upd (mq_dep M) ((mq_fc M)) ((nI (mq_now M)) + x)) (upd (mq_lat M) ((mq_fc M)) (-1)) (mq_brd M) (mq_pl M) (mq_bf M) (mq_br M) (mq_pu M) (mq_ls M) (mq_rows M) 0) C 2 0 rfl rfl (vp_in_nI (n := (mq_fc M)) (by omega) (by decide)) dX1_addFlight_165 (by rw [nI_clamp (n := (mq_fc M)) (by omega)]; rfl) ?_
              refine bh_aload_n C dX1_addFlight_166 rfl 2 rfl ?_
              refine bh_dup C dX1_addFlight_167 rfl ?_
              refine bh_get C ct_X1_addFlight_in 0 rfl rfl 1 (by decide) (by decide +kernel) rfl (v := .int (nI (mq_fc M))) rfl dX1_addFlight_168 ?_
              refine bh_iconst (v := 1) C dX1_addFlight_171 (by decide) ?_
              refine bh_iadd C dX1_addFlight_172 ?_
              refine bh_topi (nI_1 _) ?_
              refine bh_put (ty := .int) (v := .int (nI ((mq_fc M) + 1))) (w' := wh_modlX cI bd (mq_now M) (((mq_fc M) + 1)) (mq_bc M) (mq_sc M) (upd (mq_dep M) ((mq_fc M)) ((nI (mq_now M)) + x)) (upd (mq_lat M) ((mq_fc M)) (-1)) (mq_brd M) (mq_pl M) (mq_bf M) (mq_br M) (mq_pu M) (mq_ls M) (mq_rows M) 0) C ct_X1_addFlight_in tyX1 tyX1_ok nmX1 0 rfl rfl 1 (by decide) (by decide +kernel) rfl rfl (by decide +kernel) rfl rfl (Nat.le_of_ble_eq_true rfl) dX1_addFlight_173 rfl ?_
              refine bh_aload_n C dX1_addFlight_176 rfl 2 rfl ?_
              refine bh_get C ct_X1_addFlight_in 0 rfl rfl 1 (by decide) (by decide +kernel) rfl (v := .int (nI (((mq_fc M) + 1)))) rfl dX1_addFlight_177 ?_
              refine bh_iconst (v := 1) C dX1_addFlight_180 (by decide) ?_
              refine bh_isub C dX1_addFlight_181 ?_
              refine bh_topi (nI_pred _) ?_
              exact bh_zret C hQ dX1_addFlight_182 () (v := (nI (mq_fc M))) (w := wh_modlX cI bd (mq_now M) (((mq_fc M) + 1)) (mq_bc M) (mq_sc M) (upd (mq_dep M) ((mq_fc M)) ((nI (mq_now M)) + x)) (upd (mq_lat M) ((mq_fc M)) (-1)) (mq_brd M) (mq_pl M) (mq_bf M) (mq_br M) (mq_pu M) (mq_ls M) (mq_rows M) 0) (by rw [wh_sel0 hco, ← hlow]; rfl) rfl (Nat.le_of_ble_eq_true rfl) (Nat.le_of_ble_eq_true rfl) (fun _ => rfl)
            · skip
              have c_157 := bh_nle2 (a := 4) (by decide) (by omega) c_157
              have hlow : mo_low M (nI (mq_now M) + x) = nI a := mo_low_at c_157 hA9 (fun j hj => hG9 j (by omega))
              refine bh_iload_n C dX1_addFlight_160 rfl 1 rfl ?_
              refine bh_goto (tgt := 165) C dX1_addFlight_161 (by decide) ?_
              refine bh_iast (w' := wh_modlX cI bd (mq_now M) (mq_fc M) (mq_bc M) (mq_sc M) (upd (mq_dep M) ((mq_fc M)) ((nI (mq_now M)) + x)) (upd (mq_lat M) ((mq_fc M)) (nI a)) (mq_brd M) (mq_pl M) (mq_bf M) (mq_br M) (mq_pu M) (mq_ls M) (mq_rows M) 0) C 2 0 rfl rfl (vp_in_nI (n := (mq_fc M)) (by omega) (by decide)) dX1_addFlight_165 (by rw [nI_clamp (n := (mq_fc M)) (by omega)]; rfl) ?_
              refine bh_aload_n C dX1_addFlight_166 rfl 2 rfl ?_
              refine bh_dup C dX1_addFlight_167 rfl ?_
              refine bh_get C ct_X1_addFlight_in 0 rfl rfl 1 (by decide) (by decide +kernel) rfl (v := .int (nI (mq_fc M))) rfl dX1_addFlight_168 ?_
              refine bh_iconst (v := 1) C dX1_addFlight_171 (by decide) ?_
              refine bh_iadd C dX1_addFlight_172 ?_
              refine bh_topi (nI_1 _) ?_
              refine bh_put (ty := .int) (v := .int (nI ((mq_fc M) + 1))) (w' := wh_modlX cI bd (mq_now M) (((mq_fc M) + 1)) (mq_bc M) (mq_sc M) (upd (mq_dep M) ((mq_fc M)) ((nI (mq_now M)) + x)) (upd (mq_lat M) ((mq_fc M)) (nI a)) (mq_brd M) (mq_pl M) (mq_bf M) (mq_br M) (mq_pu M) (mq_ls M) (mq_rows M) 0) C ct_X1_addFlight_in tyX1 tyX1_ok nmX1 0 rfl rfl 1 (by decide) (by decide +kernel) rfl rfl (by decide +kernel) rfl rfl (Nat.le_of_ble_eq_true rfl) dX1_addFlight_173 rfl ?_
              refine bh_aload_n C dX1_addFlight_176 rfl 2 rfl ?_
              refine bh_get C ct_X1_addFlight_in 0 rfl rfl 1 (by decide) (by decide +kernel) rfl (v := .int (nI (((mq_fc M) + 1)))) rfl dX1_addFlight_177 ?_
              refine bh_iconst (v := 1) C dX1_addFlight_180 (by decide) ?_
              refine bh_isub C dX1_addFlight_181 ?_
              refine bh_topi (nI_pred _) ?_
              exact bh_zret C hQ dX1_addFlight_182 () (v := (nI (mq_fc M))) (w := wh_modlX cI bd (mq_now M) (((mq_fc M) + 1)) (mq_bc M) (mq_sc M) (upd (mq_dep M) ((mq_fc M)) ((nI (mq_now M)) + x)) (upd (mq_lat M) ((mq_fc M)) (nI a)) (mq_brd M) (mq_pl M) (mq_bf M) (mq_br M) (mq_pu M) (mq_ls M) (mq_rows M) 0) (by rw [wh_sel0 hco, ← hlow]; rfl) rfl (Nat.le_of_ble_eq_true rfl) (Nat.le_of_ble_eq_true rfl) (fun _ => rfl)
          · skip
            have c_61 := bh_nle2 (by omega) (by omega) c_61
            refine bh_iload_n C dX1_addFlight_64 rfl 1 rfl ?_
            refine bh_iconst (v := 4) C dX1_addFlight_65 (by decide) ?_
            refine bh_icmp_ge (tgt := 147) C dX1_addFlight_66 (by decide) (fun c_66 => ?_) (fun c_66 => ?_)
            · skip
              have c_66 := bh_le (a := 4) (by decide) (by omega) c_66
              refine bh_aload_n C dX1_addFlight_147 rfl 2 rfl ?_
              refine bh_get C ct_X1_addFlight_in 0 rfl rfl 3 (by decide) (by decide +kernel) rfl (v := .ref (bd 3)) rfl dX1_addFlight_148 ?_
              refine bh_aload_n C dX1_addFlight_151 rfl 2 rfl ?_
              refine bh_get C ct_X1_addFlight_in 0 rfl rfl 1 (by decide) (by decide +kernel) rfl (v := .int (nI (mq_fc M))) rfl dX1_addFlight_152 ?_
              refine bh_iload_n C dX1_addFlight_155 rfl 1 rfl ?_
              refine bh_iconst (v := 4) C dX1_addFlight_156 (by decide) ?_
              refine bh_icmp_ge (tgt := 164) C dX1_addFlight_157 (by decide) (fun c_157 => ?_) (fun c_157 => ?_)
              · skip
                have c_157 := bh_le (a := 4) (by decide) (by omega) c_157
                have hlow : mo_low M (nI (mq_now M) + x) = -1 := mo_low_no (fun i hi => hA9 i (by omega))
                refine bh_iconst (v := (-1)) C dX1_addFlight_164 (by decide) ?_
                refine bh_iast (w' := wh_modlX cI bd (mq_now M) (mq_fc M) (mq_bc M) (mq_sc M) (upd (mq_dep M) ((mq_fc M)) ((nI (mq_now M)) + x)) (upd (mq_lat M) ((mq_fc M)) (-1)) (mq_brd M) (mq_pl M) (mq_bf M) (mq_br M) (mq_pu M) (mq_ls M) (mq_rows M) 0) C 2 0 rfl rfl (vp_in_nI (n := (mq_fc M)) (by omega) (by decide)) dX1_addFlight_165 (by rw [nI_clamp (n := (mq_fc M)) (by omega)]; rfl) ?_
                refine bh_aload_n C dX1_addFlight_166 rfl 2 rfl ?_
                refine bh_dup C dX1_addFlight_167 rfl ?_
                refine bh_get C ct_X1_addFlight_in 0 rfl rfl 1 (by decide) (by decide +kernel) rfl (v := .int (nI (mq_fc M))) rfl dX1_addFlight_168 ?_
                refine bh_iconst (v := 1) C dX1_addFlight_171 (by decide) ?_
                refine bh_iadd C dX1_addFlight_172 ?_
                refine bh_topi (nI_1 _) ?_
                refine bh_put (ty := .int) (v := .int (nI ((mq_fc M) + 1))) (w' := wh_modlX cI bd (mq_now M) (((mq_fc M) + 1)) (mq_bc M) (mq_sc M) (upd (mq_dep M) ((mq_fc M)) ((nI (mq_now M)) + x)) (upd (mq_lat M) ((mq_fc M)) (-1)) (mq_brd M) (mq_pl M) (mq_bf M) (mq_br M) (mq_pu M) (mq_ls M) (mq_rows M) 0) C ct_X1_addFlight_in tyX1 tyX1_ok nmX1 0 rfl rfl 1 (by decide) (by decide +kernel) rfl rfl (by decide +kernel) rfl rfl (Nat.le_of_ble_eq_true rfl) dX1_addFlight_173 rfl ?_
                refine bh_aload_n C dX1_addFlight_176 rfl 2 rfl ?_
                refine bh_get C ct_X1_addFlight_in 0 rfl rfl 1 (by decide) (by decide +kernel) rfl (v := .int (nI (((mq_fc M) + 1)))) rfl dX1_addFlight_177 ?_
                refine bh_iconst (v := 1) C dX1_addFlight_180 (by decide) ?_
                refine bh_isub C dX1_addFlight_181 ?_
                refine bh_topi (nI_pred _) ?_
                exact bh_zret C hQ dX1_addFlight_182 () (v := (nI (mq_fc M))) (w := wh_modlX cI bd (mq_now M) (((mq_fc M) + 1)) (mq_bc M) (mq_sc M) (upd (mq_dep M) ((mq_fc M)) ((nI (mq_now M)) + x)) (upd (mq_lat M) ((mq_fc M)) (-1)) (mq_brd M) (mq_pl M) (mq_bf M) (mq_br M) (mq_pu M) (mq_ls M) (mq_rows M) 0) (by rw [wh_sel0 hco, ← hlow]; rfl) rfl (Nat.le_of_ble_eq_true rfl) (Nat.le_of_ble_eq_true rfl) (fun _ => rfl)
              · skip
                have c_157 := bh_nle2 (a := 4) (by decide) (by omega) c_157
                have hlow : mo_low M (nI (mq_now M) + x) = nI a := mo_low_at c_157 hA9 (fun j hj => hG9 j (by omega))
                refine bh_iload_n C dX1_addFlight_160 rfl 1 rfl ?_
                refine bh_goto (tgt := 165) C dX1_addFlight_161 (by decide) ?_
                refine bh_iast (w' := wh_modlX cI bd (mq_now M) (mq_fc M) (mq_bc M) (mq_sc M) (upd (mq_dep M) ((mq_fc M)) ((nI (mq_now M)) + x)) (upd (mq_lat M) ((mq_fc M)) (nI a)) (mq_brd M) (mq_pl M) (mq_bf M) (mq_br M) (mq_pu M) (mq_ls M) (mq_rows M) 0) C 2 0 rfl rfl (vp_in_nI (n := (mq_fc M)) (by omega) (by decide)) dX1_addFlight_165 (by rw [nI_clamp (n := (mq_fc M)) (by omega)]; rfl) ?_
                refine bh_aload_n C dX1_addFlight_166 rfl 2 rfl ?_
                refine bh_dup C dX1_addFlight_167 rfl ?_
                refine bh_get C ct_X1_addFlight_in 0 rfl rfl 1 (by decide) (by decide +kernel) rfl (v := .int (nI (mq_fc M))) rfl dX1_addFlight_168 ?_
                refine bh_iconst (v := 1) C dX1_addFlight_171 (by decide) ?_
                refine bh_iadd C dX1_addFlight_172 ?_
                refine bh_topi (nI_1 _) ?_
                refine bh_put (ty := .int) (v := .int (nI ((mq_fc M) + 1))) (w' := wh_modlX cI bd (mq_now M) (((mq_fc M) + 1)) (mq_bc M) (mq_sc M) (upd (mq_dep M) ((mq_fc M)) ((nI (mq_now M)) + x)) (upd (mq_lat M) ((mq_fc M)) (nI a)) (mq_brd M) (mq_pl M) (mq_bf M) (mq_br M) (mq_pu M) (mq_ls M) (mq_rows M) 0) C ct_X1_addFlight_in tyX1 tyX1_ok nmX1 0 rfl rfl 1 (by decide) (by decide +kernel) rfl rfl (by decide +kernel) rfl rfl (Nat.le_of_ble_eq_true rfl) dX1_addFlight_173 rfl ?_
                refine bh_aload_n C dX1_addFlight_176 rfl 2 rfl ?_
                refine bh_get C ct_X1_addFlight_in 0 rfl rfl 1 (by decide) (by decide +kernel) rfl (v := .int (nI (((mq_fc M) + 1)))) rfl dX1_addFlight_177 ?_
                refine bh_iconst (v := 1) C dX1_addFlight_180 (by decide) ?_
                refine bh_isub C dX1_addFlight_181 ?_
                refine bh_topi (nI_pred _) ?_
                exact bh_zret C hQ dX1_addFlight_182 () (v := (nI (mq_fc M))) (w := wh_modlX cI bd (mq_now M) (((mq_fc M) + 1)) (mq_bc M) (mq_sc M) (upd (mq_dep M) ((mq_fc M)) ((nI (mq_now M)) + x)) (upd (mq_lat M) ((mq_fc M)) (nI a)) (mq_brd M) (mq_pl M) (mq_bf M) (mq_br M) (mq_pu M) (mq_ls M) (mq_rows M) 0) (by rw [wh_sel0 hco, ← hlow]; rfl) rfl (Nat.le_of_ble_eq_true rfl) (Nat.le_of_ble_eq_true rfl) (fun _ => rfl)
            · skip
              have c_66 := bh_nle2 (a := 4) (by decide) (by omega) c_66
              refine bh_aload_n C dX1_addFlight_69 rfl 2 rfl ?_
              refine bh_get C ct_X1_addFlight_in 0 rfl rfl 2 (by decide) (by decide +kernel) rfl (v := .ref (bd 2)) rfl dX1_addFlight_70 ?_
              refine bh_aload_n C dX1_addFlight_73 rfl 2 rfl ?_
              refine bh_get C ct_X1_addFlight_in 0 rfl rfl 1 (by decide) (by decide +kernel) rfl (v := .int (nI (mq_fc M))) rfl dX1_addFlight_74 ?_
              refine bh_iald C 1 0 (f := (upd (mq_dep M) ((mq_fc M)) ((nI (mq_now M)) + x))) rfl rfl (i := (nI (mq_fc M))) (vp_in_nI (n := (mq_fc M)) (by omega) (by decide)) (x := (nI (mq_now M) + x)) (by rw [nI_clamp (n := mq_fc M) (by omega)]; exact bh_upd_same _ _ _) dX1_addFlight_77 ?_
              refine bh_aload_n C dX1_addFlight_78 rfl 2 rfl ?_
              refine bh_get C ct_X1_addFlight_in 0 rfl rfl 2 (by decide) (by decide +kernel) rfl (v := .ref (bd 2)) rfl dX1_addFlight_79 ?_
              refine bh_iload_n C dX1_addFlight_82 rfl 0 rfl ?_
              refine bh_iald C 1 0 (f := (upd (mq_dep M) ((mq_fc M)) ((nI (mq_now M)) + x))) rfl rfl (i := (nI g)) (vp_in_nI (n := g) (by omega) (by decide)) (x := (mq_dep M g)) (by rw [nI_clamp (n := g) (by omega)]; exact bh_upd_ne _ _ (by omega)) dX1_addFlight_83 ?_
              refine bh_isub C dX1_addFlight_84 ?_
              refine bh_istore (lv' := [(4, .int ((nI (mq_now M) + x) - (mq_dep M g))), (3, .int (nI g)), (2, .int (nI a)), (0, .ref (bd 0)), (1, .int x)]) C dX1_addFlight_85 (by decide) rfl ?_
              refine bh_aload_n C dX1_addFlight_87 rfl 3 rfl ?_
              refine bh_get C ct_X1_addFlight_in 0 rfl rfl 3 (by decide) (by decide +kernel) rfl (v := .ref (bd 3)) rfl dX1_addFlight_88 ?_
              refine bh_iload_n C dX1_addFlight_91 rfl 1 rfl ?_
              refine bh_iald C 2 0 (f := (mq_lat M)) rfl rfl (i := (nI g)) (vp_in_nI (n := g) (by omega) (by decide)) (x := ((mq_lat M) g)) (congrArg (mq_lat M) (nI_clamp (n := g) (by omega))) dX1_addFlight_92 ?_
              refine bh_iload_n C dX1_addFlight_93 rfl 2 rfl ?_
              refine bh_icmp_ne (tgt := 115) C dX1_addFlight_94 (by decide) (fun c_94 => ?_) (fun c_94 => ?_)
              · skip
                refine bh_iconst (v := 0) C dX1_addFlight_115 (by decide) ?_
                refine bh_istore (lv' := [(5, .int 0), (4, .int ((nI (mq_now M) + x) - (mq_dep M g))), (3, .int (nI g)), (2, .int (nI a)), (0, .ref (bd 0)), (1, .int x)]) C dX1_addFlight_116 (by decide) rfl ?_
                refine bh_iload_n C dX1_addFlight_118 rfl 3 rfl ?_
                refine bh_iload C dX1_addFlight_119 0 rfl ?_
                refine bh_if_eq (tgt := 128) C dX1_addFlight_121 (by decide) (fun c_121 => ?_) (fun c_121 => absurd c_121 (by decide))
                refine bh_iconst (v := 0) C dX1_addFlight_128 (by decide) ?_
                refine bh_iadd C dX1_addFlight_129 ?_
                refine bh_topi (Int32.add_zero _) ?_
                refine bh_istore_n (lv' := [(2, .int (nI a)), (5, .int 0), (4, .int ((nI (mq_now M) + x) - (mq_dep M g))), (3, .int (nI g)), (0, .ref (bd 0)), (1, .int x)]) C dX1_addFlight_130 rfl (by decide) rfl ?_
                refine bh_iload C dX1_addFlight_131 1 rfl ?_
                refine bh_if_eq (tgt := 140) C dX1_addFlight_133 (by decide) (fun c_133 => ?_) (fun c_133 => absurd c_133 (by decide))
                refine bh_iload_n C dX1_addFlight_140 rfl 3 rfl ?_
                refine bh_iconst (v := 1) C dX1_addFlight_141 (by decide) ?_
                refine bh_iadd C dX1_addFlight_142 ?_
                refine bh_topi (nI_1 _) ?_
                refine bh_istore_n (lv' := [(3, .int (nI (g + 1))), (2, .int (nI a)), (5, .int 0), (4, .int ((nI (mq_now M) + x) - (mq_dep M g))), (0, .ref (bd 0)), (1, .int x)]) C dX1_addFlight_143 rfl (by decide) rfl ?_
                refine bh_goto (tgt := 56) C dX1_addFlight_144 (by decide) ?_
                exact bh_lv [0, 1, 4, 5] rfl (ih a (g + 1) (by omega) (by omega) (by omega) hA9 (fun j hj => by rcases Nat.lt_succ_iff_lt_or_eq.mp hj with q | q; exact hG9 j q; rw [q]; exact (by first | exact fun z => c_94 z.1 | exact fun z => absurd ((bh_apart (MI_dep hI g) hd9).mpr z.2).1 (Int32.not_lt.mpr c_101) | exact fun z => absurd ((bh_apart (MI_dep hI g) hd9).mpr z.2).2 (Int32.not_lt.mpr c_108))))
              · skip
                refine bh_iload C dX1_addFlight_97 0 rfl ?_
                refine bh_bipush (v := 60) C dX1_addFlight_99 (by decide) ?_
                refine bh_icmp_ge (tgt := 115) C dX1_addFlight_101 (by decide) (fun c_101 => ?_) (fun c_101 => ?_)
                · skip
                  refine bh_iconst (v := 0) C dX1_addFlight_115 (by decide) ?_
                  refine bh_istore (lv' := [(5, .int 0), (4, .int ((nI (mq_now M) + x) - (mq_dep M g))), (3, .int (nI g)), (2, .int (nI a)), (0, .ref (bd 0)), (1, .int x)]) C dX1_addFlight_116 (by decide) rfl ?_
                  refine bh_iload_n C dX1_addFlight_118 rfl 3 rfl ?_
                  refine bh_iload C dX1_addFlight_119 0 rfl ?_
                  refine bh_if_eq (tgt := 128) C dX1_addFlight_121 (by decide) (fun c_121 => ?_) (fun c_121 => absurd c_121 (by decide))
                  refine bh_iconst (v := 0) C dX1_addFlight_128 (by decide) ?_
                  refine bh_iadd C dX1_addFlight_129 ?_
                  refine bh_topi (Int32.add_zero _) ?_
                  refine bh_istore_n (lv' := [(2, .int (nI a)), (5, .int 0), (4, .int ((nI (mq_now M) + x) - (mq_dep M g))), (3, .int (nI g)), (0, .ref (bd 0)), (1, .int x)]) C dX1_addFlight_130 rfl (by decide) rfl ?_
                  refine bh_iload C dX1_addFlight_131 1 rfl ?_
                  refine bh_if_eq (tgt := 140) C dX1_addFlight_133 (by decide) (fun c_133 => ?_) (fun c_133 => absurd c_133 (by decide))
                  refine bh_iload_n C dX1_addFlight_140 rfl 3 rfl ?_
                  refine bh_iconst (v := 1) C dX1_addFlight_141 (by decide) ?_
                  refine bh_iadd C dX1_addFlight_142 ?_
                  refine bh_topi (nI_1 _) ?_
                  refine bh_istore_n (lv' := [(3, .int (nI (g + 1))), (2, .int (nI a)), (5, .int 0), (4, .int ((nI (mq_now M) + x) - (mq_dep M g))), (0, .ref (bd 0)), (1, .int x)]) C dX1_addFlight_143 rfl (by decide) rfl ?_
                  refine bh_goto (tgt := 56) C dX1_addFlight_144 (by decide) ?_
                  exact bh_lv [0, 1, 4, 5] rfl (ih a (g + 1) (by omega) (by omega) (by omega) hA9 (fun j hj => by rcases Nat.lt_succ_iff_lt_or_eq.mp hj with q | q; exact hG9 j q; rw [q]; exact (by first | exact fun z => c_94 z.1 | exact fun z => absurd ((bh_apart (MI_dep hI g) hd9).mpr z.2).1 (Int32.not_lt.mpr c_101) | exact fun z => absurd ((bh_apart (MI_dep hI g) hd9).mpr z.2).2 (Int32.not_lt.mpr c_108))))
                · skip
                  refine bh_iload C dX1_addFlight_104 0 rfl ?_
                  refine bh_bipush (v := (-60)) C dX1_addFlight_106 (by decide) ?_
                  refine bh_icmp_le (tgt := 115) C dX1_addFlight_108 (by decide) (fun c_108 => ?_) (fun c_108 => ?_)
                  · skip
                    refine bh_iconst (v := 0) C dX1_addFlight_115 (by decide) ?_
                    refine bh_istore (lv' := [(5, .int 0), (4, .int ((nI (mq_now M) + x) - (mq_dep M g))), (3, .int (nI g)), (2, .int (nI a)), (0, .ref (bd 0)), (1, .int x)]) C dX1_addFlight_116 (by decide) rfl ?_
                    refine bh_iload_n C dX1_addFlight_118 rfl 3 rfl ?_
                    refine bh_iload C dX1_addFlight_119 0 rfl ?_
                    refine bh_if_eq (tgt := 128) C dX1_addFlight_121 (by decide) (fun c_121 => ?_) (fun c_121 => absurd c_121 (by decide))
                    refine bh_iconst (v := 0) C dX1_addFlight_128 (by decide) ?_
                    refine bh_iadd C dX1_addFlight_129 ?_
                    refine bh_topi (Int32.add_zero _) ?_
                    refine bh_istore_n (lv' := [(2, .int (nI a)), (5, .int 0), (4, .int ((nI (mq_now M) + x) - (mq_dep M g))), (3, .int (nI g)), (0, .ref (bd 0)), (1, .int x)]) C dX1_addFlight_130 rfl (by decide) rfl ?_
                    refine bh_iload C dX1_addFlight_131 1 rfl ?_
                    refine bh_if_eq (tgt := 140) C dX1_addFlight_133 (by decide) (fun c_133 => ?_) (fun c_133 => absurd c_133 (by decide))
                    refine bh_iload_n C dX1_addFlight_140 rfl 3 rfl ?_
                    refine bh_iconst (v := 1) C dX1_addFlight_141 (by decide) ?_
                    refine bh_iadd C dX1_addFlight_142 ?_
                    refine bh_topi (nI_1 _) ?_
                    refine bh_istore_n (lv' := [(3, .int (nI (g + 1))), (2, .int (nI a)), (5, .int 0), (4, .int ((nI (mq_now M) + x) - (mq_dep M g))), (0, .ref (bd 0)), (1, .int x)]) C dX1_addFlight_143 rfl (by decide) rfl ?_
                    refine bh_goto (tgt := 56) C dX1_addFlight_144 (by decide) ?_
                    exact bh_lv [0, 1, 4, 5] rfl (ih a (g + 1) (by omega) (by omega) (by omega) hA9 (fun j hj => by rcases Nat.lt_succ_iff_lt_or_eq.mp hj with q | q; exact hG9 j q; rw [q]; exact (by first | exact fun z => c_94 z.1 | exact fun z => absurd ((bh_apart (MI_dep hI g) hd9).mpr z.2).1 (Int32.not_lt.mpr c_101) | exact fun z => absurd ((bh_apart (MI_dep hI g) hd9).mpr z.2).2 (Int32.not_lt.mpr c_108))))
                  · skip
                    refine bh_iconst (v := 1) C dX1_addFlight_111 (by decide) ?_
                    refine bh_goto (tgt := 116) C dX1_addFlight_112 (by decide) ?_
                    refine bh_istore (lv' := [(5, .int 1), (4, .int ((nI (mq_now M) + x) - (mq_dep M g))), (3, .int (nI g)), (2, .int (nI a)), (0, .ref (bd 0)), (1, .int x)]) C dX1_addFlight_116 (by decide) rfl ?_
                    refine bh_iload_n C dX1_addFlight_118 rfl 3 rfl ?_
                    refine bh_iload C dX1_addFlight_119 0 rfl ?_
                    refine bh_if_eq (tgt := 128) C dX1_addFlight_121 (by decide) (fun c_121 => absurd c_121 (by decide)) (fun c_121 => ?_)
                    refine bh_iconst (v := 1) C dX1_addFlight_124 (by decide) ?_
                    refine bh_goto (tgt := 129) C dX1_addFlight_125 (by decide) ?_
                    refine bh_iadd C dX1_addFlight_129 ?_
                    refine bh_topi (nI_1 _) ?_
                    refine bh_istore_n (lv' := [(2, .int (nI (a + 1))), (5, .int 1), (4, .int ((nI (mq_now M) + x) - (mq_dep M g))), (3, .int (nI g)), (0, .ref (bd 0)), (1, .int x)]) C dX1_addFlight_130 rfl (by decide) rfl ?_
                    refine bh_iload C dX1_addFlight_131 1 rfl ?_
                    refine bh_if_eq (tgt := 140) C dX1_addFlight_133 (by decide) (fun c_133 => absurd c_133 (by decide)) (fun c_133 => ?_)
                    refine bh_iconst (v := 0) C dX1_addFlight_136 (by decide) ?_
                    refine bh_goto (tgt := 143) C dX1_addFlight_137 (by decide) ?_
                    refine bh_istore_n (lv' := [(3, .int 0), (2, .int (nI (a + 1))), (5, .int 1), (4, .int ((nI (mq_now M) + x) - (mq_dep M g))), (0, .ref (bd 0)), (1, .int x)]) C dX1_addFlight_143 rfl (by decide) rfl ?_
                    refine bh_goto (tgt := 56) C dX1_addFlight_144 (by decide) ?_
                    refine bh_eqlv (lv' := [(3, .int (nI 0)), (2, .int (nI (a + 1))), (5, .int 1), (4, .int ((nI (mq_now M) + x) - (mq_dep M g))), (0, .ref (bd 0)), (1, .int x)]) rfl ?_
                    exact bh_lv [0, 1, 4, 5] rfl (ih (a + 1) 0 (by omega) (by omega) (by omega) (fun i hi => by rcases Nat.lt_succ_iff_lt_or_eq.mp hi with q | q; exact hA9 i q; rw [q]; exact fun z => z g c_61 ⟨c_94, (bh_apart (MI_dep hI g) hd9).mp ⟨bh_nle3 c_101, bh_nle3 c_108⟩⟩) (fun j hj => absurd hj (by omega)))
      exact bh_lv [0, 1, 2, 3] rfl (loop 55 0 0 (by omega) (by omega) (by omega) (fun i hi => absurd hi (by omega)) (fun j hj => absurd hj (by omega)))
    · skip
      have c_28 := (nI_eq (b := 10) (by omega) (by decide)).mp c_28
      refine bh_aload_n C dX1_addFlight_31 rfl 0 rfl ?_
      refine bh_iconst (v := 2) C dX1_addFlight_32 (by decide) ?_
      refine bh_eqw (w' := wh_modl cI bd M 0) rfl ?_
      refine bh_calli_0 (As := [.int 2]) C (ct_X1_fails l D cI cZ cL bd M 0 2) (cwV 1 C.1.2.2.2.2 gX1_addFlight_X1_fails rfl rfl rfl (by decide +kernel) ⟨Nat.le_of_ble_eq_true rfl, Nat.le_of_ble_eq_true rfl⟩) (ci := 1) rfl 0 rfl rfl rfl (Nat.le_of_ble_eq_true rfl) dX1_addFlight_33 ⟨Nat.le_of_ble_eq_true rfl, Nat.le_of_ble_eq_true rfl⟩ (fun r_33 u_33 hp_33 => ?_)
      subst hp_33
      exact bh_zret C hQ dX1_addFlight_36 () (v := 0) (w := wh_modl cI bd M 2) (wh_sel1 (d := 2) (show co_add M x = 2 from ((if_neg (bh_yR2 (n := 1000) c_13)).trans (if_pos (by omega)))) (by decide)).symm rfl (Nat.le_of_ble_eq_true rfl) (Nat.le_of_ble_eq_true rfl) (fun z => absurd (z.symm.trans (show co_add M x = 2 from ((if_neg (bh_yR2 (n := 1000) c_13)).trans (if_pos (by omega))))) (by decide))
  · skip
    replace c_13 := bh_eq0 c_13
    refine bh_aload_n C dX1_addFlight_16 rfl 0 rfl ?_
    refine bh_iconst (v := 1) C dX1_addFlight_17 (by decide) ?_
    refine bh_eqw (w' := wh_modl cI bd M 0) rfl ?_
    refine bh_calli_0 (As := [.int 1]) C (ct_X1_fails l D cI cZ cL bd M 0 1) (cwV 1 C.1.2.2.2.2 gX1_addFlight_X1_fails rfl rfl rfl (by decide +kernel) ⟨Nat.le_of_ble_eq_true rfl, Nat.le_of_ble_eq_true rfl⟩) (ci := 1) rfl 0 rfl rfl rfl (Nat.le_of_ble_eq_true rfl) dX1_addFlight_18 ⟨Nat.le_of_ble_eq_true rfl, Nat.le_of_ble_eq_true rfl⟩ (fun r_18 u_18 hp_18 => ?_)
    subst hp_18
    exact bh_zret C hQ dX1_addFlight_21 () (v := 0) (w := wh_modl cI bd M 1) (wh_sel1 (d := 1) (show co_add M x = 1 from (if_pos (bh_nR2 (n := 1000) c_13))) (by decide)).symm rfl (Nat.le_of_ble_eq_true rfl) (Nat.le_of_ble_eq_true rfl) (fun z => absurd (z.symm.trans (show co_add M x = 1 from (if_pos (bh_nR2 (n := 1000) c_13)))) (by decide))
