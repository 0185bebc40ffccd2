theorem ct_X0_firstToLeaveStore_in : ∀ w ∈ wsX00, w ∈ wsX0_firstToLeaveStore := by decide +kernel
set_option maxRecDepth 100000 in
set_option maxHeartbeats 4000000 in
theorem ct_X0_firstToLeaveStore (l : Launch) (D : va_G) (cI cZ cL : ClassId) (ad : Nat → Nat) {K T : Nat} (M : MT) (hI : MI K T M) : bh_Mi l D (wh_tys cI cZ cL) yX0_firstToLeaveStore wsX0_firstToLeaveStore ({ frames := 1, cells := 0, slots := 0, locals := 21 } : Room) [.ref (ad 0)] (wh_hall cI cZ ad M) (fun r (_ : Unit) => r = mo_first M (mq_bc M)) (fun _ => wh_hall cI cZ ad M) 0 0 := by
  refine bh_ofi (cc := cX0_firstToLeaveStore) (maxL := 3) (by decide +kernel) rfl (Nat.le_of_ble_eq_true rfl) ?_
  intro p e s m args below meth c A Q _ C hQ
  refine bh_eqlv (lv' := [(0, .ref (ad 0))]) rfl ?_
  have hfc := MI_fc hI; have hbc := MI_bc hI; have hsc := MI_sc hI; have hnow := MI_now2 hI
  have hat5 := mo_at_le M 5
  refine bh_aload_n C dX0_firstToLeaveStore_0 rfl 0 rfl ?_
  refine bh_get C ct_X0_firstToLeaveStore_in 0 rfl rfl 12 (by decide) (by decide +kernel) rfl (v := .ref (ad 12)) rfl dX0_firstToLeaveStore_1 ?_
  refine bh_iconst (v := 5) C dX0_firstToLeaveStore_4 (by decide) ?_
  refine bh_iald C 10 0 (f := (mq_at M)) rfl rfl (i := 5) (vp_in_nI (n := 5) (by decide) (by decide)) (x := (nI (mo_at M 5))) (MI_at5 hI) dX0_firstToLeaveStore_5 ?_
  refine bh_if_ne (tgt := 11) C dX0_firstToLeaveStore_6 (by decide) (fun c_6 => ?_) (fun c_6 => ?_)
  · skip
    refine bh_iconst (v := (-1)) C dX0_firstToLeaveStore_11 (by decide) ?_
    refine bh_istore_n (lv' := [(1, .int (-1)), (0, .ref (ad 0))]) C dX0_firstToLeaveStore_12 rfl (by decide) rfl ?_
    refine bh_iconst (v := 0) C dX0_firstToLeaveStore_13 (by decide) ?_
    refine bh_istore_n (lv' := [(2, .int 0), (1, .int (-1)), (0, .ref (ad 0))]) C dX0_firstToLeaveStore_14 rfl (by decide) rfl ?_
    have loop : ∀ (n : Nat) (k : Nat), mq_bc M + 1 ≤ k + n → k ≤ mq_bc M → bh_W p l e ({ frames := 1, cells := 0, slots := 0, locals := 21 } : Room) s m args below meth c 3 D A 0 0 Q (wh_hall cI cZ ad M) ([(2, .int (nI k)), (1, .int (mo_first M k)), (0, .ref (ad 0))]) 15 [] := by
      intro n
      induction n with
      | zero => intro k h1 h2; exact absurd h1 (by omega)
      | succ n ih =>
        intro k h1 h2
        refine bh_iload_n C dX0_firstToLeaveStore_15 rfl 0 rfl ?_
        refine bh_aload_n C dX0_firstToLeaveStore_16 rfl 2 rfl ?_
        refine bh_get C ct_X0_firstToLeaveStore_in 0 rfl rfl 5 (by decide) (by decide +kernel) rfl (v := .int (nI (mq_bc M))) rfl dX0_firstToLeaveStore_17 ?_
        refine bh_icmp_ge (tgt := 74) C dX0_firstToLeaveStore_20 (by decide) (fun c_20 => ?_) (fun c_20 => ?_)
        · skip
          have c_20 := bh_le (by omega) (by omega) c_20
          have hkb : k = mq_bc M := by omega
          refine bh_iload_n C dX0_firstToLeaveStore_74 rfl 1 rfl ?_
          exact bh_zret C hQ dX0_firstToLeaveStore_75 () (v := (mo_first M k)) (w := wh_hall cI cZ ad M) rfl rfl (Nat.le_of_ble_eq_true rfl) (Nat.le_of_ble_eq_true rfl) (by rw [hkb])
        · skip
          have c_20 := bh_nle2 (by omega) (by omega) c_20
          refine bh_aload_n C dX0_firstToLeaveStore_23 rfl 2 rfl ?_
          refine bh_get C ct_X0_firstToLeaveStore_in 0 rfl rfl 9 (by decide) (by decide +kernel) rfl (v := .ref (ad 9)) rfl dX0_firstToLeaveStore_24 ?_
          refine bh_iload_n C dX0_firstToLeaveStore_27 rfl 0 rfl ?_
          refine bh_iald C 7 0 (f := (mq_pl M)) rfl rfl (i := (nI k)) (vp_in_nI (n := k) (by omega) (by decide)) (x := ((mq_pl M) k)) (congrArg (mq_pl M) (nI_clamp (n := k) (by omega))) dX0_firstToLeaveStore_28 ?_
          refine bh_iconst (v := 5) C dX0_firstToLeaveStore_29 (by decide) ?_
          refine bh_icmp_ne (tgt := 68) C dX0_firstToLeaveStore_30 (by decide) (fun c_30 => ?_) (fun c_30 => ?_)
          · skip
            refine bh_iinc (v := (nI (k + 1))) (lv' := [(2, .int (nI (k + 1))), (1, .int (mo_first M k)), (0, .ref (ad 0))]) C dX0_firstToLeaveStore_68 (k := 0) rfl (nI_1 _) (by decide) rfl ?_
            refine bh_goto (tgt := 15) C dX0_firstToLeaveStore_71 (by decide) ?_
            refine bh_eqlv (lv' := [(2, .int (nI (k + 1))), (1, .int (mo_first M (k + 1))), (0, .ref (ad 0))]) (by rw [(show mo_first M (k + 1) = mo_first M k from if_neg (by first | exact fun z => c_30 z.1.1 | exact fun z => c_43 z.1.2 | exact fun z => z.2.elim c_48 (fun q => absurd c_63 (Int32.not_le.mpr q))))]) ?_
            exact bh_lv [0, 1, 2] rfl (ih (k + 1) (by omega) (by omega))
          · skip
            refine bh_aload_n C dX0_firstToLeaveStore_33 rfl 2 rfl ?_
            refine bh_aload_n C dX0_firstToLeaveStore_34 rfl 2 rfl ?_
            refine bh_get C ct_X0_firstToLeaveStore_in 0 rfl rfl 6 (by decide) (by decide +kernel) rfl (v := .ref (ad 6)) rfl dX0_firstToLeaveStore_35 ?_
            refine bh_iload_n C dX0_firstToLeaveStore_38 rfl 0 rfl ?_
            refine bh_iald C 4 0 (f := (mq_bf M)) rfl rfl (i := (nI k)) (vp_in_nI (n := k) (by omega) (by decide)) (x := ((mq_bf M) k)) (congrArg (mq_bf M) (nI_clamp (n := k) (by omega))) dX0_firstToLeaveStore_39 ?_
            refine bh_calli_0 (As := [.int ((mq_bf M) k)]) C (ct_X0_hasOpened l D cI cZ cL ad M ((mq_bf M) k) (MI_bf hI _)) (cwV 1 C.1.2.2.2.2 gX0_firstToLeaveStore_X0_hasOpened rfl rfl rfl (by decide +kernel) ⟨Nat.le_of_ble_eq_true rfl, Nat.le_of_ble_eq_true rfl⟩) (ci := 0) rfl 0 rfl rfl rfl (Nat.le_of_ble_eq_true rfl) dX0_firstToLeaveStore_40 ⟨Nat.le_of_ble_eq_true rfl, Nat.le_of_ble_eq_true rfl⟩ (fun r_40 u_40 hp_40 => ?_)
            subst hp_40
            refine bh_if_eq (tgt := 68) C dX0_firstToLeaveStore_43 (by decide) (fun c_43 => ?_) (fun c_43 => ?_)
            · skip
              replace c_43 := bh_eq0 c_43
              refine bh_iinc (v := (nI (k + 1))) (lv' := [(2, .int (nI (k + 1))), (1, .int (mo_first M k)), (0, .ref (ad 0))]) C dX0_firstToLeaveStore_68 (k := 0) rfl (nI_1 _) (by decide) rfl ?_
              refine bh_goto (tgt := 15) C dX0_firstToLeaveStore_71 (by decide) ?_
              refine bh_eqlv (lv' := [(2, .int (nI (k + 1))), (1, .int (mo_first M (k + 1))), (0, .ref (ad 0))]) (by rw [(show mo_first M (k + 1) = mo_first M k from if_neg (by first | exact fun z => c_30 z.1.1 | exact fun z => c_43 z.1.2 | exact fun z => z.2.elim c_48 (fun q => absurd c_63 (Int32.not_le.mpr q))))]) ?_
              exact bh_lv [0, 1, 2] rfl (ih (k + 1) (by omega) (by omega))
            · skip
              replace c_43 := bh_ne0 c_43
              refine bh_iload_n C dX0_firstToLeaveStore_46 rfl 1 rfl ?_
              refine bh_iconst (v := (-1)) C dX0_firstToLeaveStore_47 (by decide) ?_
              refine bh_icmp_eq (tgt := 66) C dX0_firstToLeaveStore_48 (by decide) (fun c_48 => ?_) (fun c_48 => ?_)
              · skip
                refine bh_iload_n C dX0_firstToLeaveStore_66 rfl 0 rfl ?_
                refine bh_istore_n (lv' := [(1, .int (nI k)), (2, .int (nI k)), (0, .ref (ad 0))]) C dX0_firstToLeaveStore_67 rfl (by decide) rfl ?_
                refine bh_iinc (v := (nI (k + 1))) (lv' := [(2, .int (nI (k + 1))), (1, .int (nI k)), (0, .ref (ad 0))]) C dX0_firstToLeaveStore_68 (k := 1) rfl (nI_1 _) (by decide) rfl ?_
                refine bh_goto (tgt := 15) C dX0_firstToLeaveStore_71 (by decide) ?_
                refine bh_eqlv (lv' := [(2, .int (nI (k + 1))), (1, .int (mo_first M (k + 1))), (0, .ref (ad 0))]) (by rw [(show mo_first M (k + 1) = nI k from if_pos ⟨⟨c_30, c_43⟩, by first | exact Or.inl c_48 | exact Or.inr (bh_nle3 c_63)⟩)]) ?_
                exact bh_lv [0, 1, 2] rfl (ih (k + 1) (by omega) (by omega))
              · skip
                refine bh_aload_n C dX0_firstToLeaveStore_51 rfl 2 rfl ?_
                refine bh_get C ct_X0_firstToLeaveStore_in 0 rfl rfl 10 (by decide) (by decide +kernel) rfl (v := .ref (ad 10)) rfl dX0_firstToLeaveStore_52 ?_
                refine bh_iload_n C dX0_firstToLeaveStore_55 rfl 0 rfl ?_
                refine bh_iald C 8 0 (f := (mq_ls M)) rfl rfl (i := (nI k)) (vp_in_nI (n := k) (by omega) (by decide)) (x := ((mq_ls M) k)) (congrArg (mq_ls M) (nI_clamp (n := k) (by omega))) dX0_firstToLeaveStore_56 ?_
                refine bh_aload_n C dX0_firstToLeaveStore_57 rfl 2 rfl ?_
                refine bh_get C ct_X0_firstToLeaveStore_in 0 rfl rfl 10 (by decide) (by decide +kernel) rfl (v := .ref (ad 10)) rfl dX0_firstToLeaveStore_58 ?_
                refine bh_iload_n C dX0_firstToLeaveStore_61 rfl 1 rfl ?_
                refine bh_iald C 8 0 (f := (mq_ls M)) rfl rfl (i := (mo_first M k)) (mo_first_in M k c_48 (by omega)) (x := ((mq_ls M) (mo_first M k).toNatClampNeg)) rfl dX0_firstToLeaveStore_62 ?_
                refine bh_icmp_ge (tgt := 68) C dX0_firstToLeaveStore_63 (by decide) (fun c_63 => ?_) (fun c_63 => ?_)
                · skip
                  refine bh_iinc (v := (nI (k + 1))) (lv' := [(2, .int (nI (k + 1))), (1, .int (mo_first M k)), (0, .ref (ad 0))]) C dX0_firstToLeaveStore_68 (k := 0) rfl (nI_1 _) (by decide) rfl ?_
                  refine bh_goto (tgt := 15) C dX0_firstToLeaveStore_71 (by decide) ?_
                  refine bh_eqlv (lv' := [(2, .int (nI (k + 1))), (1, .int (mo_first M (k + 1))), (0, .ref (ad 0))]) (by rw [(show mo_first M (k + 1) = mo_first M k from if_neg (by first | exact fun z => c_30 z.1.1 | exact fun z => c_43 z.1.2 | exact fun z => z.2.elim c_48 (fun q => absurd c_63 (Int32.not_le.mpr q))))]) ?_
                  exact bh_lv [0, 1, 2] rfl (ih (k + 1) (by omega) (by omega))
                · skip
                  refine bh_iload_n C dX0_firstToLeaveStore_66 rfl 0 rfl ?_
                  refine bh_istore_n (lv' := [(1, .int (nI k)), (2, .int (nI k)), (0, .ref (ad 0))]) C dX0_firstToLeaveStore_67 rfl (by decide) rfl ?_
                  refine bh_iinc (v := (nI (k + 1))) (lv' := [(2, .int (nI (k + 1))), (1, .int (nI k)), (0, .ref (ad 0))]) C dX0_firstToLeaveStore_68 (k := 1) rfl (nI_1 _) (by decide) rfl ?_
                  refine bh_goto (tgt := 15) C dX0_firstToLeaveStore_71 (by decide) ?_
                  refine bh_eqlv (lv' := [(2, .int (nI (k + 1))), (1, .int (mo_first M (k + 1))), (0, .ref (ad 0))]) (by rw [(show mo_first M (k + 1) = nI k from if_pos ⟨⟨c_30, c_43⟩, by first | exact Or.inl c_48 | exact Or.inr (bh_nle3 c_63)⟩)]) ?_
                  exact bh_lv [0, 1, 2] rfl (ih (k + 1) (by omega) (by omega))
    exact bh_lv [0, 1, 2] rfl (loop (mq_bc M + 1) 0 (by omega) (by omega))
  · skip
    refine bh_iconst (v := (-1)) C dX0_firstToLeaveStore_9 (by decide) ?_
    exact bh_zret C hQ dX0_firstToLeaveStore_10 () (v := (-1)) (w := wh_hall cI cZ ad M) rfl rfl (Nat.le_of_ble_eq_true rfl) (Nat.le_of_ble_eq_true rfl) (mo_first_none hI (bh_nI0 (by omega) c_6)).symm
set_option maxRecDepth 100000 in
set_option maxHeartbeats 4000000 in
theorem ct_X0_emptyStore (l : Launch) (D : va_G) (cI cZ cL : ClassId) (ad : Nat → Nat) {K T : Nat} (M : MT) (hI : MI K T M) : bh_Mv l D (wh_tys cI cZ cL) yX0_emptyStore wsX0_emptyStore ({ frames := 2, cells := 0, slots := 0, locals := 44 } : Room) [.ref (ad 0)] (wh_hall cI cZ ad M) (fun (_ : Unit) => True) (fun _ => wh_hall cI cZ ad (mo_empt M)) 0 0 := by
  refine bh_ofv (cc := cX0_emptyStore) (maxL := 3) (by decide +kernel) rfl (Nat.le_of_ble_eq_true rfl) ?_
  intro p e s m args below meth c A Q _ C hQ
  refine bh_eqlv (lv' := [(0, .ref (ad 0))]) rfl ?_
  have hfc := MI_fc hI; have hbc := MI_bc hI; have hsc := MI_sc hI; have hnow := MI_now2 hI
  refine bh_iconst (v := 0) C dX0_emptyStore_0 (by decide) ?_
  refine bh_istore_n (lv' := [(1, .int 0), (0, .ref (ad 0))]) C dX0_emptyStore_1 rfl (by decide) rfl ?_
  have hI0 := hI
  refine bh_iload_n C dX0_emptyStore_2 rfl 0 rfl ?_
  refine bh_iconst (v := 3) C dX0_emptyStore_3 (by decide) ?_
  refine bh_icmp_ge (tgt := 31) C dX0_emptyStore_4 (by decide) (fun c_4 => absurd c_4 (by decide)) (fun c_4 => ?_)
  refine bh_aload_n C dX0_emptyStore_7 rfl 1 rfl ?_
  refine bh_calli_0 (As := []) C (ct_X0_firstToLeaveStore l D cI cZ cL ad M hI0) (cwV 0 C.1.2.2.2.2 gX0_emptyStore_X0_firstToLeaveStore rfl rfl rfl (by decide +kernel) ⟨Nat.le_of_ble_eq_true rfl, Nat.le_of_ble_eq_true rfl⟩) (ci := 0) rfl 0 rfl rfl rfl (Nat.le_of_ble_eq_true rfl) dX0_emptyStore_8 ⟨Nat.le_of_ble_eq_true rfl, Nat.le_of_ble_eq_true rfl⟩ (fun r_8 u_8 hp_8 => ?_)
  subst hp_8
  rcases mo_first_or M (mq_bc M) with q_0 | ⟨j_0, hj_0, q_0, -⟩
  · refine bh_topi q_0 ?_
    refine bh_istore_n (lv' := [(2, .int (-1)), (1, .int 0), (0, .ref (ad 0))]) C dX0_emptyStore_11 rfl (by decide) rfl ?_
    refine bh_iload_n C dX0_emptyStore_12 rfl 0 rfl ?_
    refine bh_iconst (v := (-1)) C dX0_emptyStore_13 (by decide) ?_
    refine bh_icmp_ne (tgt := 18) C dX0_emptyStore_14 (by decide) (fun c_14 => absurd c_14 (by decide)) (fun c_14 => ?_)
    exact bh_vret C hQ dX0_emptyStore_17 () (w := wh_hall cI cZ ad M) (by rw [mo_empt, mo_emp_none q_0, mo_emp_none q_0, mo_emp_none q_0]) (Nat.le_of_ble_eq_true rfl) (Nat.le_of_ble_eq_true rfl) trivial
  · refine bh_topi q_0 ?_
    refine bh_istore_n (lv' := [(2, .int (nI j_0)), (1, .int 0), (0, .ref (ad 0))]) C dX0_emptyStore_11 rfl (by decide) rfl ?_
    have hb_0 := MI_bc hI0
    refine bh_iload_n C dX0_emptyStore_12 rfl 0 rfl ?_
    refine bh_iconst (v := (-1)) C dX0_emptyStore_13 (by decide) ?_
    refine bh_icmp_ne (tgt := 18) C dX0_emptyStore_14 (by decide) (fun c_14 => ?_) (fun c_14 => absurd c_14 (bh_nm1 (by omega)))
    refine bh_aload_n C dX0_emptyStore_18 rfl 2 rfl ?_
    refine bh_iload_n C dX0_emptyStore_19 rfl 0 rfl ?_
    refine bh_bipush (v := 7) C dX0_emptyStore_20 (by decide) ?_
    refine bh_callv_0 (As := [.int (nI j_0), .int 7]) C (ct_X0_bring l D cI cZ cL ad M j_0 7 (by omega) (vp_in_nI (n := 7) (by decide) (by decide)) (MI_pl hI0 _) (MI_room hI0 (by omega) (mo_first_phi q_0 (by omega) (by omega)))) (cwV 2 C.1.2.2.2.2 gX0_emptyStore_X0_bring rfl rfl rfl (by decide +kernel) ⟨Nat.le_of_ble_eq_true rfl, Nat.le_of_ble_eq_true rfl⟩) (ci := 0) rfl 0 rfl rfl rfl (Nat.le_of_ble_eq_true rfl) dX0_emptyStore_22 ⟨Nat.le_of_ble_eq_true rfl, Nat.le_of_ble_eq_true rfl⟩ (fun u_22 hp_22 => ?_)
    refine bh_eqw (w' := wh_hall cI cZ ad (mo_emp M)) (by rw [mo_emp_some (by omega) q_0]) ?_
    refine bh_iinc (v := (0 + 1)) (lv' := [(1, .int (0 + 1)), (2, .int (nI j_0)), (0, .ref (ad 0))]) C dX0_emptyStore_25 (k := 1) rfl rfl (by decide) rfl ?_
    refine bh_goto (tgt := 2) C dX0_emptyStore_28 (by decide) ?_
    have hI1 := MI_emp hI0
    refine bh_lv (lv' := [(1, .int 1), (0, .ref (ad 0))]) [0, 2] rfl ?_
    refine bh_iload_n C dX0_emptyStore_2 rfl 0 rfl ?_
    refine bh_iconst (v := 3) C dX0_emptyStore_3 (by decide) ?_
    refine bh_icmp_ge (tgt := 31) C dX0_emptyStore_4 (by decide) (fun c_4 => absurd c_4 (by decide)) (fun c_4 => ?_)
    refine bh_aload_n C dX0_emptyStore_7 rfl 1 rfl ?_
    refine bh_calli_0 (As := []) C (ct_X0_firstToLeaveStore l D cI cZ cL ad (mo_emp M) hI1) (cwV 0 C.1.2.2.2.2 gX0_emptyStore_X0_firstToLeaveStore rfl rfl rfl (by decide +kernel) ⟨Nat.le_of_ble_eq_true rfl, Nat.le_of_ble_eq_true rfl⟩) (ci := 0) rfl 0 rfl rfl rfl (Nat.le_of_ble_eq_true rfl) dX0_emptyStore_8 ⟨Nat.le_of_ble_eq_true rfl, Nat.le_of_ble_eq_true rfl⟩ (fun r_8 u_8 hp_8 => ?_)
    subst hp_8
    rcases mo_first_or (mo_emp M) (mq_bc (mo_emp M)) with q_1 | ⟨j_1, hj_1, q_1, -⟩
    · refine bh_topi q_1 ?_
      refine bh_istore_n (lv' := [(2, .int (-1)), (1, .int 1), (0, .ref (ad 0))]) C dX0_emptyStore_11 rfl (by decide) rfl ?_
      refine bh_iload_n C dX0_emptyStore_12 rfl 0 rfl ?_
      refine bh_iconst (v := (-1)) C dX0_emptyStore_13 (by decide) ?_
      refine bh_icmp_ne (tgt := 18) C dX0_emptyStore_14 (by decide) (fun c_14 => absurd c_14 (by decide)) (fun c_14 => ?_)
      exact bh_vret C hQ dX0_emptyStore_17 () (w := wh_hall cI cZ ad (mo_emp M)) (by rw [mo_empt, mo_emp_none q_1, mo_emp_none q_1]) (Nat.le_of_ble_eq_true rfl) (Nat.le_of_ble_eq_true rfl) trivial
    · refine bh_topi q_1 ?_
      refine bh_istore_n (lv' := [(2, .int (nI j_1)), (1, .int 1), (0, .ref (ad 0))]) C dX0_emptyStore_11 rfl (by decide) rfl ?_
      have hb_1 := MI_bc hI1
      refine bh_iload_n C dX0_emptyStore_12 rfl 0 rfl ?_
      refine bh_iconst (v := (-1)) C dX0_emptyStore_13 (by decide) ?_
      refine bh_icmp_ne (tgt := 18) C dX0_emptyStore_14 (by decide) (fun c_14 => ?_) (fun c_14 => absurd c_14 (bh_nm1 (by omega)))
      refine bh_aload_n C dX0_emptyStore_18 rfl 2 rfl ?_
      refine bh_iload_n C dX0_emptyStore_19 rfl 0 rfl ?_
      refine bh_bipush (v := 7) C dX0_emptyStore_20 (by decide) ?_
      refine bh_callv_0 (As := [.int (nI j_1), .int 7]) C (ct_X0_bring l D cI cZ cL ad (mo_emp M) j_1 7 (by omega) (vp_in_nI (n := 7) (by decide) (by decide)) (MI_pl hI1 _) (MI_room hI1 (by omega) (mo_first_phi q_1 (by omega) (by omega)))) (cwV 2 C.1.2.2.2.2 gX0_emptyStore_X0_bring rfl rfl rfl (by decide +kernel) ⟨Nat.le_of_ble_eq_true rfl, Nat.le_of_ble_eq_true rfl⟩) (ci := 0) rfl 0 rfl rfl rfl (Nat.le_of_ble_eq_true rfl) dX0_emptyStore_22 ⟨Nat.le_of_ble_eq_true rfl, Nat.le_of_ble_eq_true rfl⟩ (fun u_22 hp_22 => ?_)
      refine bh_eqw (w' := wh_hall cI cZ ad (mo_emp (mo_emp M))) (by rw [mo_emp_some (by omega) q_1]) ?_
      refine bh_iinc (v := (1 + 1)) (lv' := [(1, .int (1 + 1)), (2, .int (nI j_1)), (0, .ref (ad 0))]) C dX0_emptyStore_25 (k := 1) rfl rfl (by decide) rfl ?_
      refine bh_goto (tgt := 2) C dX0_emptyStore_28 (by decide) ?_
      have hI2 := MI_emp hI1
      refine bh_lv (lv' := [(1, .int 2), (0, .ref (ad 0))]) [0, 2] rfl ?_
      refine bh_iload_n C dX0_emptyStore_2 rfl 0 rfl ?_
      refine bh_iconst (v := 3) C dX0_emptyStore_3 (by decide) ?_
      refine bh_icmp_ge (tgt := 31) C dX0_emptyStore_4 (by decide) (fun c_4 => absurd c_4 (by decide)) (fun c_4 => ?_)
      refine bh_aload_n C dX0_emptyStore_7 rfl 1 rfl ?_
      refine bh_calli_0 (As := []) C (ct_X0_firstToLeaveStore l D cI cZ cL ad (mo_emp (mo_emp M)) hI2) (cwV 0 C.1.2.2.2.2 gX0_emptyStore_X0_firstToLeaveStore rfl rfl rfl (by decide +kernel) ⟨Nat.le_of_ble_eq_true rfl, Nat.le_of_ble_eq_true rfl⟩) (ci := 0) rfl 0 rfl rfl rfl (Nat.le_of_ble_eq_true rfl) dX0_emptyStore_8 ⟨Nat.le_of_ble_eq_true rfl, Nat.le_of_ble_eq_true rfl⟩ (fun r_8 u_8 hp_8 => ?_)
      subst hp_8
      rcases mo_first_or (mo_emp (mo_emp M)) (mq_bc (mo_emp (mo_emp M))) with q_2 | ⟨j_2, hj_2, q_2, -⟩
      · refine bh_topi q_2 ?_
        refine bh_istore_n (lv' := [(2, .int (-1)), (1, .int 2), (0, .ref (ad 0))]) C dX0_emptyStore_11 rfl (by decide) rfl ?_
        refine bh_iload_n C dX0_emptyStore_12 rfl 0 rfl ?_
        refine bh_iconst (v := (-1)) C dX0_emptyStore_13 (by decide) ?_
        refine bh_icmp_ne (tgt := 18) C dX0_emptyStore_14 (by decide) (fun c_14 => absurd c_14 (by decide)) (fun c_14 => ?_)
        exact bh_vret C hQ dX0_emptyStore_17 () (w := wh_hall cI cZ ad (mo_emp (mo_emp M))) (by rw [mo_empt, mo_emp_none q_2]) (Nat.le_of_ble_eq_true rfl) (Nat.le_of_ble_eq_true rfl) trivial
      · refine bh_topi q_2 ?_
        refine bh_istore_n (lv' := [(2, .int (nI j_2)), (1, .int 2), (0, .ref (ad 0))]) C dX0_emptyStore_11 rfl (by decide) rfl ?_
        have hb_2 := MI_bc hI2
        refine bh_iload_n C dX0_emptyStore_12 rfl 0 rfl ?_
        refine bh_iconst (v := (-1)) C dX0_emptyStore_13 (by decide) ?_
        refine bh_icmp_ne (tgt := 18) C dX0_emptyStore_14 (by decide) (fun c_14 => ?_) (fun c_14 => absurd c_14 (bh_nm1 (by omega)))
        refine bh_aload_n C dX0_emptyStore_18 rfl 2 rfl ?_
        refine bh_iload_n C dX0_emptyStore_19 rfl 0 rfl ?_
        refine bh_bipush (v := 7) C dX0_emptyStore_20 (by decide) ?_
        refine bh_callv_0 (As := [.int (nI j_2), .int 7]) C (ct_X0_bring l D cI cZ cL ad (mo_emp (mo_emp M)) j_2 7 (by omega) (vp_in_nI (n := 7) (by decide) (by decide)) (MI_pl hI2 _) (MI_room hI2 (by omega) (mo_first_phi q_2 (by omega) (by omega)))) (cwV 2 C.1.2.2.2.2 gX0_emptyStore_X0_bring rfl rfl rfl (by decide +kernel) ⟨Nat.le_of_ble_eq_true rfl, Nat.le_of_ble_eq_true rfl⟩) (ci := 0) rfl 0 rfl rfl rfl (Nat.le_of_ble_eq_true rfl) dX0_emptyStore_22 ⟨Nat.le_of_ble_eq_true rfl, Nat.le_of_ble_eq_true rfl⟩ (fun u_22 hp_22 => ?_)
        refine bh_eqw (w' := wh_hall cI cZ ad (mo_emp (mo_emp (mo_emp M)))) (by rw [mo_emp_some (by omega) q_2]) ?_
        refine bh_iinc (v := (2 + 1)) (lv' := [(1, .int (2 + 1)), (2, .int (nI j_2)), (0, .ref (ad 0))]) C dX0_emptyStore_25 (k := 1) rfl rfl (by decide) rfl ?_
        refine bh_goto (tgt := 2) C dX0_emptyStore_28 (by decide) ?_
        have hI3 := MI_emp hI2
        refine bh_lv (lv' := [(1, .int 3), (0, .ref (ad 0))]) [0, 2] rfl ?_
        refine bh_iload_n C dX0_emptyStore_2 rfl 0 rfl ?_
        refine bh_iconst (v := 3) C dX0_emptyStore_3 (by decide) ?_
        refine bh_icmp_ge (tgt := 31) C dX0_emptyStore_4 (by decide) (fun c_4 => ?_) (fun c_4 => absurd c_4 (by decide))
        exact bh_vret C hQ dX0_emptyStore_31 () (w := wh_hall cI cZ ad (mo_emp (mo_emp (mo_emp M)))) rfl (Nat.le_of_ble_eq_true rfl) (Nat.le_of_ble_eq_true rfl) trivial
theorem ct_X0_routeLoop_in : ∀ w ∈ wsX00, w ∈ wsX0_routeLoop := by decide +kernel
set_option maxRecDepth 100000 in
set_option maxHeartbeats 4000000 in
theorem ct_X0_routeLoop (l : Launch) (D : va_G) (cI cZ cL : ClassId) (ad : Nat → Nat) {K T : Nat} (M : MT) (hI : MI K T M) : bh_Mv l D (wh_tys cI cZ cL) yX0_routeLoop wsX0_routeLoop ({ frames := 4, cells := 0, slots := 0, locals := 85 } : Room) [.ref (ad 0)] (wh_hall cI cZ ad M) (fun (_ : Unit) => True) (fun _ => wh_hall cI cZ ad (mo_loop M)) 0 0 := by
  refine bh_ofv (cc := cX0_routeLoop) (maxL := 2) (by decide +kernel) rfl (Nat.le_of_ble_eq_true rfl) ?_
  intro p e s m args below meth c A Q _ C hQ
  refine bh_eqlv (lv' := [(0, .ref (ad 0))]) rfl ?_
  have hfc := MI_fc hI; have hbc := MI_bc hI; have hsc := MI_sc hI; have hnow := MI_now2 hI
  have hat6 := mo_at_le M 6
  refine bh_aload_n C dX0_routeLoop_0 rfl 0 rfl ?_
  refine bh_get C ct_X0_routeLoop_in 0 rfl rfl 12 (by decide) (by decide +kernel) rfl (v := .ref (ad 12)) rfl dX0_routeLoop_1 ?_
  refine bh_bipush (v := 6) C dX0_routeLoop_4 (by decide) ?_
  refine bh_iald C 10 0 (f := (mq_at M)) rfl rfl (i := 6) (vp_in_nI (n := 6) (by decide) (by decide)) (x := (nI (mo_at M 6))) (MI_at6 hI) dX0_routeLoop_6 ?_
  refine bh_if_ne (tgt := 11) C dX0_routeLoop_7 (by decide) (fun c_7 => ?_) (fun c_7 => ?_)
  · skip
    refine bh_iconst (v := 0) C dX0_routeLoop_11 (by decide) ?_
    refine bh_istore_n (lv' := [(1, .int 0), (0, .ref (ad 0))]) C dX0_routeLoop_12 rfl (by decide) rfl ?_
    have loop : ∀ (n : Nat) (k : Nat), mq_bc M + 1 ≤ k + n → k ≤ mq_bc M → bh_W p l e ({ frames := 4, cells := 0, slots := 0, locals := 85 } : Room) s m args below meth c 2 D A 0 0 Q (wh_hall cI cZ ad (mo_it mo_loop1 M k)) ([(1, .int (nI k)), (0, .ref (ad 0))]) 13 [] := by
      intro n
      induction n with
      | zero => intro k h1 h2; exact absurd h1 (by omega)
      | succ n ih =>
        intro k h1 h2
        have hI9 := MI_loop hI h2
        refine bh_iload_n C dX0_routeLoop_13 rfl 0 rfl ?_
        refine bh_aload_n C dX0_routeLoop_14 rfl 1 rfl ?_
        refine bh_get C ct_X0_routeLoop_in 0 rfl rfl 5 (by decide) (by decide +kernel) rfl (v := .int (nI (mq_bc (mo_it mo_loop1 M k)))) rfl dX0_routeLoop_15 ?_
        refine bh_icmp_ge (tgt := 43) C dX0_routeLoop_18 (by decide) (fun c_18 => ?_) (fun c_18 => ?_)
        · skip
          rw [bc_loop] at c_18
          have c_18 := bh_le (by omega) (by omega) c_18
          have hkb : k = mq_bc M := by omega
          exact bh_vret C hQ dX0_routeLoop_43 () (w := wh_hall cI cZ ad (mo_it mo_loop1 M k)) (by rw [hkb]; rfl) (Nat.le_of_ble_eq_true rfl) (Nat.le_of_ble_eq_true rfl) trivial
        · skip
          rw [bc_loop] at c_18
          have c_18 := bh_nle2 (by omega) (by omega) c_18
          refine bh_aload_n C dX0_routeLoop_21 rfl 1 rfl ?_
          refine bh_get C ct_X0_routeLoop_in 0 rfl rfl 9 (by decide) (by decide +kernel) rfl (v := .ref (ad 9)) rfl dX0_routeLoop_22 ?_
          refine bh_iload_n C dX0_routeLoop_25 rfl 0 rfl ?_
          refine bh_iald C 7 0 (f := (mq_pl (mo_it mo_loop1 M k))) rfl rfl (i := (nI k)) (vp_in_nI (n := k) (by omega) (by decide)) (x := ((mq_pl (mo_it mo_loop1 M k)) k)) (congrArg (mq_pl (mo_it mo_loop1 M k)) (nI_clamp (n := k) (by omega))) dX0_routeLoop_26 ?_
          refine bh_bipush (v := 6) C dX0_routeLoop_27 (by decide) ?_
          refine bh_icmp_ne (tgt := 37) C dX0_routeLoop_29 (by decide) (fun c_29 => ?_) (fun c_29 => ?_)
          · skip
            refine bh_iinc (v := (nI (k + 1))) (lv' := [(1, .int (nI (k + 1))), (0, .ref (ad 0))]) C dX0_routeLoop_37 (k := 0) rfl (nI_1 _) (by decide) rfl ?_
            refine bh_goto (tgt := 13) C dX0_routeLoop_40 (by decide) ?_
            refine bh_eqw (w' := wh_hall cI cZ ad (mo_it mo_loop1 M (k + 1))) (by rw [mo_loop_f c_29]) ?_
            exact bh_lv [0, 1] rfl (ih (k + 1) (by omega) (by omega))
          · skip
            refine bh_aload_n C dX0_routeLoop_32 rfl 1 rfl ?_
            refine bh_iload_n C dX0_routeLoop_33 rfl 0 rfl ?_
            refine bh_callv_0 (As := [.int (nI k)]) C (ct_X0_route l D cI cZ cL ad (mo_it mo_loop1 M k) k hI9 (by omega) (MI_room hI9 (k := k) (by omega) (by rw [c_29]; decide))) (cwV 1 C.1.2.2.2.2 gX0_routeLoop_X0_route rfl rfl rfl (by decide +kernel) ⟨Nat.le_of_ble_eq_true rfl, Nat.le_of_ble_eq_true rfl⟩) (ci := 0) rfl 0 rfl rfl rfl (Nat.le_of_ble_eq_true rfl) dX0_routeLoop_34 ⟨Nat.le_of_ble_eq_true rfl, Nat.le_of_ble_eq_true rfl⟩ (fun u_34 hp_34 => ?_)
            refine bh_eqw (w' := wh_hall cI cZ ad (mo_it mo_loop1 M (k + 1))) (by rw [mo_loop_t c_29]) ?_
            refine bh_iinc (v := (nI (k + 1))) (lv' := [(1, .int (nI (k + 1))), (0, .ref (ad 0))]) C dX0_routeLoop_37 (k := 0) rfl (nI_1 _) (by decide) rfl ?_
            refine bh_goto (tgt := 13) C dX0_routeLoop_40 (by decide) ?_
            exact bh_lv [0, 1] rfl (ih (k + 1) (by omega) (by omega))
    exact bh_lv [0, 1] rfl (loop (mq_bc M + 1) 0 (by omega) (by omega))
  · skip
    exact bh_vret C hQ dX0_routeLoop_10 () (w := wh_hall cI cZ ad M) (by rw [mo_loop_none hI (bh_nI0 (by omega) c_7)]) (Nat.le_of_ble_eq_true rfl) (Nat.le_of_ble_eq_true rfl) trivial
theorem ct_X0_settle_in : ∀ w ∈ wsX00, w ∈ wsX0_settle := by decide +kernel
set_option maxRecDepth 100000 in
set_option maxHeartbeats 4000000 in
theorem ct_X0_settle (l : Launch) (D : va_G) (cI cZ cL : ClassId) (ad : Nat → Nat) {K T : Nat} (M : MT) (k : Nat) (hI : MI K T M) (hk : k < 48) : bh_Mv l D (wh_tys cI cZ cL) yX0_settle wsX0_settle ({ frames := 2, cells := 0, slots := 0, locals := 44 } : Room) [.ref (ad 0), .int (nI k)] (wh_hall cI cZ ad M) (fun (_ : Unit) => True) (fun _ => wh_hall cI cZ ad (mo_settle M k)) 0 0 := by
  refine bh_ofv (cc := cX0_settle) (maxL := 3) (by decide +kernel) rfl (Nat.le_of_ble_eq_true rfl) ?_
  intro p e s m args below meth c A Q _ C hQ
  refine bh_eqlv (lv' := [(0, .ref (ad 0)), (1, .int (nI k))]) rfl ?_
  have hfc := MI_fc hI; have hbc := MI_bc hI; have hsc := MI_sc hI; have hnow := MI_now2 hI
  refine bh_aload_n C dX0_settle_0 rfl 0 rfl ?_
  refine bh_get C ct_X0_settle_in 0 rfl rfl 9 (by decide) (by decide +kernel) rfl (v := .ref (ad 9)) rfl dX0_settle_1 ?_
  refine bh_iload_n C dX0_settle_4 rfl 1 rfl ?_
  refine bh_iald C 7 0 (f := (mq_pl M)) rfl rfl (i := (nI k)) (vp_in_nI (n := k) (by omega) (by decide)) (x := ((mq_pl M) k)) (congrArg (mq_pl M) (nI_clamp (n := k) (by omega))) dX0_settle_5 ?_
  refine bh_istore_n (lv' := [(2, .int ((mq_pl M) k)), (0, .ref (ad 0)), (1, .int (nI k))]) C dX0_settle_6 rfl (by decide) rfl ?_
  refine bh_iload_n C dX0_settle_7 rfl 0 rfl ?_
  refine bh_bipush (v := 8) C dX0_settle_8 (by decide) ?_
  refine bh_icmp_ne (tgt := 36) C dX0_settle_10 (by decide) (fun c_10 => ?_) (fun c_10 => ?_)
  · skip
    refine bh_iload_n C dX0_settle_36 rfl 0 rfl ?_
    refine bh_iconst (v := 5) C dX0_settle_37 (by decide) ?_
    refine bh_icmp_eq (tgt := 53) C dX0_settle_38 (by decide) (fun c_38 => ?_) (fun c_38 => ?_)
    · skip
      refine bh_aload_n C dX0_settle_53 rfl 1 rfl ?_
      refine bh_iload_n C dX0_settle_54 rfl 2 rfl ?_
      refine bh_bipush (v := 11) C dX0_settle_55 (by decide) ?_
      refine bh_callv_0 (As := [.int (nI k), .int 11]) C (ct_X0_bring l D cI cZ cL ad M k 11 hk (vp_in_nI (n := 11) (by decide) (by decide)) (MI_pl hI _) (MI_room hI hk (by first | (rw [c_38]; decide) | (rw [c_44]; decide) | (rw [c_50]; decide)))) (cwV 2 C.1.2.2.2.2 gX0_settle_X0_bring rfl rfl rfl (by decide +kernel) ⟨Nat.le_of_ble_eq_true rfl, Nat.le_of_ble_eq_true rfl⟩) (ci := 0) rfl 0 rfl rfl rfl (Nat.le_of_ble_eq_true rfl) dX0_settle_57 ⟨Nat.le_of_ble_eq_true rfl, Nat.le_of_ble_eq_true rfl⟩ (fun u_57 hp_57 => ?_)
      exact bh_vret C hQ dX0_settle_60 () (w := wh_hall cI cZ ad (mo_bring M k 11)) (congrArg (wh_hall cI cZ ad) (by first | exact (mo_settle_9 c_10 c_20).symm | exact (mo_settle_10 c_10 c_20).symm | exact (mo_settle_11 c_10 (Or.inl c_38)).symm | exact (mo_settle_11 c_10 (Or.inr (Or.inl c_44))).symm | exact (mo_settle_11 c_10 (Or.inr (Or.inr c_50))).symm | exact (mo_settle_0 c_10 (fun z => z.elim c_38 (fun z => z.elim c_44 c_50))).symm)) (Nat.le_of_ble_eq_true rfl) (Nat.le_of_ble_eq_true rfl) trivial
    · skip
      refine bh_iload_n C dX0_settle_41 rfl 0 rfl ?_
      refine bh_bipush (v := 6) C dX0_settle_42 (by decide) ?_
      refine bh_icmp_eq (tgt := 53) C dX0_settle_44 (by decide) (fun c_44 => ?_) (fun c_44 => ?_)
      · skip
        refine bh_aload_n C dX0_settle_53 rfl 1 rfl ?_
        refine bh_iload_n C dX0_settle_54 rfl 2 rfl ?_
        refine bh_bipush (v := 11) C dX0_settle_55 (by decide) ?_
        refine bh_callv_0 (As := [.int (nI k), .int 11]) C (ct_X0_bring l D cI cZ cL ad M k 11 hk (vp_in_nI (n := 11) (by decide) (by decide)) (MI_pl hI _) (MI_room hI hk (by first | (rw [c_38]; decide) | (rw [c_44]; decide) | (rw [c_50]; decide)))) (cwV 2 C.1.2.2.2.2 gX0_settle_X0_bring rfl rfl rfl (by decide +kernel) ⟨Nat.le_of_ble_eq_true rfl, Nat.le_of_ble_eq_true rfl⟩) (ci := 0) rfl 0 rfl rfl rfl (Nat.le_of_ble_eq_true rfl) dX0_settle_57 ⟨Nat.le_of_ble_eq_true rfl, Nat.le_of_ble_eq_true rfl⟩ (fun u_57 hp_57 => ?_)
        exact bh_vret C hQ dX0_settle_60 () (w := wh_hall cI cZ ad (mo_bring M k 11)) (congrArg (wh_hall cI cZ ad) (by first | exact (mo_settle_9 c_10 c_20).symm | exact (mo_settle_10 c_10 c_20).symm | exact (mo_settle_11 c_10 (Or.inl c_38)).symm | exact (mo_settle_11 c_10 (Or.inr (Or.inl c_44))).symm | exact (mo_settle_11 c_10 (Or.inr (Or.inr c_50))).symm | exact (mo_settle_0 c_10 (fun z => z.elim c_38 (fun z => z.elim c_44 c_50))).symm)) (Nat.le_of_ble_eq_true rfl) (Nat.le_of_ble_eq_true rfl) trivial
      · skip
        refine bh_iload_n C dX0_settle_47 rfl 0 rfl ?_
        refine bh_bipush (v := 7) C dX0_settle_48 (by decide) ?_
        refine bh_icmp_ne (tgt := 60) C dX0_settle_50 (by decide) (fun c_50 => ?_) (fun c_50 => ?_)
        · skip
          exact bh_vret C hQ dX0_settle_60 () (w := wh_hall cI cZ ad M) (congrArg (wh_hall cI cZ ad) (by first | exact (mo_settle_9 c_10 c_20).symm | exact (mo_settle_10 c_10 c_20).symm | exact (mo_settle_11 c_10 (Or.inl c_38)).symm | exact (mo_settle_11 c_10 (Or.inr (Or.inl c_44))).symm | exact (mo_settle_11 c_10 (Or.inr (Or.inr c_50))).symm | exact (mo_settle_0 c_10 (fun z => z.elim c_38 (fun z => z.elim c_44 c_50))).symm)) (Nat.le_of_ble_eq_true rfl) (Nat.le_of_ble_eq_true rfl) trivial
        · skip
          refine bh_aload_n C dX0_settle_53 rfl 1 rfl ?_
          refine bh_iload_n C dX0_settle_54 rfl 2 rfl ?_
          refine bh_bipush (v := 11) C dX0_settle_55 (by decide) ?_
          refine bh_callv_0 (As := [.int (nI k), .int 11]) C (ct_X0_bring l D cI cZ cL ad M k 11 hk (vp_in_nI (n := 11) (by decide) (by decide)) (MI_pl hI _) (MI_room hI hk (by first | (rw [c_38]; decide) | (rw [c_44]; decide) | (rw [c_50]; decide)))) (cwV 2 C.1.2.2.2.2 gX0_settle_X0_bring rfl rfl rfl (by decide +kernel) ⟨Nat.le_of_ble_eq_true rfl, Nat.le_of_ble_eq_true rfl⟩) (ci := 0) rfl 0 rfl rfl rfl (Nat.le_of_ble_eq_true rfl) dX0_settle_57 ⟨Nat.le_of_ble_eq_true rfl, Nat.le_of_ble_eq_true rfl⟩ (fun u_57 hp_57 => ?_)
          exact bh_vret C hQ dX0_settle_60 () (w := wh_hall cI cZ ad (mo_bring M k 11)) (congrArg (wh_hall cI cZ ad) (by first | exact (mo_settle_9 c_10 c_20).symm | exact (mo_settle_10 c_10 c_20).symm | exact (mo_settle_11 c_10 (Or.inl c_38)).symm | exact (mo_settle_11 c_10 (Or.inr (Or.inl c_44))).symm | exact (mo_settle_11 c_10 (Or.inr (Or.inr c_50))).symm | exact (mo_settle_0 c_10 (fun z => z.elim c_38 (fun z => z.elim c_44 c_50))).symm)) (Nat.le_of_ble_eq_true rfl) (Nat.le_of_ble_eq_true rfl) trivial
  · skip
    refine bh_aload_n C dX0_settle_13 rfl 1 rfl ?_
    refine bh_iload_n C dX0_settle_14 rfl 2 rfl ?_
    refine bh_aload_n C dX0_settle_15 rfl 1 rfl ?_
    refine bh_iload_n C dX0_settle_16 rfl 2 rfl ?_
    refine bh_calli_0 (As := [.int (nI k)]) C (ct_X0_mayFly l D cI cZ cL ad M k hI (by omega)) (cwV 1 C.1.2.2.2.2 gX0_settle_X0_mayFly rfl rfl rfl (by decide +kernel) ⟨Nat.le_of_ble_eq_true rfl, Nat.le_of_ble_eq_true rfl⟩) (ci := 0) rfl 0 rfl rfl rfl (Nat.le_of_ble_eq_true rfl) dX0_settle_17 ⟨Nat.le_of_ble_eq_true rfl, Nat.le_of_ble_eq_true rfl⟩ (fun r_17 u_17 hp_17 => ?_)
    subst hp_17
    refine bh_if_eq (tgt := 28) C dX0_settle_20 (by decide) (fun c_20 => ?_) (fun c_20 => ?_)
    · skip
      replace c_20 := bh_eq0 c_20
      have hq9 : vp_in (10 : Int32) 12 := (vp_in_nI (n := 10) (by decide) (by decide))
      refine bh_bipush (v := 10) C dX0_settle_28 (by decide) ?_
      refine bh_callv_0 (As := [.int (nI k), .int 10]) C (ct_X0_bring l D cI cZ cL ad M k 10 hk hq9 (MI_pl hI _) (MI_room hI hk (by rw [c_10]; decide))) (cwV 2 C.1.2.2.2.2 gX0_settle_X0_bring rfl rfl rfl (by decide +kernel) ⟨Nat.le_of_ble_eq_true rfl, Nat.le_of_ble_eq_true rfl⟩) (ci := 0) rfl 0 rfl rfl rfl (Nat.le_of_ble_eq_true rfl) dX0_settle_30 ⟨Nat.le_of_ble_eq_true rfl, Nat.le_of_ble_eq_true rfl⟩ (fun u_30 hp_30 => ?_)
      refine bh_goto (tgt := 60) C dX0_settle_33 (by decide) ?_
      exact bh_vret C hQ dX0_settle_60 () (w := wh_hall cI cZ ad (mo_bring M k 10)) (congrArg (wh_hall cI cZ ad) (by first | exact (mo_settle_9 c_10 c_20).symm | exact (mo_settle_10 c_10 c_20).symm | exact (mo_settle_11 c_10 (Or.inl c_38)).symm | exact (mo_settle_11 c_10 (Or.inr (Or.inl c_44))).symm | exact (mo_settle_11 c_10 (Or.inr (Or.inr c_50))).symm | exact (mo_settle_0 c_10 (fun z => z.elim c_38 (fun z => z.elim c_44 c_50))).symm)) (Nat.le_of_ble_eq_true rfl) (Nat.le_of_ble_eq_true rfl) trivial
    · skip
      replace c_20 := bh_ne0 c_20
      have hq9 : vp_in (9 : Int32) 12 := (vp_in_nI (n := 9) (by decide) (by decide))
      refine bh_bipush (v := 9) C dX0_settle_23 (by decide) ?_
      refine bh_goto (tgt := 30) C dX0_settle_25 (by decide) ?_
      refine bh_callv_0 (As := [.int (nI k), .int 9]) C (ct_X0_bring l D cI cZ cL ad M k 9 hk hq9 (MI_pl hI _) (MI_room hI hk (by rw [c_10]; decide))) (cwV 2 C.1.2.2.2.2 gX0_settle_X0_bring rfl rfl rfl (by decide +kernel) ⟨Nat.le_of_ble_eq_true rfl, Nat.le_of_ble_eq_true rfl⟩) (ci := 0) rfl 0 rfl rfl rfl (Nat.le_of_ble_eq_true rfl) dX0_settle_30 ⟨Nat.le_of_ble_eq_true rfl, Nat.le_of_ble_eq_true rfl⟩ (fun u_30 hp_30 => ?_)
      refine bh_goto (tgt := 60) C dX0_settle_33 (by decide) ?_
      exact bh_vret C hQ dX0_settle_60 () (w := wh_hall cI cZ ad (mo_bring M k 9)) (congrArg (wh_hall cI cZ ad) (by first | exact (mo_settle_9 c_10 c_20).symm | exact (mo_settle_10 c_10 c_20).symm | exact (mo_settle_11 c_10 (Or.inl c_38)).symm | exact (mo_settle_11 c_10 (Or.inr (Or.inl c_44))).symm | exact (mo_settle_11 c_10 (Or.inr (Or.inr c_50))).symm | exact (mo_settle_0 c_10 (fun z => z.elim c_38 (fun z => z.elim c_44 c_50))).symm)) (Nat.le_of_ble_eq_true rfl) (Nat.le_of_ble_eq_true rfl) trivial
theorem ct_X0_settleBags_in : ∀ w ∈ wsX00, w ∈ wsX0_settleBags := by decide +kernel
set_option maxRecDepth 100000 in
set_option maxHeartbeats 4000000 in
theorem ct_X0_settleBags (l : Launch) (D : va_G) (cI cZ cL : ClassId) (ad : Nat → Nat) {K T : Nat} (M : MT) (f : Int32) (hI : MI K T M) : bh_Mv l D (wh_tys cI cZ cL) yX0_settleBags wsX0_settleBags ({ frames := 3, cells := 0, slots := 0, locals := 66 } : Room) [.ref (ad 0), .int f] (wh_hall cI cZ ad M) (fun (_ : Unit) => True) (fun _ => wh_hall cI cZ ad (mo_it (mo_sbag f) M (mq_bc M))) 0 0 := by
  refine bh_ofv (cc := cX0_settleBags) (maxL := 3) (by decide +kernel) rfl (Nat.le_of_ble_eq_true rfl) ?_
  intro p e s m args below meth c A Q _ C hQ
  refine bh_eqlv (lv' := [(0, .ref (ad 0)), (1, .int f)]) rfl ?_
  have hfc := MI_fc hI; have hbc := MI_bc hI; have hsc := MI_sc hI; have hnow := MI_now2 hI
  refine bh_iconst (v := 0) C dX0_settleBags_0 (by decide) ?_
  refine bh_istore_n (lv' := [(2, .int 0), (0, .ref (ad 0)), (1, .int f)]) C dX0_settleBags_1 rfl (by decide) rfl ?_
  have loop : ∀ (n : Nat) (k : Nat), mq_bc M + 1 ≤ k + n → k ≤ mq_bc M → bh_W p l e ({ frames := 3, cells := 0, slots := 0, locals := 66 } : Room) s m args below meth c 3 D A 0 0 Q (wh_hall cI cZ ad (mo_it (mo_sbag f) M k)) ([(2, .int (nI k)), (0, .ref (ad 0)), (1, .int f)]) 2 [] := by
    intro n
    induction n with
    | zero => intro k h1 h2; exact absurd h1 (by omega)
    | succ n ih =>
      intro k h1 h2
      have hI9 := MI_sbags hI f h2
      refine bh_iload_n C dX0_settleBags_2 rfl 0 rfl ?_
      refine bh_aload_n C dX0_settleBags_3 rfl 1 rfl ?_
      refine bh_get C ct_X0_settleBags_in 0 rfl rfl 5 (by decide) (by decide +kernel) rfl (v := .int (nI (mq_bc (mo_it (mo_sbag f) M k)))) rfl dX0_settleBags_4 ?_
      refine bh_icmp_ge (tgt := 31) C dX0_settleBags_7 (by decide) (fun c_7 => ?_) (fun c_7 => ?_)
      · skip
        rw [bc_sbags] at c_7
        have c_7 := bh_le (by omega) (by omega) c_7
        have hkb : k = mq_bc M := by omega
        exact bh_vret C hQ dX0_settleBags_31 () (w := wh_hall cI cZ ad (mo_it (mo_sbag f) M k)) (by rw [hkb]) (Nat.le_of_ble_eq_true rfl) (Nat.le_of_ble_eq_true rfl) trivial
      · skip
        rw [bc_sbags] at c_7
        have c_7 := bh_nle2 (by omega) (by omega) c_7
        refine bh_aload_n C dX0_settleBags_10 rfl 1 rfl ?_
        refine bh_get C ct_X0_settleBags_in 0 rfl rfl 6 (by decide) (by decide +kernel) rfl (v := .ref (ad 6)) rfl dX0_settleBags_11 ?_
        refine bh_iload_n C dX0_settleBags_14 rfl 0 rfl ?_
        refine bh_iald C 4 0 (f := (mq_bf (mo_it (mo_sbag f) M k))) rfl rfl (i := (nI k)) (vp_in_nI (n := k) (by omega) (by decide)) (x := ((mq_bf (mo_it (mo_sbag f) M k)) k)) (congrArg (mq_bf (mo_it (mo_sbag f) M k)) (nI_clamp (n := k) (by omega))) dX0_settleBags_15 ?_
        refine bh_iload_n C dX0_settleBags_16 rfl 2 rfl ?_
        refine bh_icmp_ne (tgt := 25) C dX0_settleBags_17 (by decide) (fun c_17 => ?_) (fun c_17 => ?_)
        · skip
          refine bh_iinc (v := (nI (k + 1))) (lv' := [(2, .int (nI (k + 1))), (0, .ref (ad 0)), (1, .int f)]) C dX0_settleBags_25 (k := 0) rfl (nI_1 _) (by decide) rfl ?_
          refine bh_goto (tgt := 2) C dX0_settleBags_28 (by decide) ?_
          refine bh_eqw (w' := wh_hall cI cZ ad (mo_it (mo_sbag f) M (k + 1))) (by rw [mo_sbag_f c_17]) ?_
          exact bh_lv [0, 1, 2] rfl (ih (k + 1) (by omega) (by omega))
        · skip
          refine bh_aload_n C dX0_settleBags_20 rfl 1 rfl ?_
          refine bh_iload_n C dX0_settleBags_21 rfl 0 rfl ?_
          refine bh_callv_0 (As := [.int (nI k)]) C (ct_X0_settle l D cI cZ cL ad (mo_it (mo_sbag f) M k) k hI9 (by omega)) (cwV 1 C.1.2.2.2.2 gX0_settleBags_X0_settle rfl rfl rfl (by decide +kernel) ⟨Nat.le_of_ble_eq_true rfl, Nat.le_of_ble_eq_true rfl⟩) (ci := 0) rfl 0 rfl rfl rfl (Nat.le_of_ble_eq_true rfl) dX0_settleBags_22 ⟨Nat.le_of_ble_eq_true rfl, Nat.le_of_ble_eq_true rfl⟩ (fun u_22 hp_22 => ?_)
          refine bh_eqw (w' := wh_hall cI cZ ad (mo_it (mo_sbag f) M (k + 1))) (by rw [mo_sbag_t c_17]) ?_
          refine bh_iinc (v := (nI (k + 1))) (lv' := [(2, .int (nI (k + 1))), (0, .ref (ad 0)), (1, .int f)]) C dX0_settleBags_25 (k := 0) rfl (nI_1 _) (by decide) rfl ?_
          refine bh_goto (tgt := 2) C dX0_settleBags_28 (by decide) ?_
          exact bh_lv [0, 1, 2] rfl (ih (k + 1) (by omega) (by omega))
  exact bh_lv [0, 1, 2] rfl (loop (mq_bc M + 1) 0 (by omega) (by omega))
theorem ct_X0_depart_in : ∀ w ∈ wsX00, w ∈ wsX0_depart := by decide +kernel
set_option maxRecDepth 100000 in
set_option maxHeartbeats 4000000 in
theorem ct_X0_depart (l : Launch) (D : va_G) (cI cZ cL : ClassId) (ad : Nat → Nat) {K T : Nat} (M : MT) (hI : MI K T M) : bh_Mv l D (wh_tys cI cZ cL) yX0_depart wsX0_depart ({ frames := 4, cells := 0, slots := 0, locals := 88 } : Room) [.ref (ad 0)] (wh_hall cI cZ ad M) (fun (_ : Unit) => True) (fun _ => wh_hall cI cZ ad (mo_depart M)) 0 0 := by
  refine bh_ofv (cc := cX0_depart) (maxL := 2) (by decide +kernel) rfl (Nat.le_of_ble_eq_true rfl) ?_
  intro p e s m args below meth c A Q _ C hQ
  refine bh_eqlv (lv' := [(0, .ref (ad 0))]) rfl ?_
  have hfc := MI_fc hI; have hbc := MI_bc hI; have hsc := MI_sc hI; have hnow := MI_now2 hI
  refine bh_iconst (v := 0) C dX0_depart_0 (by decide) ?_
  refine bh_istore_n (lv' := [(1, .int 0), (0, .ref (ad 0))]) C dX0_depart_1 rfl (by decide) rfl ?_
  have loop : ∀ (n : Nat) (k : Nat), mq_fc M + 1 ≤ k + n → k ≤ mq_fc M → bh_W p l e ({ frames := 4, cells := 0, slots := 0, locals := 88 } : Room) s m args below meth c 2 D A 0 0 Q (wh_hall cI cZ ad (mo_it mo_dep1 M k)) ([(1, .int (nI k)), (0, .ref (ad 0))]) 2 [] := by
    intro n
    induction n with
    | zero => intro k h1 h2; exact absurd h1 (by omega)
    | succ n ih =>
      intro k h1 h2
      have hI9 := MI_dep1 hI k
      refine bh_iload_n C dX0_depart_2 rfl 0 rfl ?_
      refine bh_aload_n C dX0_depart_3 rfl 1 rfl ?_
      refine bh_get C ct_X0_depart_in 0 rfl rfl 1 (by decide) (by decide +kernel) rfl (v := .int (nI (mq_fc (mo_it mo_dep1 M k)))) rfl dX0_depart_4 ?_
      refine bh_icmp_ge (tgt := 34) C dX0_depart_7 (by decide) (fun c_7 => ?_) (fun c_7 => ?_)
      · skip
        rw [fc_dep1] at c_7
        have c_7 := bh_le (by omega) (by omega) c_7
        have hkb : k = mq_fc M := by omega
        exact bh_vret C hQ dX0_depart_34 () (w := wh_hall cI cZ ad (mo_it mo_dep1 M k)) (by rw [hkb]; rfl) (Nat.le_of_ble_eq_true rfl) (Nat.le_of_ble_eq_true rfl) trivial
      · skip
        rw [fc_dep1] at c_7
        have c_7 := bh_nle2 (by omega) (by omega) c_7
        refine bh_aload_n C dX0_depart_10 rfl 1 rfl ?_
        refine bh_get C ct_X0_depart_in 0 rfl rfl 2 (by decide) (by decide +kernel) rfl (v := .ref (ad 2)) rfl dX0_depart_11 ?_
        refine bh_iload_n C dX0_depart_14 rfl 0 rfl ?_
        refine bh_iald C 1 0 (f := (mq_dep (mo_it mo_dep1 M k))) rfl rfl (i := (nI k)) (vp_in_nI (n := k) (by omega) (by decide)) (x := ((mq_dep (mo_it mo_dep1 M k)) k)) (congrArg (mq_dep (mo_it mo_dep1 M k)) (nI_clamp (n := k) (by omega))) dX0_depart_15 ?_
        refine bh_aload_n C dX0_depart_16 rfl 1 rfl ?_
        refine bh_get C ct_X0_depart_in 0 rfl rfl 0 (by decide) (by decide +kernel) rfl (v := .int (nI (mq_now (mo_it mo_dep1 M k)))) rfl dX0_depart_17 ?_
        refine bh_icmp_ne (tgt := 28) C dX0_depart_20 (by decide) (fun c_20 => ?_) (fun c_20 => ?_)
        · skip
          refine bh_iinc (v := (nI (k + 1))) (lv' := [(1, .int (nI (k + 1))), (0, .ref (ad 0))]) C dX0_depart_28 (k := 0) rfl (nI_1 _) (by decide) rfl ?_
          refine bh_goto (tgt := 2) C dX0_depart_31 (by decide) ?_
          refine bh_eqw (w' := wh_hall cI cZ ad (mo_it mo_dep1 M (k + 1))) (by rw [mo_dep_f c_20]) ?_
          exact bh_lv [0, 1] rfl (ih (k + 1) (by omega) (by omega))
        · skip
          refine bh_aload_n C dX0_depart_23 rfl 1 rfl ?_
          refine bh_iload_n C dX0_depart_24 rfl 0 rfl ?_
          refine bh_callv_0 (As := [.int (nI k)]) C (ct_X0_settleBags l D cI cZ cL ad (mo_it mo_dep1 M k) (nI k) hI9) (cwV 1 C.1.2.2.2.2 gX0_depart_X0_settleBags rfl rfl rfl (by decide +kernel) ⟨Nat.le_of_ble_eq_true rfl, Nat.le_of_ble_eq_true rfl⟩) (ci := 0) rfl 0 rfl rfl rfl (Nat.le_of_ble_eq_true rfl) dX0_depart_25 ⟨Nat.le_of_ble_eq_true rfl, Nat.le_of_ble_eq_true rfl⟩ (fun u_25 hp_25 => ?_)
          refine bh_eqw (w' := wh_hall cI cZ ad (mo_it mo_dep1 M (k + 1))) (by rw [mo_dep_t c_20]) ?_
          refine bh_iinc (v := (nI (k + 1))) (lv' := [(1, .int (nI (k + 1))), (0, .ref (ad 0))]) C dX0_depart_28 (k := 0) rfl (nI_1 _) (by decide) rfl ?_
          refine bh_goto (tgt := 2) C dX0_depart_31 (by decide) ?_
          exact bh_lv [0, 1] rfl (ih (k + 1) (by omega) (by omega))
  exact bh_lv [0, 1] rfl (loop (mq_fc M + 1) 0 (by omega) (by omega))
theorem ct_X0_passOneMinute_in : ∀ w ∈ wsX00, w ∈ wsX0_passOneMinute := by decide +kernel
set_option maxRecDepth 100000 in
set_option maxHeartbeats 4000000 in
theorem ct_X0_passOneMinute (l : Launch) (D : va_G) (cI cZ cL : ClassId) (ad : Nat → Nat) {K T : Nat} (M : MT) (hI : MI K T M) (hT : T + 1 ≤ 102400) : bh_Mv l D (wh_tys cI cZ cL) yX0_passOneMinute wsX0_passOneMinute ({ frames := 5, cells := 0, slots := 0, locals := 109 } : Room) [.ref (ad 0)] (wh_hall cI cZ ad M) (fun (_ : Unit) => True) (fun _ => wh_hall cI cZ ad (mo_minute M)) 0 0 := by
  refine bh_ofv (cc := cX0_passOneMinute) (maxL := 1) (by decide +kernel) rfl (Nat.le_of_ble_eq_true rfl) ?_
  intro p e s m args below meth c A Q _ C hQ
  refine bh_eqlv (lv' := [(0, .ref (ad 0))]) rfl ?_
  have hfc := MI_fc hI; have hbc := MI_bc hI; have hsc := MI_sc hI; have hnow := MI_now2 hI
  refine bh_aload_n C dX0_passOneMinute_0 rfl 0 rfl ?_
  refine bh_dup C dX0_passOneMinute_1 rfl ?_
  refine bh_get C ct_X0_passOneMinute_in 0 rfl rfl 0 (by decide) (by decide +kernel) rfl (v := .int (nI (mq_now M))) rfl dX0_passOneMinute_2 ?_
  refine bh_iconst (v := 1) C dX0_passOneMinute_5 (by decide) ?_
  refine bh_iadd C dX0_passOneMinute_6 ?_
  refine bh_topi (nI_1 _) ?_
  refine bh_eqw (w' := wh_hallX cI cZ ad (mq_now M) (mq_fc M) (mq_bc M) (mq_sc M) (mq_dep M) (mq_lat M) (mq_brd M) (mq_bf M) (mq_br M) (mq_pu M) (mq_pl M) (mq_ls M) (mq_ca M) (mq_at M) (mq_sb M) (mq_sp M) (mq_st M)) rfl ?_
  refine bh_put (ty := .int) (v := .int (nI ((mq_now M) + 1))) (w' := wh_hallX cI cZ ad (((mq_now M) + 1)) (mq_fc M) (mq_bc M) (mq_sc M) (mq_dep M) (mq_lat M) (mq_brd M) (mq_bf M) (mq_br M) (mq_pu M) (mq_pl M) (mq_ls M) (mq_ca M) (mq_at M) (mq_sb M) (mq_sp M) (mq_st M)) C ct_X0_passOneMinute_in tyX0 tyX0_ok nmX0 0 rfl rfl 0 (by decide) (by decide +kernel) rfl rfl (by decide +kernel) rfl rfl (Nat.le_of_ble_eq_true rfl) dX0_passOneMinute_7 rfl ?_
  refine bh_aload_n C dX0_passOneMinute_10 rfl 0 rfl ?_
  refine bh_eqw (w' := wh_hall cI cZ ad ((((mq_now M) + 1)), (mq_fc M), (mq_bc M), (mq_sc M), (mq_dep M), (mq_lat M), (mq_brd M), (mq_bf M), (mq_br M), (mq_pu M), (mq_pl M), (mq_ls M), (mq_ca M), (mq_at M), (mq_sb M), (mq_sp M), (mq_st M))) rfl ?_
  refine bh_callv_0 (As := []) C (ct_X0_emptyStore l D cI cZ cL ad ((((mq_now M) + 1)), (mq_fc M), (mq_bc M), (mq_sc M), (mq_dep M), (mq_lat M), (mq_brd M), (mq_bf M), (mq_br M), (mq_pu M), (mq_pl M), (mq_ls M), (mq_ca M), (mq_at M), (mq_sb M), (mq_sp M), (mq_st M)) (MI_tick hI hT)) (cwV 0 C.1.2.2.2.2 gX0_passOneMinute_X0_emptyStore rfl rfl rfl (by decide +kernel) ⟨Nat.le_of_ble_eq_true rfl, Nat.le_of_ble_eq_true rfl⟩) (ci := 0) rfl 0 rfl rfl rfl (Nat.le_of_ble_eq_true rfl) dX0_passOneMinute_11 ⟨Nat.le_of_ble_eq_true rfl, Nat.le_of_ble_eq_true rfl⟩ (fun u_11 hp_11 => ?_)
  refine bh_aload_n C dX0_passOneMinute_14 rfl 0 rfl ?_
  refine bh_callv_0 (As := []) C (ct_X0_routeLoop l D cI cZ cL ad (mo_empt ((((mq_now M) + 1)), (mq_fc M), (mq_bc M), (mq_sc M), (mq_dep M), (mq_lat M), (mq_brd M), (mq_bf M), (mq_br M), (mq_pu M), (mq_pl M), (mq_ls M), (mq_ca M), (mq_at M), (mq_sb M), (mq_sp M), (mq_st M))) (MI_empt (MI_tick hI hT))) (cwV 0 C.1.2.2.2.2 gX0_passOneMinute_X0_routeLoop rfl rfl rfl (by decide +kernel) ⟨Nat.le_of_ble_eq_true rfl, Nat.le_of_ble_eq_true rfl⟩) (ci := 0) rfl 0 rfl rfl rfl (Nat.le_of_ble_eq_true rfl) dX0_passOneMinute_15 ⟨Nat.le_of_ble_eq_true rfl, Nat.le_of_ble_eq_true rfl⟩ (fun u_15 hp_15 => ?_)
  refine bh_aload_n C dX0_passOneMinute_18 rfl 0 rfl ?_
  refine bh_callv_0 (As := []) C (ct_X0_depart l D cI cZ cL ad (mo_loop (mo_empt ((((mq_now M) + 1)), (mq_fc M), (mq_bc M), (mq_sc M), (mq_dep M), (mq_lat M), (mq_brd M), (mq_bf M), (mq_br M), (mq_pu M), (mq_pl M), (mq_ls M), (mq_ca M), (mq_at M), (mq_sb M), (mq_sp M), (mq_st M)))) (MI_loopA (MI_empt (MI_tick hI hT)))) (cwV 0 C.1.2.2.2.2 gX0_passOneMinute_X0_depart rfl rfl rfl (by decide +kernel) ⟨Nat.le_of_ble_eq_true rfl, Nat.le_of_ble_eq_true rfl⟩) (ci := 0) rfl 0 rfl rfl rfl (Nat.le_of_ble_eq_true rfl) dX0_passOneMinute_19 ⟨Nat.le_of_ble_eq_true rfl, Nat.le_of_ble_eq_true rfl⟩ (fun u_19 hp_19 => ?_)
  exact bh_vret C hQ dX0_passOneMinute_22 () (w := wh_hall cI cZ ad (mo_depart (mo_loop (mo_empt ((((mq_now M) + 1)), (mq_fc M), (mq_bc M), (mq_sc M), (mq_dep M), (mq_lat M), (mq_brd M), (mq_bf M), (mq_br M), (mq_pu M), (mq_pl M), (mq_ls M), (mq_ca M), (mq_at M), (mq_sb M), (mq_sp M), (mq_st M)))))) rfl (Nat.le_of_ble_eq_true rfl) (Nat.le_of_ble_eq_true rfl) trivial
