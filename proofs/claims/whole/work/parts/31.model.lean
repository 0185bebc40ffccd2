theorem ct_X1_departs_in : ∀ w ∈ wsX10, w ∈ wsX1_departs := by decide +kernel
set_option maxRecDepth 100000 in
set_option maxHeartbeats 4000000 in
theorem ct_X1_departs (l : Launch) (D : va_G) (cI cZ cL : ClassId) (bd : Nat → Nat) {K T : Nat} (M : MT) (thr f : Int32) (hI : MI K T M) : bh_Mv l D (wh_tys cI cZ cL) yX1_departs wsX1_departs ({ frames := 1, cells := 0, slots := 0, locals := 22 } : Room) [.ref (bd 0), .int f] (wh_modl cI bd M thr) (fun (_ : Unit) => True) (fun _ => wh_modl cI bd (mo_it (mo_sbag f) M (mq_bc M)) thr) 0 0 := by
  refine bh_ofv (cc := cX1_departs) (maxL := 4) (by decide +kernel) rfl (Nat.le_of_ble_eq_true rfl) ?_
  intro p e s m args below meth c A Q _ C hQ
  refine bh_eqlv (lv' := [(0, .ref (bd 0)), (1, .int f)]) rfl ?_
  have hfc := MI_fc hI; have hbc := MI_bc hI; have hsc := MI_sc hI; have hnow := MI_now2 hI
  refine bh_iconst (v := 0) C dX1_departs_0 (by decide) ?_
  refine bh_istore_n (lv' := [(2, .int 0), (0, .ref (bd 0)), (1, .int f)]) C dX1_departs_1 rfl (by decide) rfl ?_
  have loop : ∀ (n : Nat) (k : Nat), mq_bc M + 1 ≤ k + n → k ≤ mq_bc M → bh_W p l e ({ frames := 1, cells := 0, slots := 0, locals := 22 } : Room) s m args below meth c 4 D A 0 0 Q (wh_modl cI bd (mo_it (mo_sbag f) M k) thr) ([(2, .int (nI k)), (0, .ref (bd 0)), (1, .int f)]) 2 [] := by
    intro n
    induction n with
    | zero => intro k h1 h2; exact absurd h1 (by omega)
    | succ n ih =>
      intro k h1 h2
      have hI9 := MI_sbags hI f h2
      have hb9 := bc_sbags f M k
      have hs9 := MI_sc hI9
      refine bh_iload_n C dX1_departs_2 rfl 0 rfl ?_
      refine bh_aload_n C dX1_departs_3 rfl 1 rfl ?_
      refine bh_get C ct_X1_departs_in 0 rfl rfl 5 (by decide) (by decide +kernel) rfl (v := .int (nI (mq_bc (mo_it (mo_sbag f) M k)))) rfl dX1_departs_4 ?_
      refine bh_icmp_ge (tgt := 90) C dX1_departs_7 (by decide) (fun c_7 => ?_) (fun c_7 => ?_)
      · skip
        rw [bc_sbags] at c_7
        have c_7 := bh_le (by omega) (by omega) c_7
        have hkb : k = mq_bc M := by omega
        exact bh_vret C hQ dX1_departs_90 () (w := wh_modl cI bd (mo_it (mo_sbag f) M k) thr) (by rw [hkb]) (Nat.le_of_ble_eq_true rfl) (Nat.le_of_ble_eq_true rfl) trivial
      · skip
        rw [bc_sbags] at c_7
        have c_7 := bh_nle2 (by omega) (by omega) c_7
        refine bh_aload_n C dX1_departs_10 rfl 1 rfl ?_
        refine bh_get C ct_X1_departs_in 0 rfl rfl 7 (by decide) (by decide +kernel) rfl (v := .ref (bd 7)) rfl dX1_departs_11 ?_
        refine bh_iload_n C dX1_departs_14 rfl 0 rfl ?_
        refine bh_iald C 5 0 (f := (mq_bf (mo_it (mo_sbag f) M k))) rfl rfl (i := (nI k)) (vp_in_nI (n := k) (by omega) (by decide)) (x := ((mq_bf (mo_it (mo_sbag f) M k)) k)) (congrArg (mq_bf (mo_it (mo_sbag f) M k)) (nI_clamp (n := k) (by omega))) dX1_departs_15 ?_
        refine bh_iload_n C dX1_departs_16 rfl 2 rfl ?_
        refine bh_icmp_ne (tgt := 29) C dX1_departs_17 (by decide) (fun c_17 => ?_) (fun c_17 => ?_)
        · skip
          refine bh_iconst (v := 0) C dX1_departs_29 (by decide) ?_
          refine bh_istore_n (lv' := [(3, .int 0), (2, .int (nI k)), (0, .ref (bd 0)), (1, .int f)]) C dX1_departs_30 rfl (by decide) rfl ?_
          refine bh_iload_n C dX1_departs_31 rfl 0 rfl ?_
          refine bh_bipush (v := 8) C dX1_departs_32 (by decide) ?_
          refine bh_icmp_ne (tgt := 60) C dX1_departs_34 (by decide) (fun c_34 => ?_) (fun c_34 => absurd c_34 (by decide))
          refine bh_iload_n C dX1_departs_60 rfl 0 rfl ?_
          refine bh_iconst (v := 5) C dX1_departs_61 (by decide) ?_
          refine bh_icmp_eq (tgt := 77) C dX1_departs_62 (by decide) (fun c_62 => absurd c_62 (by decide)) (fun c_62 => ?_)
          refine bh_iload_n C dX1_departs_65 rfl 0 rfl ?_
          refine bh_bipush (v := 6) C dX1_departs_66 (by decide) ?_
          refine bh_icmp_eq (tgt := 77) C dX1_departs_68 (by decide) (fun c_68 => absurd c_68 (by decide)) (fun c_68 => ?_)
          refine bh_iload_n C dX1_departs_71 rfl 0 rfl ?_
          refine bh_bipush (v := 7) C dX1_departs_72 (by decide) ?_
          refine bh_icmp_ne (tgt := 84) C dX1_departs_74 (by decide) (fun c_74 => ?_) (fun c_74 => absurd c_74 (by decide))
          refine bh_iinc (v := (nI (k + 1))) (lv' := [(2, .int (nI (k + 1))), (3, .int 0), (0, .ref (bd 0)), (1, .int f)]) C dX1_departs_84 (k := 1) rfl (nI_1 _) (by decide) rfl ?_
          refine bh_goto (tgt := 2) C dX1_departs_87 (by decide) ?_
          refine bh_eqw (w' := wh_modl cI bd (mo_it (mo_sbag f) M (k + 1)) thr) (congrArg (fun N => wh_modl cI bd N thr) (by first | exact (mo_sbag_f c_17).symm | exact ((mo_sbag_t c_17).trans (mo_settle_0 c_34 (fun z => z.elim c_62 (fun z => z.elim c_68 c_74)))).symm)) ?_
          exact bh_lv [0, 2, 3] rfl (ih (k + 1) (by omega) (by omega))
        · skip
          refine bh_aload_n C dX1_departs_20 rfl 1 rfl ?_
          refine bh_get C ct_X1_departs_in 0 rfl rfl 6 (by decide) (by decide +kernel) rfl (v := .ref (bd 6)) rfl dX1_departs_21 ?_
          refine bh_iload_n C dX1_departs_24 rfl 0 rfl ?_
          refine bh_iald C 4 0 (f := (mq_pl (mo_it (mo_sbag f) M k))) rfl rfl (i := (nI k)) (vp_in_nI (n := k) (by omega) (by decide)) (x := ((mq_pl (mo_it (mo_sbag f) M k)) k)) (congrArg (mq_pl (mo_it (mo_sbag f) M k)) (nI_clamp (n := k) (by omega))) dX1_departs_25 ?_
          refine bh_goto (tgt := 30) C dX1_departs_26 (by decide) ?_
          refine bh_istore_n (lv' := [(3, .int ((mq_pl (mo_it (mo_sbag f) M k)) k)), (2, .int (nI k)), (0, .ref (bd 0)), (1, .int f)]) C dX1_departs_30 rfl (by decide) rfl ?_
          refine bh_iload_n C dX1_departs_31 rfl 0 rfl ?_
          refine bh_bipush (v := 8) C dX1_departs_32 (by decide) ?_
          refine bh_icmp_ne (tgt := 60) C dX1_departs_34 (by decide) (fun c_34 => ?_) (fun c_34 => ?_)
          · skip
            refine bh_iload_n C dX1_departs_60 rfl 0 rfl ?_
            refine bh_iconst (v := 5) C dX1_departs_61 (by decide) ?_
            refine bh_icmp_eq (tgt := 77) C dX1_departs_62 (by decide) (fun c_62 => ?_) (fun c_62 => ?_)
            · skip
              refine bh_aload_n C dX1_departs_77 rfl 2 rfl ?_
              refine bh_iload_n C dX1_departs_78 rfl 1 rfl ?_
              refine bh_bipush (v := 11) C dX1_departs_79 (by decide) ?_
              refine bh_callv_0 (As := [.int (nI k), .int 11]) C (ct_X1_comes l D cI cZ cL bd (mo_it (mo_sbag f) M k) thr k 11 (by omega) (by omega)) (cwV 2 C.1.2.2.2.2 gX1_departs_X1_comes rfl rfl rfl (by decide +kernel) ⟨Nat.le_of_ble_eq_true rfl, Nat.le_of_ble_eq_true rfl⟩) (ci := 1) rfl 0 rfl rfl rfl (Nat.le_of_ble_eq_true rfl) dX1_departs_81 ⟨Nat.le_of_ble_eq_true rfl, Nat.le_of_ble_eq_true rfl⟩ (fun u_81 hp_81 => ?_)
              refine bh_eqw (w' := wh_modl cI bd (mo_it (mo_sbag f) M (k + 1)) thr) (congrArg (fun N => wh_modl cI bd N thr) (by first | exact ((mo_sbag_t c_17).trans (mo_settle_11 c_34 (Or.inl c_62))).symm | exact ((mo_sbag_t c_17).trans (mo_settle_11 c_34 (Or.inr (Or.inl c_68)))).symm | exact ((mo_sbag_t c_17).trans (mo_settle_11 c_34 (Or.inr (Or.inr c_74)))).symm)) ?_
              refine bh_iinc (v := (nI (k + 1))) (lv' := [(2, .int (nI (k + 1))), (3, .int ((mq_pl (mo_it (mo_sbag f) M k)) k)), (0, .ref (bd 0)), (1, .int f)]) C dX1_departs_84 (k := 1) rfl (nI_1 _) (by decide) rfl ?_
              refine bh_goto (tgt := 2) C dX1_departs_87 (by decide) ?_
              exact bh_lv [0, 2, 3] rfl (ih (k + 1) (by omega) (by omega))
            · skip
              refine bh_iload_n C dX1_departs_65 rfl 0 rfl ?_
              refine bh_bipush (v := 6) C dX1_departs_66 (by decide) ?_
              refine bh_icmp_eq (tgt := 77) C dX1_departs_68 (by decide) (fun c_68 => ?_) (fun c_68 => ?_)
              · skip
                refine bh_aload_n C dX1_departs_77 rfl 2 rfl ?_
                refine bh_iload_n C dX1_departs_78 rfl 1 rfl ?_
                refine bh_bipush (v := 11) C dX1_departs_79 (by decide) ?_
                refine bh_callv_0 (As := [.int (nI k), .int 11]) C (ct_X1_comes l D cI cZ cL bd (mo_it (mo_sbag f) M k) thr k 11 (by omega) (by omega)) (cwV 2 C.1.2.2.2.2 gX1_departs_X1_comes rfl rfl rfl (by decide +kernel) ⟨Nat.le_of_ble_eq_true rfl, Nat.le_of_ble_eq_true rfl⟩) (ci := 1) rfl 0 rfl rfl rfl (Nat.le_of_ble_eq_true rfl) dX1_departs_81 ⟨Nat.le_of_ble_eq_true rfl, Nat.le_of_ble_eq_true rfl⟩ (fun u_81 hp_81 => ?_)
                refine bh_eqw (w' := wh_modl cI bd (mo_it (mo_sbag f) M (k + 1)) thr) (congrArg (fun N => wh_modl cI bd N thr) (by first | exact ((mo_sbag_t c_17).trans (mo_settle_11 c_34 (Or.inl c_62))).symm | exact ((mo_sbag_t c_17).trans (mo_settle_11 c_34 (Or.inr (Or.inl c_68)))).symm | exact ((mo_sbag_t c_17).trans (mo_settle_11 c_34 (Or.inr (Or.inr c_74)))).symm)) ?_
                refine bh_iinc (v := (nI (k + 1))) (lv' := [(2, .int (nI (k + 1))), (3, .int ((mq_pl (mo_it (mo_sbag f) M k)) k)), (0, .ref (bd 0)), (1, .int f)]) C dX1_departs_84 (k := 1) rfl (nI_1 _) (by decide) rfl ?_
                refine bh_goto (tgt := 2) C dX1_departs_87 (by decide) ?_
                exact bh_lv [0, 2, 3] rfl (ih (k + 1) (by omega) (by omega))
              · skip
                refine bh_iload_n C dX1_departs_71 rfl 0 rfl ?_
                refine bh_bipush (v := 7) C dX1_departs_72 (by decide) ?_
                refine bh_icmp_ne (tgt := 84) C dX1_departs_74 (by decide) (fun c_74 => ?_) (fun c_74 => ?_)
                · skip
                  refine bh_iinc (v := (nI (k + 1))) (lv' := [(2, .int (nI (k + 1))), (3, .int ((mq_pl (mo_it (mo_sbag f) M k)) k)), (0, .ref (bd 0)), (1, .int f)]) C dX1_departs_84 (k := 1) rfl (nI_1 _) (by decide) rfl ?_
                  refine bh_goto (tgt := 2) C dX1_departs_87 (by decide) ?_
                  refine bh_eqw (w' := wh_modl cI bd (mo_it (mo_sbag f) M (k + 1)) thr) (congrArg (fun N => wh_modl cI bd N thr) (by first | exact (mo_sbag_f c_17).symm | exact ((mo_sbag_t c_17).trans (mo_settle_0 c_34 (fun z => z.elim c_62 (fun z => z.elim c_68 c_74)))).symm)) ?_
                  exact bh_lv [0, 2, 3] rfl (ih (k + 1) (by omega) (by omega))
                · skip
                  refine bh_aload_n C dX1_departs_77 rfl 2 rfl ?_
                  refine bh_iload_n C dX1_departs_78 rfl 1 rfl ?_
                  refine bh_bipush (v := 11) C dX1_departs_79 (by decide) ?_
                  refine bh_callv_0 (As := [.int (nI k), .int 11]) C (ct_X1_comes l D cI cZ cL bd (mo_it (mo_sbag f) M k) thr k 11 (by omega) (by omega)) (cwV 2 C.1.2.2.2.2 gX1_departs_X1_comes rfl rfl rfl (by decide +kernel) ⟨Nat.le_of_ble_eq_true rfl, Nat.le_of_ble_eq_true rfl⟩) (ci := 1) rfl 0 rfl rfl rfl (Nat.le_of_ble_eq_true rfl) dX1_departs_81 ⟨Nat.le_of_ble_eq_true rfl, Nat.le_of_ble_eq_true rfl⟩ (fun u_81 hp_81 => ?_)
                  refine bh_eqw (w' := wh_modl cI bd (mo_it (mo_sbag f) M (k + 1)) thr) (congrArg (fun N => wh_modl cI bd N thr) (by first | exact ((mo_sbag_t c_17).trans (mo_settle_11 c_34 (Or.inl c_62))).symm | exact ((mo_sbag_t c_17).trans (mo_settle_11 c_34 (Or.inr (Or.inl c_68)))).symm | exact ((mo_sbag_t c_17).trans (mo_settle_11 c_34 (Or.inr (Or.inr c_74)))).symm)) ?_
                  refine bh_iinc (v := (nI (k + 1))) (lv' := [(2, .int (nI (k + 1))), (3, .int ((mq_pl (mo_it (mo_sbag f) M k)) k)), (0, .ref (bd 0)), (1, .int f)]) C dX1_departs_84 (k := 1) rfl (nI_1 _) (by decide) rfl ?_
                  refine bh_goto (tgt := 2) C dX1_departs_87 (by decide) ?_
                  exact bh_lv [0, 2, 3] rfl (ih (k + 1) (by omega) (by omega))
          · skip
            refine bh_aload_n C dX1_departs_37 rfl 2 rfl ?_
            refine bh_iload_n C dX1_departs_38 rfl 1 rfl ?_
            refine bh_aload_n C dX1_departs_39 rfl 2 rfl ?_
            refine bh_iload_n C dX1_departs_40 rfl 1 rfl ?_
            refine bh_calli_0 (As := [.int (nI k)]) C (ct_X1_isMatched l D cI cZ cL bd (mo_it (mo_sbag f) M k) thr k hI9 (by omega)) (cwV 1 C.1.2.2.2.2 gX1_departs_X1_isMatched rfl rfl rfl (by decide +kernel) ⟨Nat.le_of_ble_eq_true rfl, Nat.le_of_ble_eq_true rfl⟩) (ci := 1) rfl 0 rfl rfl rfl (Nat.le_of_ble_eq_true rfl) dX1_departs_41 ⟨Nat.le_of_ble_eq_true rfl, Nat.le_of_ble_eq_true rfl⟩ (fun r_41 u_41 hp_41 => ?_)
            subst hp_41
            refine bh_if_eq (tgt := 52) C dX1_departs_44 (by decide) (fun c_44 => ?_) (fun c_44 => ?_)
            · skip
              replace c_44 := bh_eq0 c_44
              refine bh_bipush (v := 10) C dX1_departs_52 (by decide) ?_
              refine bh_callv_0 (As := [.int (nI k), .int 10]) C (ct_X1_comes l D cI cZ cL bd (mo_it (mo_sbag f) M k) thr k 10 (by omega) (by omega)) (cwV 2 C.1.2.2.2.2 gX1_departs_X1_comes rfl rfl rfl (by decide +kernel) ⟨Nat.le_of_ble_eq_true rfl, Nat.le_of_ble_eq_true rfl⟩) (ci := 1) rfl 0 rfl rfl rfl (Nat.le_of_ble_eq_true rfl) dX1_departs_54 ⟨Nat.le_of_ble_eq_true rfl, Nat.le_of_ble_eq_true rfl⟩ (fun u_54 hp_54 => ?_)
              refine bh_eqw (w' := wh_modl cI bd (mo_it (mo_sbag f) M (k + 1)) thr) (congrArg (fun N => wh_modl cI bd N thr) (by first | exact ((mo_sbag_t c_17).trans (mo_settle_9 c_34 c_44)).symm | exact ((mo_sbag_t c_17).trans (mo_settle_10 c_34 c_44)).symm)) ?_
              refine bh_goto (tgt := 84) C dX1_departs_57 (by decide) ?_
              refine bh_iinc (v := (nI (k + 1))) (lv' := [(2, .int (nI (k + 1))), (3, .int ((mq_pl (mo_it (mo_sbag f) M k)) k)), (0, .ref (bd 0)), (1, .int f)]) C dX1_departs_84 (k := 1) rfl (nI_1 _) (by decide) rfl ?_
              refine bh_goto (tgt := 2) C dX1_departs_87 (by decide) ?_
              exact bh_lv [0, 2, 3] rfl (ih (k + 1) (by omega) (by omega))
            · skip
              replace c_44 := bh_ne0 c_44
              refine bh_bipush (v := 9) C dX1_departs_47 (by decide) ?_
              refine bh_goto (tgt := 54) C dX1_departs_49 (by decide) ?_
              refine bh_callv_0 (As := [.int (nI k), .int 9]) C (ct_X1_comes l D cI cZ cL bd (mo_it (mo_sbag f) M k) thr k 9 (by omega) (by omega)) (cwV 2 C.1.2.2.2.2 gX1_departs_X1_comes rfl rfl rfl (by decide +kernel) ⟨Nat.le_of_ble_eq_true rfl, Nat.le_of_ble_eq_true rfl⟩) (ci := 1) rfl 0 rfl rfl rfl (Nat.le_of_ble_eq_true rfl) dX1_departs_54 ⟨Nat.le_of_ble_eq_true rfl, Nat.le_of_ble_eq_true rfl⟩ (fun u_54 hp_54 => ?_)
              refine bh_eqw (w' := wh_modl cI bd (mo_it (mo_sbag f) M (k + 1)) thr) (congrArg (fun N => wh_modl cI bd N thr) (by first | exact ((mo_sbag_t c_17).trans (mo_settle_9 c_34 c_44)).symm | exact ((mo_sbag_t c_17).trans (mo_settle_10 c_34 c_44)).symm)) ?_
              refine bh_goto (tgt := 84) C dX1_departs_57 (by decide) ?_
              refine bh_iinc (v := (nI (k + 1))) (lv' := [(2, .int (nI (k + 1))), (3, .int ((mq_pl (mo_it (mo_sbag f) M k)) k)), (0, .ref (bd 0)), (1, .int f)]) C dX1_departs_84 (k := 1) rfl (nI_1 _) (by decide) rfl ?_
              refine bh_goto (tgt := 2) C dX1_departs_87 (by decide) ?_
              exact bh_lv [0, 2, 3] rfl (ih (k + 1) (by omega) (by omega))
  exact bh_lv [0, 1, 2] rfl (loop (mq_bc M + 1) 0 (by omega) (by omega))
theorem ct_X1_minute_in : ∀ w ∈ wsX10, w ∈ wsX1_minute := by decide +kernel
set_option maxRecDepth 100000 in
set_option maxHeartbeats 4000000 in
theorem ct_X1_minute (l : Launch) (D : va_G) (cI cZ cL : ClassId) (bd : Nat → Nat) {K T : Nat} (M : MT) (thr : Int32) (hI : MI K T M) (hT : T + 1 ≤ 102400) : bh_Mv l D (wh_tys cI cZ cL) yX1_minute wsX1_minute ({ frames := 3, cells := 0, slots := 0, locals := 67 } : Room) [.ref (bd 0)] (wh_modl cI bd M thr) (fun (_ : Unit) => True) (fun _ => wh_modl cI bd (mo_minute M) thr) 0 0 := by
  refine bh_ofv (cc := cX1_minute) (maxL := 3) (by decide +kernel) rfl (Nat.le_of_ble_eq_true rfl) ?_
  intro p e s m args below meth c A Q _ C hQ
  refine bh_eqlv (lv' := [(0, .ref (bd 0))]) rfl ?_
  have hfc := MI_fc hI; have hbc := MI_bc hI; have hsc := MI_sc hI; have hnow := MI_now2 hI
  have hI0 := MI_tick hI hT
  have hIe := MI_empt hI0
  have hIl := MI_loopA hIe
  have hbe := MI_bc hIe; have hfl := MI_fc hIl
  have tail2 : bh_W p l e ({ frames := 3, cells := 0, slots := 0, locals := 67 } : Room) s m args below meth c 3 D A 0 0 Q (wh_modl cI bd (mo_loop (mo_empt (mo_tick M))) thr) ([(0, .ref (bd 0))]) 77 [] := by
    refine bh_iconst (v := 0) C dX1_minute_77 (by decide) ?_
    refine bh_istore_n (lv' := [(2, .int 0), (0, .ref (bd 0))]) C dX1_minute_78 rfl (by decide) rfl ?_
    have loop : ∀ (n : Nat) (k : Nat), mq_fc (mo_loop (mo_empt (mo_tick M))) + 1 ≤ k + n → k ≤ mq_fc (mo_loop (mo_empt (mo_tick M))) → bh_W p l e ({ frames := 3, cells := 0, slots := 0, locals := 67 } : Room) s m args below meth c 3 D A 0 0 Q (wh_modl cI bd (mo_it mo_dep1 (mo_loop (mo_empt (mo_tick M))) k) thr) ([(2, .int (nI k)), (0, .ref (bd 0))]) 79 [] := by
      intro n
      induction n with
      | zero => intro k h1 h2; exact absurd h1 (by omega)
      | succ n ih =>
        intro k h1 h2
        have hI9 := MI_dep1 hIl k
        refine bh_iload_n C dX1_minute_79 rfl 0 rfl ?_
        refine bh_aload_n C dX1_minute_80 rfl 1 rfl ?_
        refine bh_get C ct_X1_minute_in 0 rfl rfl 1 (by decide) (by decide +kernel) rfl (v := .int (nI (mq_fc (mo_it mo_dep1 (mo_loop (mo_empt (mo_tick M))) k)))) rfl dX1_minute_81 ?_
        refine bh_icmp_ge (tgt := 111) C dX1_minute_84 (by decide) (fun c_84 => ?_) (fun c_84 => ?_)
        · skip
          rw [fc_dep1] at c_84
          have c_84 := bh_le (by omega) (by omega) c_84
          have hkb : k = mq_fc (mo_loop (mo_empt (mo_tick M))) := by omega
          exact bh_vret C hQ dX1_minute_111 () (w := wh_modl cI bd (mo_it mo_dep1 (mo_loop (mo_empt (mo_tick M))) k) thr) (by rw [hkb]; rfl) (Nat.le_of_ble_eq_true rfl) (Nat.le_of_ble_eq_true rfl) trivial
        · skip
          rw [fc_dep1] at c_84
          have c_84 := bh_nle2 (by omega) (by omega) c_84
          refine bh_aload_n C dX1_minute_87 rfl 1 rfl ?_
          refine bh_get C ct_X1_minute_in 0 rfl rfl 2 (by decide) (by decide +kernel) rfl (v := .ref (bd 2)) rfl dX1_minute_88 ?_
          refine bh_iload_n C dX1_minute_91 rfl 0 rfl ?_
          refine bh_iald C 1 0 (f := (mq_dep (mo_it mo_dep1 (mo_loop (mo_empt (mo_tick M))) k))) rfl rfl (i := (nI k)) (vp_in_nI (n := k) (by omega) (by decide)) (x := ((mq_dep (mo_it mo_dep1 (mo_loop (mo_empt (mo_tick M))) k)) k)) (congrArg (mq_dep (mo_it mo_dep1 (mo_loop (mo_empt (mo_tick M))) k)) (nI_clamp (n := k) (by omega))) dX1_minute_92 ?_
          refine bh_aload_n C dX1_minute_93 rfl 1 rfl ?_
          refine bh_get C ct_X1_minute_in 0 rfl rfl 0 (by decide) (by decide +kernel) rfl (v := .int (nI (mq_now (mo_it mo_dep1 (mo_loop (mo_empt (mo_tick M))) k)))) rfl dX1_minute_94 ?_
          refine bh_icmp_ne (tgt := 105) C dX1_minute_97 (by decide) (fun c_97 => ?_) (fun c_97 => ?_)
          · skip
            refine bh_iinc (v := (nI (k + 1))) (lv' := [(2, .int (nI (k + 1))), (0, .ref (bd 0))]) C dX1_minute_105 (k := 0) rfl (nI_1 _) (by decide) rfl ?_
            refine bh_goto (tgt := 79) C dX1_minute_108 (by decide) ?_
            refine bh_eqw (w' := wh_modl cI bd (mo_it mo_dep1 (mo_loop (mo_empt (mo_tick M))) (k + 1)) thr) (congrArg (fun N => wh_modl cI bd N thr) (mo_dep_f c_97).symm) ?_
            exact bh_lv [0, 1] rfl (ih (k + 1) (by omega) (by omega))
          · skip
            refine bh_aload_n C dX1_minute_100 rfl 1 rfl ?_
            refine bh_iload_n C dX1_minute_101 rfl 0 rfl ?_
            refine bh_callv_0 (As := [.int (nI k)]) C (ct_X1_departs l D cI cZ cL bd (mo_it mo_dep1 (mo_loop (mo_empt (mo_tick M))) k) thr (nI k) hI9) (cwV 1 C.1.2.2.2.2 gX1_minute_X1_departs rfl rfl rfl (by decide +kernel) ⟨Nat.le_of_ble_eq_true rfl, Nat.le_of_ble_eq_true rfl⟩) (ci := 1) rfl 0 rfl rfl rfl (Nat.le_of_ble_eq_true rfl) dX1_minute_102 ⟨Nat.le_of_ble_eq_true rfl, Nat.le_of_ble_eq_true rfl⟩ (fun u_102 hp_102 => ?_)
            refine bh_eqw (w' := wh_modl cI bd (mo_it mo_dep1 (mo_loop (mo_empt (mo_tick M))) (k + 1)) thr) (congrArg (fun N => wh_modl cI bd N thr) (mo_dep_t c_97).symm) ?_
            refine bh_iinc (v := (nI (k + 1))) (lv' := [(2, .int (nI (k + 1))), (0, .ref (bd 0))]) C dX1_minute_105 (k := 0) rfl (nI_1 _) (by decide) rfl ?_
            refine bh_goto (tgt := 79) C dX1_minute_108 (by decide) ?_
            exact bh_lv [0, 1] rfl (ih (k + 1) (by omega) (by omega))
    exact bh_lv [0, 1] rfl (loop (mq_fc (mo_loop (mo_empt (mo_tick M))) + 1) 0 (by omega) (by omega))
  have tail : bh_W p l e ({ frames := 3, cells := 0, slots := 0, locals := 67 } : Room) s m args below meth c 3 D A 0 0 Q (wh_modl cI bd (mo_empt (mo_tick M)) thr) ([(0, .ref (bd 0))]) 44 [] := by
    refine bh_iconst (v := 0) C dX1_minute_44 (by decide) ?_
    refine bh_istore_n (lv' := [(1, .int 0), (0, .ref (bd 0))]) C dX1_minute_45 rfl (by decide) rfl ?_
    have loop : ∀ (n : Nat) (k : Nat), mq_bc (mo_empt (mo_tick M)) + 1 ≤ k + n → k ≤ mq_bc (mo_empt (mo_tick M)) → bh_W p l e ({ frames := 3, cells := 0, slots := 0, locals := 67 } : Room) s m args below meth c 3 D A 0 0 Q (wh_modl cI bd (mo_it mo_loop1 (mo_empt (mo_tick M)) k) thr) ([(1, .int (nI k)), (0, .ref (bd 0))]) 46 [] := by
      intro n
      induction n with
      | zero => intro k h1 h2; exact absurd h1 (by omega)
      | succ n ih =>
        intro k h1 h2
        have hI9 := MI_loop hIe h2
        refine bh_iload_n C dX1_minute_46 rfl 0 rfl ?_
        refine bh_aload_n C dX1_minute_47 rfl 1 rfl ?_
        refine bh_get C ct_X1_minute_in 0 rfl rfl 5 (by decide) (by decide +kernel) rfl (v := .int (nI (mq_bc (mo_it mo_loop1 (mo_empt (mo_tick M)) k)))) rfl dX1_minute_48 ?_
        refine bh_icmp_ge (tgt := 77) C dX1_minute_51 (by decide) (fun c_51 => ?_) (fun c_51 => ?_)
        · skip
          rw [bc_loop] at c_51
          have c_51 := bh_le (by omega) (by omega) c_51
          have hkb : k = mq_bc (mo_empt (mo_tick M)) := by omega
          refine bh_eqw (w' := wh_modl cI bd (mo_loop (mo_empt (mo_tick M))) thr) (by rw [hkb]; rfl) ?_
          exact bh_lv [1] rfl tail2
        · skip
          rw [bc_loop] at c_51
          have c_51 := bh_nle2 (by omega) (by omega) c_51
          refine bh_aload_n C dX1_minute_54 rfl 1 rfl ?_
          refine bh_get C ct_X1_minute_in 0 rfl rfl 6 (by decide) (by decide +kernel) rfl (v := .ref (bd 6)) rfl dX1_minute_55 ?_
          refine bh_iload_n C dX1_minute_58 rfl 0 rfl ?_
          refine bh_iald C 4 0 (f := (mq_pl (mo_it mo_loop1 (mo_empt (mo_tick M)) k))) rfl rfl (i := (nI k)) (vp_in_nI (n := k) (by omega) (by decide)) (x := ((mq_pl (mo_it mo_loop1 (mo_empt (mo_tick M)) k)) k)) (congrArg (mq_pl (mo_it mo_loop1 (mo_empt (mo_tick M)) k)) (nI_clamp (n := k) (by omega))) dX1_minute_59 ?_
          refine bh_bipush (v := 6) C dX1_minute_60 (by decide) ?_
          refine bh_icmp_ne (tgt := 71) C dX1_minute_62 (by decide) (fun c_62 => ?_) (fun c_62 => ?_)
          · skip
            refine bh_iinc (v := (nI (k + 1))) (lv' := [(1, .int (nI (k + 1))), (0, .ref (bd 0))]) C dX1_minute_71 (k := 0) rfl (nI_1 _) (by decide) rfl ?_
            refine bh_goto (tgt := 46) C dX1_minute_74 (by decide) ?_
            refine bh_eqw (w' := wh_modl cI bd (mo_it mo_loop1 (mo_empt (mo_tick M)) (k + 1)) thr) (congrArg (fun N => wh_modl cI bd N thr) (mo_loop_f c_62).symm) ?_
            exact bh_lv [0, 1] rfl (ih (k + 1) (by omega) (by omega))
          · skip
            refine bh_aload_n C dX1_minute_65 rfl 1 rfl ?_
            refine bh_iload_n C dX1_minute_66 rfl 0 rfl ?_
            refine bh_calli_0 (As := [.int (nI k)]) C (ct_X1_routes l D cI cZ cL bd (mo_it mo_loop1 (mo_empt (mo_tick M)) k) thr k hI9 (by omega) (MI_room hI9 (k := k) (by omega) (by rw [c_62]; decide))) (cwV 1 C.1.2.2.2.2 gX1_minute_X1_routes rfl rfl rfl (by decide +kernel) ⟨Nat.le_of_ble_eq_true rfl, Nat.le_of_ble_eq_true rfl⟩) (ci := 1) rfl 0 rfl rfl rfl (Nat.le_of_ble_eq_true rfl) dX1_minute_67 ⟨Nat.le_of_ble_eq_true rfl, Nat.le_of_ble_eq_true rfl⟩ (fun r_67 u_67 hp_67 => ?_)
            subst hp_67
            refine bh_eqw (w' := wh_modl cI bd (mo_it mo_loop1 (mo_empt (mo_tick M)) (k + 1)) thr) (congrArg (fun N => wh_modl cI bd N thr) (mo_loop_t c_62).symm) ?_
            refine bh_pop C dX1_minute_70 rfl ?_
            refine bh_iinc (v := (nI (k + 1))) (lv' := [(1, .int (nI (k + 1))), (0, .ref (bd 0))]) C dX1_minute_71 (k := 0) rfl (nI_1 _) (by decide) rfl ?_
            refine bh_goto (tgt := 46) C dX1_minute_74 (by decide) ?_
            exact bh_lv [0, 1] rfl (ih (k + 1) (by omega) (by omega))
    exact bh_lv [0, 1] rfl (loop (mq_bc (mo_empt (mo_tick M)) + 1) 0 (by omega) (by omega))
  refine bh_aload_n C dX1_minute_0 rfl 0 rfl ?_
  refine bh_dup C dX1_minute_1 rfl ?_
  refine bh_get C ct_X1_minute_in 0 rfl rfl 0 (by decide) (by decide +kernel) rfl (v := .int (nI (mq_now M))) rfl dX1_minute_2 ?_
  refine bh_iconst (v := 1) C dX1_minute_5 (by decide) ?_
  refine bh_iadd C dX1_minute_6 ?_
  refine bh_topi (nI_1 _) ?_
  refine bh_eqw (w' := wh_modlX cI bd (mq_now M) (mq_fc M) (mq_bc M) (mq_sc M) (mq_dep M) (mq_lat M) (mq_brd M) (mq_pl M) (mq_bf M) (mq_br M) (mq_pu M) (mq_ls M) (mq_rows M) thr) rfl ?_
  refine bh_put (ty := .int) (v := .int (nI ((mq_now M) + 1))) (w' := wh_modlX cI bd (((mq_now M) + 1)) (mq_fc M) (mq_bc M) (mq_sc M) (mq_dep M) (mq_lat M) (mq_brd M) (mq_pl M) (mq_bf M) (mq_br M) (mq_pu M) (mq_ls M) (mq_rows M) thr) C ct_X1_minute_in tyX1 tyX1_ok nmX1 0 rfl rfl 0 (by decide) (by decide +kernel) rfl rfl (by decide +kernel) rfl rfl (Nat.le_of_ble_eq_true rfl) dX1_minute_7 rfl ?_
  refine bh_eqw (w' := wh_modl cI bd (mo_tick M) thr) rfl ?_
  refine bh_aload_n C dX1_minute_10 rfl 0 rfl ?_
  refine bh_calli_0 (As := []) C (ct_X1_firstOfStore l D cI cZ cL bd (mo_tick M) thr hI0) (cwV 0 C.1.2.2.2.2 gX1_minute_X1_firstOfStore rfl rfl rfl (by decide +kernel) ⟨Nat.le_of_ble_eq_true rfl, Nat.le_of_ble_eq_true rfl⟩) (ci := 1) rfl 0 rfl rfl rfl (Nat.le_of_ble_eq_true rfl) dX1_minute_11 ⟨Nat.le_of_ble_eq_true rfl, Nat.le_of_ble_eq_true rfl⟩ (fun r_11 u_11 hp_11 => ?_)
  subst hp_11
  rcases mo_first_or (mo_tick M) (mq_bc (mo_tick M)) with q_0 | ⟨j_0, hj_0, q_0, -⟩
  · refine bh_topi q_0 ?_
    refine bh_istore_n (lv' := [(1, .int (-1)), (0, .ref (bd 0))]) C dX1_minute_14 rfl (by decide) rfl ?_
    refine bh_iconst (v := 0) C dX1_minute_15 (by decide) ?_
    refine bh_istore_n (lv' := [(2, .int 0), (1, .int (-1)), (0, .ref (bd 0))]) C dX1_minute_16 rfl (by decide) rfl ?_
    refine bh_eqlv (lv' := [(2, .int 0), (1, .int (-1)), (0, .ref (bd 0))]) rfl ?_
    refine bh_iload_n C dX1_minute_17 rfl 0 rfl ?_
    refine bh_iconst (v := 3) C dX1_minute_18 (by decide) ?_
    refine bh_icmp_ge (tgt := 44) C dX1_minute_19 (by decide) (fun c_19 => absurd c_19 (by decide)) (fun c_19 => ?_)
    refine bh_iload_n C dX1_minute_22 rfl 1 rfl ?_
    refine bh_if_lt (tgt := 44) C dX1_minute_23 (by decide) (fun c_23 => ?_) (fun c_23 => absurd c_23 (by decide))
    refine bh_eqw (w' := wh_modl cI bd (mo_empt (mo_tick M)) thr) (congrArg (fun N => wh_modl cI bd N thr) (by rw [mo_empt, mo_emp_none q_0, mo_emp_none q_0, mo_emp_none q_0])) ?_
    exact bh_lv [2] rfl tail
  · refine bh_topi q_0 ?_
    refine bh_istore_n (lv' := [(1, .int (nI j_0)), (0, .ref (bd 0))]) C dX1_minute_14 rfl (by decide) rfl ?_
    have hb_0 := MI_bc hI0; have hI1 := MI_emp hI0
    refine bh_iconst (v := 0) C dX1_minute_15 (by decide) ?_
    refine bh_istore_n (lv' := [(2, .int 0), (1, .int (nI j_0)), (0, .ref (bd 0))]) C dX1_minute_16 rfl (by decide) rfl ?_
    refine bh_eqlv (lv' := [(2, .int 0), (1, .int (nI j_0)), (0, .ref (bd 0))]) rfl ?_
    refine bh_iload_n C dX1_minute_17 rfl 0 rfl ?_
    refine bh_iconst (v := 3) C dX1_minute_18 (by decide) ?_
    refine bh_icmp_ge (tgt := 44) C dX1_minute_19 (by decide) (fun c_19 => absurd c_19 (by decide)) (fun c_19 => ?_)
    refine bh_iload_n C dX1_minute_22 rfl 1 rfl ?_
    refine bh_if_lt (tgt := 44) C dX1_minute_23 (by decide) (fun c_23 => absurd c_23 (nI_pos (by omega))) (fun c_23 => ?_)
    refine bh_aload_n C dX1_minute_26 rfl 2 rfl ?_
    refine bh_iload_n C dX1_minute_27 rfl 1 rfl ?_
    refine bh_bipush (v := 7) C dX1_minute_28 (by decide) ?_
    refine bh_callv_0 (As := [.int (nI j_0), .int 7]) C (ct_X1_comes l D cI cZ cL bd (mo_tick M) thr j_0 7 (by omega) (by have := MI_sc hI0; omega)) (cwV 2 C.1.2.2.2.2 gX1_minute_X1_comes rfl rfl rfl (by decide +kernel) ⟨Nat.le_of_ble_eq_true rfl, Nat.le_of_ble_eq_true rfl⟩) (ci := 1) rfl 0 rfl rfl rfl (Nat.le_of_ble_eq_true rfl) dX1_minute_30 ⟨Nat.le_of_ble_eq_true rfl, Nat.le_of_ble_eq_true rfl⟩ (fun u_30 hp_30 => ?_)
    refine bh_eqw (w' := wh_modl cI bd (mo_emp (mo_tick M)) thr) (by rw [mo_emp_some (by omega) q_0]) ?_
    refine bh_aload_n C dX1_minute_33 rfl 2 rfl ?_
    refine bh_calli_0 (As := []) C (ct_X1_firstOfStore l D cI cZ cL bd (mo_emp (mo_tick M)) thr hI1) (cwV 0 C.1.2.2.2.2 gX1_minute_X1_firstOfStore rfl rfl rfl (by decide +kernel) ⟨Nat.le_of_ble_eq_true rfl, Nat.le_of_ble_eq_true rfl⟩) (ci := 1) rfl 0 rfl rfl rfl (Nat.le_of_ble_eq_true rfl) dX1_minute_34 ⟨Nat.le_of_ble_eq_true rfl, Nat.le_of_ble_eq_true rfl⟩ (fun r_34 u_34 hp_34 => ?_)
    subst hp_34
    rcases mo_first_or (mo_emp (mo_tick M)) (mq_bc (mo_emp (mo_tick M))) with q_1 | ⟨j_1, hj_1, q_1, -⟩
    · refine bh_topi q_1 ?_
      refine bh_istore_n (lv' := [(1, .int (-1)), (2, .int 0), (0, .ref (bd 0))]) C dX1_minute_37 rfl (by decide) rfl ?_
      refine bh_iinc (v := (0 + 1)) (lv' := [(2, .int (0 + 1)), (1, .int (-1)), (0, .ref (bd 0))]) C dX1_minute_38 (k := 1) rfl rfl (by decide) rfl ?_
      refine bh_goto (tgt := 17) C dX1_minute_41 (by decide) ?_
      refine bh_eqlv (lv' := [(2, .int 1), (1, .int (-1)), (0, .ref (bd 0))]) rfl ?_
      refine bh_iload_n C dX1_minute_17 rfl 0 rfl ?_
      refine bh_iconst (v := 3) C dX1_minute_18 (by decide) ?_
      refine bh_icmp_ge (tgt := 44) C dX1_minute_19 (by decide) (fun c_19 => absurd c_19 (by decide)) (fun c_19 => ?_)
      refine bh_iload_n C dX1_minute_22 rfl 1 rfl ?_
      refine bh_if_lt (tgt := 44) C dX1_minute_23 (by decide) (fun c_23 => ?_) (fun c_23 => absurd c_23 (by decide))
      refine bh_eqw (w' := wh_modl cI bd (mo_empt (mo_tick M)) thr) (congrArg (fun N => wh_modl cI bd N thr) (by rw [mo_empt, mo_emp_none q_1, mo_emp_none q_1])) ?_
      exact bh_lv [2] rfl tail
    · refine bh_topi q_1 ?_
      refine bh_istore_n (lv' := [(1, .int (nI j_1)), (2, .int 0), (0, .ref (bd 0))]) C dX1_minute_37 rfl (by decide) rfl ?_
      have hb_1 := MI_bc hI1; have hI2 := MI_emp hI1
      refine bh_iinc (v := (0 + 1)) (lv' := [(2, .int (0 + 1)), (1, .int (nI j_1)), (0, .ref (bd 0))]) C dX1_minute_38 (k := 1) rfl rfl (by decide) rfl ?_
      refine bh_goto (tgt := 17) C dX1_minute_41 (by decide) ?_
      refine bh_eqlv (lv' := [(2, .int 1), (1, .int (nI j_1)), (0, .ref (bd 0))]) rfl ?_
      refine bh_iload_n C dX1_minute_17 rfl 0 rfl ?_
      refine bh_iconst (v := 3) C dX1_minute_18 (by decide) ?_
      refine bh_icmp_ge (tgt := 44) C dX1_minute_19 (by decide) (fun c_19 => absurd c_19 (by decide)) (fun c_19 => ?_)
      refine bh_iload_n C dX1_minute_22 rfl 1 rfl ?_
      refine bh_if_lt (tgt := 44) C dX1_minute_23 (by decide) (fun c_23 => absurd c_23 (nI_pos (by omega))) (fun c_23 => ?_)
      refine bh_aload_n C dX1_minute_26 rfl 2 rfl ?_
      refine bh_iload_n C dX1_minute_27 rfl 1 rfl ?_
      refine bh_bipush (v := 7) C dX1_minute_28 (by decide) ?_
      refine bh_callv_0 (As := [.int (nI j_1), .int 7]) C (ct_X1_comes l D cI cZ cL bd (mo_emp (mo_tick M)) thr j_1 7 (by omega) (by have := MI_sc hI1; omega)) (cwV 2 C.1.2.2.2.2 gX1_minute_X1_comes rfl rfl rfl (by decide +kernel) ⟨Nat.le_of_ble_eq_true rfl, Nat.le_of_ble_eq_true rfl⟩) (ci := 1) rfl 0 rfl rfl rfl (Nat.le_of_ble_eq_true rfl) dX1_minute_30 ⟨Nat.le_of_ble_eq_true rfl, Nat.le_of_ble_eq_true rfl⟩ (fun u_30 hp_30 => ?_)
      refine bh_eqw (w' := wh_modl cI bd (mo_emp (mo_emp (mo_tick M))) thr) (by rw [mo_emp_some (by omega) q_1]) ?_
      refine bh_aload_n C dX1_minute_33 rfl 2 rfl ?_
      refine bh_calli_0 (As := []) C (ct_X1_firstOfStore l D cI cZ cL bd (mo_emp (mo_emp (mo_tick M))) thr hI2) (cwV 0 C.1.2.2.2.2 gX1_minute_X1_firstOfStore rfl rfl rfl (by decide +kernel) ⟨Nat.le_of_ble_eq_true rfl, Nat.le_of_ble_eq_true rfl⟩) (ci := 1) rfl 0 rfl rfl rfl (Nat.le_of_ble_eq_true rfl) dX1_minute_34 ⟨Nat.le_of_ble_eq_true rfl, Nat.le_of_ble_eq_true rfl⟩ (fun r_34 u_34 hp_34 => ?_)
      subst hp_34
      rcases mo_first_or (mo_emp (mo_emp (mo_tick M))) (mq_bc (mo_emp (mo_emp (mo_tick M)))) with q_2 | ⟨j_2, hj_2, q_2, -⟩
      · refine bh_topi q_2 ?_
        refine bh_istore_n (lv' := [(1, .int (-1)), (2, .int 1), (0, .ref (bd 0))]) C dX1_minute_37 rfl (by decide) rfl ?_
        refine bh_iinc (v := (1 + 1)) (lv' := [(2, .int (1 + 1)), (1, .int (-1)), (0, .ref (bd 0))]) C dX1_minute_38 (k := 1) rfl rfl (by decide) rfl ?_
        refine bh_goto (tgt := 17) C dX1_minute_41 (by decide) ?_
        refine bh_eqlv (lv' := [(2, .int 2), (1, .int (-1)), (0, .ref (bd 0))]) rfl ?_
        refine bh_iload_n C dX1_minute_17 rfl 0 rfl ?_
        refine bh_iconst (v := 3) C dX1_minute_18 (by decide) ?_
        refine bh_icmp_ge (tgt := 44) C dX1_minute_19 (by decide) (fun c_19 => absurd c_19 (by decide)) (fun c_19 => ?_)
        refine bh_iload_n C dX1_minute_22 rfl 1 rfl ?_
        refine bh_if_lt (tgt := 44) C dX1_minute_23 (by decide) (fun c_23 => ?_) (fun c_23 => absurd c_23 (by decide))
        refine bh_eqw (w' := wh_modl cI bd (mo_empt (mo_tick M)) thr) (congrArg (fun N => wh_modl cI bd N thr) (by rw [mo_empt, mo_emp_none q_2])) ?_
        exact bh_lv [2] rfl tail
      · refine bh_topi q_2 ?_
        refine bh_istore_n (lv' := [(1, .int (nI j_2)), (2, .int 1), (0, .ref (bd 0))]) C dX1_minute_37 rfl (by decide) rfl ?_
        have hb_2 := MI_bc hI2; have hI3 := MI_emp hI2
        refine bh_iinc (v := (1 + 1)) (lv' := [(2, .int (1 + 1)), (1, .int (nI j_2)), (0, .ref (bd 0))]) C dX1_minute_38 (k := 1) rfl rfl (by decide) rfl ?_
        refine bh_goto (tgt := 17) C dX1_minute_41 (by decide) ?_
        refine bh_eqlv (lv' := [(2, .int 2), (1, .int (nI j_2)), (0, .ref (bd 0))]) rfl ?_
        refine bh_iload_n C dX1_minute_17 rfl 0 rfl ?_
        refine bh_iconst (v := 3) C dX1_minute_18 (by decide) ?_
        refine bh_icmp_ge (tgt := 44) C dX1_minute_19 (by decide) (fun c_19 => absurd c_19 (by decide)) (fun c_19 => ?_)
        refine bh_iload_n C dX1_minute_22 rfl 1 rfl ?_
        refine bh_if_lt (tgt := 44) C dX1_minute_23 (by decide) (fun c_23 => absurd c_23 (nI_pos (by omega))) (fun c_23 => ?_)
        refine bh_aload_n C dX1_minute_26 rfl 2 rfl ?_
        refine bh_iload_n C dX1_minute_27 rfl 1 rfl ?_
        refine bh_bipush (v := 7) C dX1_minute_28 (by decide) ?_
        refine bh_callv_0 (As := [.int (nI j_2), .int 7]) C (ct_X1_comes l D cI cZ cL bd (mo_emp (mo_emp (mo_tick M))) thr j_2 7 (by omega) (by have := MI_sc hI2; omega)) (cwV 2 C.1.2.2.2.2 gX1_minute_X1_comes rfl rfl rfl (by decide +kernel) ⟨Nat.le_of_ble_eq_true rfl, Nat.le_of_ble_eq_true rfl⟩) (ci := 1) rfl 0 rfl rfl rfl (Nat.le_of_ble_eq_true rfl) dX1_minute_30 ⟨Nat.le_of_ble_eq_true rfl, Nat.le_of_ble_eq_true rfl⟩ (fun u_30 hp_30 => ?_)
        refine bh_eqw (w' := wh_modl cI bd (mo_emp (mo_emp (mo_emp (mo_tick M)))) thr) (by rw [mo_emp_some (by omega) q_2]) ?_
        refine bh_aload_n C dX1_minute_33 rfl 2 rfl ?_
        refine bh_calli_0 (As := []) C (ct_X1_firstOfStore l D cI cZ cL bd (mo_emp (mo_emp (mo_emp (mo_tick M)))) thr hI3) (cwV 0 C.1.2.2.2.2 gX1_minute_X1_firstOfStore rfl rfl rfl (by decide +kernel) ⟨Nat.le_of_ble_eq_true rfl, Nat.le_of_ble_eq_true rfl⟩) (ci := 1) rfl 0 rfl rfl rfl (Nat.le_of_ble_eq_true rfl) dX1_minute_34 ⟨Nat.le_of_ble_eq_true rfl, Nat.le_of_ble_eq_true rfl⟩ (fun r_34 u_34 hp_34 => ?_)
        subst hp_34
        rcases mo_first_or (mo_emp (mo_emp (mo_emp (mo_tick M)))) (mq_bc (mo_emp (mo_emp (mo_emp (mo_tick M))))) with q_3 | ⟨j_3, hj_3, q_3, -⟩
        · refine bh_topi q_3 ?_
          refine bh_istore_n (lv' := [(1, .int (-1)), (2, .int 2), (0, .ref (bd 0))]) C dX1_minute_37 rfl (by decide) rfl ?_
          refine bh_iinc (v := (2 + 1)) (lv' := [(2, .int (2 + 1)), (1, .int (-1)), (0, .ref (bd 0))]) C dX1_minute_38 (k := 1) rfl rfl (by decide) rfl ?_
          refine bh_goto (tgt := 17) C dX1_minute_41 (by decide) ?_
          refine bh_eqlv (lv' := [(2, .int 3), (1, .int (-1)), (0, .ref (bd 0))]) rfl ?_
          refine bh_iload_n C dX1_minute_17 rfl 0 rfl ?_
          refine bh_iconst (v := 3) C dX1_minute_18 (by decide) ?_
          refine bh_icmp_ge (tgt := 44) C dX1_minute_19 (by decide) (fun c_19 => ?_) (fun c_19 => absurd c_19 (by decide))
          refine bh_eqw (w' := wh_modl cI bd (mo_empt (mo_tick M)) thr) rfl ?_
          exact bh_lv [2] rfl tail
        · refine bh_topi q_3 ?_
          refine bh_istore_n (lv' := [(1, .int (nI j_3)), (2, .int 2), (0, .ref (bd 0))]) C dX1_minute_37 rfl (by decide) rfl ?_
          have hb_3 := MI_bc hI3; have hI4 := MI_emp hI3
          refine bh_iinc (v := (2 + 1)) (lv' := [(2, .int (2 + 1)), (1, .int (nI j_3)), (0, .ref (bd 0))]) C dX1_minute_38 (k := 1) rfl rfl (by decide) rfl ?_
          refine bh_goto (tgt := 17) C dX1_minute_41 (by decide) ?_
          refine bh_eqlv (lv' := [(2, .int 3), (1, .int (nI j_3)), (0, .ref (bd 0))]) rfl ?_
          refine bh_iload_n C dX1_minute_17 rfl 0 rfl ?_
          refine bh_iconst (v := 3) C dX1_minute_18 (by decide) ?_
          refine bh_icmp_ge (tgt := 44) C dX1_minute_19 (by decide) (fun c_19 => ?_) (fun c_19 => absurd c_19 (by decide))
          refine bh_eqw (w' := wh_modl cI bd (mo_empt (mo_tick M)) thr) rfl ?_
          exact bh_lv [2] rfl tail
