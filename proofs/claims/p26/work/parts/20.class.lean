theorem ct_X0_closing_in : ∀ w ∈ wsX00, w ∈ wsX0_closing := by decide +kernel
set_option maxRecDepth 100000 in
set_option maxHeartbeats 4000000 in
theorem ct_X0_closing (l : Launch) (D : va_G) (cI cZ cL : ClassId) (ad : Nat → Nat) (M : MT) (x : Int32) (hx : vp_in x 10) : bh_Mi l D (wh_tys cI cZ cL) yX0_closing wsX0_closing ({ frames := 0, cells := 0, slots := 0, locals := 0 } : Room) [.ref (ad 0), .int x] (wh_hall cI cZ ad M) (fun r (_ : Unit) => r = mq_dep M x.toNatClampNeg - 10) (fun _ => wh_hall cI cZ ad M) 0 0 := by
  refine bh_ofi (cc := cX0_closing) (maxL := 2) (by decide +kernel) rfl (Nat.le_of_ble_eq_true rfl) ?_
  intro p e s m args below meth c A Q _ C hQ
  refine bh_eqlv (lv' := [(0, .ref (ad 0)), (1, .int x)]) rfl ?_
  refine bh_aload_n C dX0_closing_0 rfl 0 rfl ?_
  refine bh_get C ct_X0_closing_in 0 rfl rfl 2 (by decide) (by decide +kernel) rfl (v := .ref (ad 2)) rfl dX0_closing_1 ?_
  refine bh_iload_n C dX0_closing_4 rfl 1 rfl ?_
  refine bh_iald C 1 0 (f := (mq_dep M)) rfl rfl (i := x) hx (x := ((mq_dep M) x.toNatClampNeg)) rfl dX0_closing_5 ?_
  refine bh_bipush (v := 10) C dX0_closing_6 (by decide) ?_
  refine bh_isub C dX0_closing_8 ?_
  exact bh_zret C hQ dX0_closing_9 () (v := (((mq_dep M) x.toNatClampNeg) - 10)) (w := wh_hall cI cZ ad M) rfl rfl (Nat.le_of_ble_eq_true rfl) (Nat.le_of_ble_eq_true rfl) (by first | rfl | exact (if_pos (by first | assumption | exact bh_nlt (by assumption))).symm | exact (if_neg (by first | assumption | exact bh_nle (by assumption))).symm)
theorem ct_X0_hasClosed_in : ∀ w ∈ wsX00, w ∈ wsX0_hasClosed := by decide +kernel
set_option maxRecDepth 100000 in
set_option maxHeartbeats 4000000 in
theorem ct_X0_hasClosed (l : Launch) (D : va_G) (cI cZ cL : ClassId) (ad : Nat → Nat) (M : MT) (x : Int32) (hx : vp_in x 10) : bh_Mi l D (wh_tys cI cZ cL) yX0_hasClosed wsX0_hasClosed ({ frames := 1, cells := 0, slots := 0, locals := 21 } : Room) [.ref (ad 0), .int x] (wh_hall cI cZ ad M) (fun r (_ : Unit) => r = if mo_closed M x then 1 else 0) (fun _ => wh_hall cI cZ ad M) 0 0 := by
  refine bh_ofi (cc := cX0_hasClosed) (maxL := 2) (by decide +kernel) rfl (Nat.le_of_ble_eq_true rfl) ?_
  intro p e s m args below meth c A Q _ C hQ
  refine bh_eqlv (lv' := [(0, .ref (ad 0)), (1, .int x)]) rfl ?_
  refine bh_aload_n C dX0_hasClosed_0 rfl 0 rfl ?_
  refine bh_get C ct_X0_hasClosed_in 0 rfl rfl 0 (by decide) (by decide +kernel) rfl (v := .int (nI (mq_now M))) rfl dX0_hasClosed_1 ?_
  refine bh_aload_n C dX0_hasClosed_4 rfl 0 rfl ?_
  refine bh_iload_n C dX0_hasClosed_5 rfl 1 rfl ?_
  refine bh_calli_0 (As := [.int x]) C (ct_X0_closing l D cI cZ cL ad M x hx) (cwV 1 C.1.2.2.2.2 gX0_hasClosed_X0_closing rfl rfl rfl (by decide +kernel) ⟨Nat.le_of_ble_eq_true rfl, Nat.le_of_ble_eq_true rfl⟩) (ci := 0) rfl 0 rfl rfl rfl (Nat.le_of_ble_eq_true rfl) dX0_hasClosed_6 ⟨Nat.le_of_ble_eq_true rfl, Nat.le_of_ble_eq_true rfl⟩ (fun r_6 u_6 hp_6 => ?_)
  subst hp_6
  refine bh_icmp_lt (tgt := 16) C dX0_hasClosed_9 (by decide) (fun c_9 => ?_) (fun c_9 => ?_)
  · skip
    refine bh_iconst (v := 0) C dX0_hasClosed_16 (by decide) ?_
    exact bh_zret C hQ dX0_hasClosed_17 () (v := 0) (w := wh_hall cI cZ ad M) rfl rfl (Nat.le_of_ble_eq_true rfl) (Nat.le_of_ble_eq_true rfl) (by first | rfl | exact (if_pos (by first | assumption | exact bh_nlt (by assumption))).symm | exact (if_neg (by first | assumption | exact bh_nle (by assumption))).symm)
  · skip
    refine bh_iconst (v := 1) C dX0_hasClosed_12 (by decide) ?_
    refine bh_goto (tgt := 17) C dX0_hasClosed_13 (by decide) ?_
    exact bh_zret C hQ dX0_hasClosed_17 () (v := 1) (w := wh_hall cI cZ ad M) rfl rfl (Nat.le_of_ble_eq_true rfl) (Nat.le_of_ble_eq_true rfl) (by first | rfl | exact (if_pos (by first | assumption | exact bh_nlt (by assumption))).symm | exact (if_neg (by first | assumption | exact bh_nle (by assumption))).symm)
theorem ct_X0_hasOpened_in : ∀ w ∈ wsX00, w ∈ wsX0_hasOpened := by decide +kernel
set_option maxRecDepth 100000 in
set_option maxHeartbeats 4000000 in
theorem ct_X0_hasOpened (l : Launch) (D : va_G) (cI cZ cL : ClassId) (ad : Nat → Nat) (M : MT) (x : Int32) (hx : vp_in x 10) : bh_Mi l D (wh_tys cI cZ cL) yX0_hasOpened wsX0_hasOpened ({ frames := 0, cells := 0, slots := 0, locals := 0 } : Room) [.ref (ad 0), .int x] (wh_hall cI cZ ad M) (fun r (_ : Unit) => r = if mo_opened M x then 1 else 0) (fun _ => wh_hall cI cZ ad M) 0 0 := by
  refine bh_ofi (cc := cX0_hasOpened) (maxL := 2) (by decide +kernel) rfl (Nat.le_of_ble_eq_true rfl) ?_
  intro p e s m args below meth c A Q _ C hQ
  refine bh_eqlv (lv' := [(0, .ref (ad 0)), (1, .int x)]) rfl ?_
  refine bh_aload_n C dX0_hasOpened_0 rfl 0 rfl ?_
  refine bh_get C ct_X0_hasOpened_in 0 rfl rfl 0 (by decide) (by decide +kernel) rfl (v := .int (nI (mq_now M))) rfl dX0_hasOpened_1 ?_
  refine bh_aload_n C dX0_hasOpened_4 rfl 0 rfl ?_
  refine bh_get C ct_X0_hasOpened_in 0 rfl rfl 2 (by decide) (by decide +kernel) rfl (v := .ref (ad 2)) rfl dX0_hasOpened_5 ?_
  refine bh_iload_n C dX0_hasOpened_8 rfl 1 rfl ?_
  refine bh_iald C 1 0 (f := (mq_dep M)) rfl rfl (i := x) hx (x := ((mq_dep M) x.toNatClampNeg)) rfl dX0_hasOpened_9 ?_
  refine bh_bipush (v := 60) C dX0_hasOpened_10 (by decide) ?_
  refine bh_isub C dX0_hasOpened_12 ?_
  refine bh_icmp_lt (tgt := 20) C dX0_hasOpened_13 (by decide) (fun c_13 => ?_) (fun c_13 => ?_)
  · skip
    refine bh_iconst (v := 0) C dX0_hasOpened_20 (by decide) ?_
    exact bh_zret C hQ dX0_hasOpened_21 () (v := 0) (w := wh_hall cI cZ ad M) rfl rfl (Nat.le_of_ble_eq_true rfl) (Nat.le_of_ble_eq_true rfl) (by first | rfl | exact (if_pos (by first | assumption | exact bh_nlt (by assumption))).symm | exact (if_neg (by first | assumption | exact bh_nle (by assumption))).symm)
  · skip
    refine bh_iconst (v := 1) C dX0_hasOpened_16 (by decide) ?_
    refine bh_goto (tgt := 21) C dX0_hasOpened_17 (by decide) ?_
    exact bh_zret C hQ dX0_hasOpened_21 () (v := 1) (w := wh_hall cI cZ ad M) rfl rfl (Nat.le_of_ble_eq_true rfl) (Nat.le_of_ble_eq_true rfl) (by first | rfl | exact (if_pos (by first | assumption | exact bh_nlt (by assumption))).symm | exact (if_neg (by first | assumption | exact bh_nle (by assumption))).symm)
theorem ct_X0_isFree_in : ∀ w ∈ wsX00, w ∈ wsX0_isFree := by decide +kernel
set_option maxRecDepth 100000 in
set_option maxHeartbeats 4000000 in
theorem ct_X0_isFree (l : Launch) (D : va_G) (cI cZ cL : ClassId) (ad : Nat → Nat) {K T : Nat} (M : MT) (x d : Int32) (hI : MI K T M) (hd : vp_in d 200000) : bh_Mi l D (wh_tys cI cZ cL) yX0_isFree wsX0_isFree ({ frames := 1, cells := 0, slots := 0, locals := 21 } : Room) [.ref (ad 0), .int x, .int d] (wh_hall cI cZ ad M) (fun r (_ : Unit) => r = if mo_free M d x then 1 else 0) (fun _ => wh_hall cI cZ ad M) 0 0 := by
  refine bh_ofi (cc := cX0_isFree) (maxL := 4) (by decide +kernel) rfl (Nat.le_of_ble_eq_true rfl) ?_
  intro p e s m args below meth c A Q _ C hQ
  refine bh_eqlv (lv' := [(0, .ref (ad 0)), (1, .int x), (2, .int d)]) rfl ?_
  have hfc := MI_fc hI; have hbc := MI_bc hI; have hsc := MI_sc hI; have hnow := MI_now2 hI
  refine bh_iconst (v := 0) C dX0_isFree_0 (by decide) ?_
  refine bh_istore_n (lv' := [(3, .int 0), (0, .ref (ad 0)), (1, .int x), (2, .int d)]) C dX0_isFree_1 rfl (by decide) rfl ?_
  have loop : ∀ (n : Nat) (k : Nat), mq_fc M + 1 ≤ k + n → k ≤ mq_fc M → (∀ j, j < k → ¬ mo_clash M d x j) → bh_W p l e ({ frames := 1, cells := 0, slots := 0, locals := 21 } : Room) s m args below meth c 4 D A 0 0 Q (wh_hall cI cZ ad M) ([(3, .int (nI k)), (0, .ref (ad 0)), (1, .int x), (2, .int d)]) 2 [] := by
    intro n
    induction n with
    | zero => intro k h1 h2; exact absurd h1 (by omega)
    | succ n ih =>
      intro k h1 h2 inv
      refine bh_iload_n C dX0_isFree_2 rfl 0 rfl ?_
      refine bh_aload_n C dX0_isFree_3 rfl 1 rfl ?_
      refine bh_get C ct_X0_isFree_in 0 rfl rfl 1 (by decide) (by decide +kernel) rfl (v := .int (nI (mq_fc M))) rfl dX0_isFree_4 ?_
      refine bh_icmp_ge (tgt := 44) C dX0_isFree_7 (by decide) (fun c_7 => ?_) (fun c_7 => ?_)
      · skip
        have c_7 := bh_le (by omega) (by omega) c_7
        refine bh_iconst (v := 1) C dX0_isFree_44 (by decide) ?_
        exact bh_zret C hQ dX0_isFree_45 () (v := 1) (w := wh_hall cI cZ ad M) rfl rfl (Nat.le_of_ble_eq_true rfl) (Nat.le_of_ble_eq_true rfl) (by rw [if_pos (fun j hj => inv j (by omega))])
      · skip
        have c_7 := bh_nle2 (by omega) (by omega) c_7
        refine bh_aload_n C dX0_isFree_10 rfl 1 rfl ?_
        refine bh_get C ct_X0_isFree_in 0 rfl rfl 3 (by decide) (by decide +kernel) rfl (v := .ref (ad 3)) rfl dX0_isFree_11 ?_
        refine bh_iload_n C dX0_isFree_14 rfl 0 rfl ?_
        refine bh_iald C 2 0 (f := (mq_lat M)) rfl rfl (i := (nI k)) (vp_in_nI (n := k) (by omega) (by decide)) (x := ((mq_lat M) k)) (congrArg (mq_lat M) (nI_clamp (n := k) (by omega))) dX0_isFree_15 ?_
        refine bh_iload_n C dX0_isFree_16 rfl 2 rfl ?_
        refine bh_icmp_ne (tgt := 38) C dX0_isFree_17 (by decide) (fun c_17 => ?_) (fun c_17 => ?_)
        · skip
          refine bh_iinc (v := (nI (k + 1))) (lv' := [(3, .int (nI (k + 1))), (0, .ref (ad 0)), (1, .int x), (2, .int d)]) C dX0_isFree_38 (k := 0) rfl (nI_1 _) (by decide) rfl ?_
          refine bh_goto (tgt := 2) C dX0_isFree_41 (by decide) ?_
          exact bh_lv [0, 1, 2, 3] rfl (ih (k + 1) (by omega) (by omega) (fun j hj => by rcases Nat.lt_succ_iff_lt_or_eq.mp hj with q | q; exact inv j q; rw [q]; first | exact fun z => c_17 z.1 | exact fun z => absurd c_33 (bh_absT (MI_dep hI k) hd z.2)))
        · skip
          refine bh_aload_n C dX0_isFree_20 rfl 1 rfl ?_
          refine bh_get C ct_X0_isFree_in 0 rfl rfl 2 (by decide) (by decide +kernel) rfl (v := .ref (ad 2)) rfl dX0_isFree_21 ?_
          refine bh_iload_n C dX0_isFree_24 rfl 0 rfl ?_
          refine bh_iald C 1 0 (f := (mq_dep M)) rfl rfl (i := (nI k)) (vp_in_nI (n := k) (by omega) (by decide)) (x := ((mq_dep M) k)) (congrArg (mq_dep M) (nI_clamp (n := k) (by omega))) dX0_isFree_25 ?_
          refine bh_iload_n C dX0_isFree_26 rfl 3 rfl ?_
          refine bh_isub C dX0_isFree_27 ?_
          refine bh_mabs C (by decide +kernel) (by decide +kernel) (by decide +kernel) (by decide +kernel) (Nat.le_of_ble_eq_true rfl) (Nat.le_of_ble_eq_true rfl) (Nat.zero_le _) (Nat.zero_le _) dX0_isFree_28 ?_
          refine bh_bipush (v := 60) C dX0_isFree_31 (by decide) ?_
          refine bh_icmp_ge (tgt := 38) C dX0_isFree_33 (by decide) (fun c_33 => ?_) (fun c_33 => ?_)
          · skip
            refine bh_iinc (v := (nI (k + 1))) (lv' := [(3, .int (nI (k + 1))), (0, .ref (ad 0)), (1, .int x), (2, .int d)]) C dX0_isFree_38 (k := 0) rfl (nI_1 _) (by decide) rfl ?_
            refine bh_goto (tgt := 2) C dX0_isFree_41 (by decide) ?_
            exact bh_lv [0, 1, 2, 3] rfl (ih (k + 1) (by omega) (by omega) (fun j hj => by rcases Nat.lt_succ_iff_lt_or_eq.mp hj with q | q; exact inv j q; rw [q]; first | exact fun z => c_17 z.1 | exact fun z => absurd c_33 (bh_absT (MI_dep hI k) hd z.2)))
          · skip
            refine bh_iconst (v := 0) C dX0_isFree_36 (by decide) ?_
            exact bh_zret C hQ dX0_isFree_37 () (v := 0) (w := wh_hall cI cZ ad M) rfl rfl (Nat.le_of_ble_eq_true rfl) (Nat.le_of_ble_eq_true rfl) (by rw [if_neg (fun z => z k c_7 ⟨c_17, bh_absF (MI_dep hI k) hd (Int32.not_le.mp c_33)⟩)])
  exact bh_lv [0, 1, 2, 3] rfl (loop (mq_fc M + 1) 0 (by omega) (by omega) (fun j hj => absurd hj (by omega)))
set_option maxRecDepth 100000 in
set_option maxHeartbeats 4000000 in
theorem ct_X0_lowestFreeLateral (l : Launch) (D : va_G) (cI cZ cL : ClassId) (ad : Nat → Nat) {K T : Nat} (M : MT) (d : Int32) (hI : MI K T M) (hd : vp_in d 200000) : bh_Mi l D (wh_tys cI cZ cL) yX0_lowestFreeLateral wsX0_lowestFreeLateral ({ frames := 2, cells := 0, slots := 0, locals := 44 } : Room) [.ref (ad 0), .int d] (wh_hall cI cZ ad M) (fun r (_ : Unit) => r = mo_low M d) (fun _ => wh_hall cI cZ ad M) 0 0 := by
  refine bh_ofi (cc := cX0_lowestFreeLateral) (maxL := 3) (by decide +kernel) rfl (Nat.le_of_ble_eq_true rfl) ?_
  intro p e s m args below meth c A Q _ C hQ
  refine bh_eqlv (lv' := [(0, .ref (ad 0)), (1, .int d)]) rfl ?_
  have hfc := MI_fc hI; have hbc := MI_bc hI; have hsc := MI_sc hI; have hnow := MI_now2 hI
  refine bh_iconst (v := 0) C dX0_lowestFreeLateral_0 (by decide) ?_
  refine bh_istore_n (lv' := [(2, .int 0), (0, .ref (ad 0)), (1, .int d)]) C dX0_lowestFreeLateral_1 rfl (by decide) rfl ?_
  refine bh_iload_n C dX0_lowestFreeLateral_2 rfl 0 rfl ?_
  refine bh_iconst (v := 4) C dX0_lowestFreeLateral_3 (by decide) ?_
  refine bh_icmp_ge (tgt := 24) C dX0_lowestFreeLateral_4 (by decide) (fun c_4 => absurd c_4 (by decide)) (fun c_4 => ?_)
  refine bh_aload_n C dX0_lowestFreeLateral_7 rfl 1 rfl ?_
  refine bh_iload_n C dX0_lowestFreeLateral_8 rfl 0 rfl ?_
  refine bh_iload_n C dX0_lowestFreeLateral_9 rfl 2 rfl ?_
  refine bh_calli_0 (As := [.int 0, .int d]) C (ct_X0_isFree l D cI cZ cL ad M 0 d hI hd) (cwV 2 C.1.2.2.2.2 gX0_lowestFreeLateral_X0_isFree rfl rfl rfl (by decide +kernel) ⟨Nat.le_of_ble_eq_true rfl, Nat.le_of_ble_eq_true rfl⟩) (ci := 0) rfl 0 rfl rfl rfl (Nat.le_of_ble_eq_true rfl) dX0_lowestFreeLateral_10 ⟨Nat.le_of_ble_eq_true rfl, Nat.le_of_ble_eq_true rfl⟩ (fun r_10 u_10 hp_10 => ?_)
  subst hp_10
  refine bh_if_eq (tgt := 18) C dX0_lowestFreeLateral_13 (by decide) (fun c_13 => ?_) (fun c_13 => ?_)
  · skip
    replace c_13 := bh_eq0 c_13
    have f_0 := c_13
    refine bh_iinc (v := (0 + 1)) (lv' := [(2, .int (0 + 1)), (0, .ref (ad 0)), (1, .int d)]) C dX0_lowestFreeLateral_18 (k := 0) rfl rfl (by decide) rfl ?_
    refine bh_goto (tgt := 2) C dX0_lowestFreeLateral_21 (by decide) ?_
    refine bh_iload_n C dX0_lowestFreeLateral_2 rfl 0 rfl ?_
    refine bh_iconst (v := 4) C dX0_lowestFreeLateral_3 (by decide) ?_
    refine bh_icmp_ge (tgt := 24) C dX0_lowestFreeLateral_4 (by decide) (fun c_4 => absurd c_4 (by decide)) (fun c_4 => ?_)
    refine bh_aload_n C dX0_lowestFreeLateral_7 rfl 1 rfl ?_
    refine bh_iload_n C dX0_lowestFreeLateral_8 rfl 0 rfl ?_
    refine bh_iload_n C dX0_lowestFreeLateral_9 rfl 2 rfl ?_
    refine bh_calli_0 (As := [.int 1, .int d]) C (ct_X0_isFree l D cI cZ cL ad M 1 d hI hd) (cwV 2 C.1.2.2.2.2 gX0_lowestFreeLateral_X0_isFree rfl rfl rfl (by decide +kernel) ⟨Nat.le_of_ble_eq_true rfl, Nat.le_of_ble_eq_true rfl⟩) (ci := 0) rfl 0 rfl rfl rfl (Nat.le_of_ble_eq_true rfl) dX0_lowestFreeLateral_10 ⟨Nat.le_of_ble_eq_true rfl, Nat.le_of_ble_eq_true rfl⟩ (fun r_10 u_10 hp_10 => ?_)
    subst hp_10
    refine bh_if_eq (tgt := 18) C dX0_lowestFreeLateral_13 (by decide) (fun c_13 => ?_) (fun c_13 => ?_)
    · skip
      replace c_13 := bh_eq0 c_13
      have f_1 := c_13
      refine bh_iinc (v := (1 + 1)) (lv' := [(2, .int (1 + 1)), (0, .ref (ad 0)), (1, .int d)]) C dX0_lowestFreeLateral_18 (k := 0) rfl rfl (by decide) rfl ?_
      refine bh_goto (tgt := 2) C dX0_lowestFreeLateral_21 (by decide) ?_
      refine bh_iload_n C dX0_lowestFreeLateral_2 rfl 0 rfl ?_
      refine bh_iconst (v := 4) C dX0_lowestFreeLateral_3 (by decide) ?_
      refine bh_icmp_ge (tgt := 24) C dX0_lowestFreeLateral_4 (by decide) (fun c_4 => absurd c_4 (by decide)) (fun c_4 => ?_)
      refine bh_aload_n C dX0_lowestFreeLateral_7 rfl 1 rfl ?_
      refine bh_iload_n C dX0_lowestFreeLateral_8 rfl 0 rfl ?_
      refine bh_iload_n C dX0_lowestFreeLateral_9 rfl 2 rfl ?_
      refine bh_calli_0 (As := [.int 2, .int d]) C (ct_X0_isFree l D cI cZ cL ad M 2 d hI hd) (cwV 2 C.1.2.2.2.2 gX0_lowestFreeLateral_X0_isFree rfl rfl rfl (by decide +kernel) ⟨Nat.le_of_ble_eq_true rfl, Nat.le_of_ble_eq_true rfl⟩) (ci := 0) rfl 0 rfl rfl rfl (Nat.le_of_ble_eq_true rfl) dX0_lowestFreeLateral_10 ⟨Nat.le_of_ble_eq_true rfl, Nat.le_of_ble_eq_true rfl⟩ (fun r_10 u_10 hp_10 => ?_)
      subst hp_10
      refine bh_if_eq (tgt := 18) C dX0_lowestFreeLateral_13 (by decide) (fun c_13 => ?_) (fun c_13 => ?_)
      · skip
        replace c_13 := bh_eq0 c_13
        have f_2 := c_13
        refine bh_iinc (v := (2 + 1)) (lv' := [(2, .int (2 + 1)), (0, .ref (ad 0)), (1, .int d)]) C dX0_lowestFreeLateral_18 (k := 0) rfl rfl (by decide) rfl ?_
        refine bh_goto (tgt := 2) C dX0_lowestFreeLateral_21 (by decide) ?_
        refine bh_iload_n C dX0_lowestFreeLateral_2 rfl 0 rfl ?_
        refine bh_iconst (v := 4) C dX0_lowestFreeLateral_3 (by decide) ?_
        refine bh_icmp_ge (tgt := 24) C dX0_lowestFreeLateral_4 (by decide) (fun c_4 => absurd c_4 (by decide)) (fun c_4 => ?_)
        refine bh_aload_n C dX0_lowestFreeLateral_7 rfl 1 rfl ?_
        refine bh_iload_n C dX0_lowestFreeLateral_8 rfl 0 rfl ?_
        refine bh_iload_n C dX0_lowestFreeLateral_9 rfl 2 rfl ?_
        refine bh_calli_0 (As := [.int 3, .int d]) C (ct_X0_isFree l D cI cZ cL ad M 3 d hI hd) (cwV 2 C.1.2.2.2.2 gX0_lowestFreeLateral_X0_isFree rfl rfl rfl (by decide +kernel) ⟨Nat.le_of_ble_eq_true rfl, Nat.le_of_ble_eq_true rfl⟩) (ci := 0) rfl 0 rfl rfl rfl (Nat.le_of_ble_eq_true rfl) dX0_lowestFreeLateral_10 ⟨Nat.le_of_ble_eq_true rfl, Nat.le_of_ble_eq_true rfl⟩ (fun r_10 u_10 hp_10 => ?_)
        subst hp_10
        refine bh_if_eq (tgt := 18) C dX0_lowestFreeLateral_13 (by decide) (fun c_13 => ?_) (fun c_13 => ?_)
        · skip
          replace c_13 := bh_eq0 c_13
          have f_3 := c_13
          refine bh_iinc (v := (3 + 1)) (lv' := [(2, .int (3 + 1)), (0, .ref (ad 0)), (1, .int d)]) C dX0_lowestFreeLateral_18 (k := 0) rfl rfl (by decide) rfl ?_
          refine bh_goto (tgt := 2) C dX0_lowestFreeLateral_21 (by decide) ?_
          refine bh_iload_n C dX0_lowestFreeLateral_2 rfl 0 rfl ?_
          refine bh_iconst (v := 4) C dX0_lowestFreeLateral_3 (by decide) ?_
          refine bh_icmp_ge (tgt := 24) C dX0_lowestFreeLateral_4 (by decide) (fun c_4 => ?_) (fun c_4 => absurd c_4 (by decide))
          refine bh_iconst (v := (-1)) C dX0_lowestFreeLateral_24 (by decide) ?_
          exact bh_zret C hQ dX0_lowestFreeLateral_25 () (v := (-1)) (w := wh_hall cI cZ ad M) rfl rfl (Nat.le_of_ble_eq_true rfl) (Nat.le_of_ble_eq_true rfl) (by unfold mo_low; rw [if_neg f_0, if_neg f_1, if_neg f_2, if_neg f_3])
        · skip
          replace c_13 := bh_ne0 c_13
          have f_3 := c_13
          refine bh_iload_n C dX0_lowestFreeLateral_16 rfl 0 rfl ?_
          exact bh_zret C hQ dX0_lowestFreeLateral_17 () (v := 3) (w := wh_hall cI cZ ad M) rfl rfl (Nat.le_of_ble_eq_true rfl) (Nat.le_of_ble_eq_true rfl) (by unfold mo_low; rw [if_neg f_0, if_neg f_1, if_neg f_2, if_pos f_3])
      · skip
        replace c_13 := bh_ne0 c_13
        have f_2 := c_13
        refine bh_iload_n C dX0_lowestFreeLateral_16 rfl 0 rfl ?_
        exact bh_zret C hQ dX0_lowestFreeLateral_17 () (v := 2) (w := wh_hall cI cZ ad M) rfl rfl (Nat.le_of_ble_eq_true rfl) (Nat.le_of_ble_eq_true rfl) (by unfold mo_low; rw [if_neg f_0, if_neg f_1, if_pos f_2])
    · skip
      replace c_13 := bh_ne0 c_13
      have f_1 := c_13
      refine bh_iload_n C dX0_lowestFreeLateral_16 rfl 0 rfl ?_
      exact bh_zret C hQ dX0_lowestFreeLateral_17 () (v := 1) (w := wh_hall cI cZ ad M) rfl rfl (Nat.le_of_ble_eq_true rfl) (Nat.le_of_ble_eq_true rfl) (by unfold mo_low; rw [if_neg f_0, if_pos f_1])
  · skip
    replace c_13 := bh_ne0 c_13
    have f_0 := c_13
    refine bh_iload_n C dX0_lowestFreeLateral_16 rfl 0 rfl ?_
    exact bh_zret C hQ dX0_lowestFreeLateral_17 () (v := 0) (w := wh_hall cI cZ ad M) rfl rfl (Nat.le_of_ble_eq_true rfl) (Nat.le_of_ble_eq_true rfl) (by unfold mo_low; rw [if_pos f_0])
theorem ct_X0_requireFlight_in : ∀ w ∈ wsX00, w ∈ wsX0_requireFlight := by decide +kernel
theorem ct_X0_requireFlight_at134 : ∀ z ∈ (vx_atS RX0 134 xe_I xe_ns).filter goodWord, z ∈ wsX0_requireFlight := by decide +kernel
set_option maxRecDepth 100000 in
set_option maxHeartbeats 4000000 in
theorem ct_X0_requireFlight (l : Launch) (hl : l.stackTraces = false) (D : va_G) (cI cZ cL : ClassId) (ad : Nat → Nat) {K T : Nat} (M : MT) (x : Int32) (hI : MI K T M) : bh_Xv l D (wh_tys cI cZ cL) yX0_requireFlight wsX0_requireFlight ({ frames := 6, cells := 1, slots := 6, locals := 90 } : Room) [.ref (ad 0), .int x] (wh_hall cI cZ ad M) (fun (_ : Unit) => vp_in x (mq_fc M)) (fun _ => wh_hall cI cZ ad M) (fun E => E = xe_I ∧ ¬ vp_in x (mq_fc M)) 1 6 := by
  refine bh_ofXv (cc := cX0_requireFlight) (maxL := 2) (by decide +kernel) rfl (Nat.le_of_ble_eq_true rfl) ?_
  intro p e s m args below meth c A Q C hQ hE hno
  refine bh_eqlv (lv' := [(0, .ref (ad 0)), (1, .int x)]) rfl ?_
  have hfc := MI_fc hI; have hbc := MI_bc hI; have hsc := MI_sc hI; have hnow := MI_now2 hI
  refine bh_iload_n C dX0_requireFlight_0 rfl 1 rfl ?_
  refine bh_if_lt (tgt := 12) C dX0_requireFlight_1 (by decide) (fun c_1 => ?_) (fun c_1 => ?_)
  · skip
    exact bh_throw C hE hno hl hQ (cls := xe_I) (text := "there is no such flight") (by decide +kernel) (by decide +kernel) (by decide +kernel) (by decide +kernel) ct_X0_requireFlight_at134 xe_hb134 xe_hg134_130 dX0_requireFlight_12 dX0_requireFlight_15 dX0_requireFlight_16 dX0_requireFlight_18 dX0_requireFlight_21 (Nat.le_of_ble_eq_true rfl) (Nat.le_of_ble_eq_true rfl) (Nat.le_of_ble_eq_true rfl) (Nat.le_of_ble_eq_true rfl) (Nat.le_of_ble_eq_true rfl) (Nat.le_of_ble_eq_true rfl) ⟨rfl, by first | exact bh_out1 c_1 | exact bh_out2 (by omega) c_9⟩
  · skip
    refine bh_iload_n C dX0_requireFlight_4 rfl 1 rfl ?_
    refine bh_aload_n C dX0_requireFlight_5 rfl 0 rfl ?_
    refine bh_get C ct_X0_requireFlight_in 0 rfl rfl 1 (by decide) (by decide +kernel) rfl (v := .int (nI (mq_fc M))) rfl dX0_requireFlight_6 ?_
    refine bh_icmp_lt (tgt := 22) C dX0_requireFlight_9 (by decide) (fun c_9 => ?_) (fun c_9 => ?_)
    · skip
      exact bh_xvret C hQ dX0_requireFlight_22 () (w := wh_hall cI cZ ad M) rfl (Nat.le_of_ble_eq_true rfl) (Nat.le_of_ble_eq_true rfl) (bh_in (by omega) c_1 c_9)
    · skip
      exact bh_throw C hE hno hl hQ (cls := xe_I) (text := "there is no such flight") (by decide +kernel) (by decide +kernel) (by decide +kernel) (by decide +kernel) ct_X0_requireFlight_at134 xe_hb134 xe_hg134_130 dX0_requireFlight_12 dX0_requireFlight_15 dX0_requireFlight_16 dX0_requireFlight_18 dX0_requireFlight_21 (Nat.le_of_ble_eq_true rfl) (Nat.le_of_ble_eq_true rfl) (Nat.le_of_ble_eq_true rfl) (Nat.le_of_ble_eq_true rfl) (Nat.le_of_ble_eq_true rfl) (Nat.le_of_ble_eq_true rfl) ⟨rfl, by first | exact bh_out1 c_1 | exact bh_out2 (by omega) c_9⟩
theorem ct_X0_requireRider_at134 : ∀ z ∈ (vx_atS RX0 134 xe_I xe_ns).filter goodWord, z ∈ wsX0_requireRider := by decide +kernel
set_option maxRecDepth 100000 in
set_option maxHeartbeats 4000000 in
theorem ct_X0_requireRider (l : Launch) (hl : l.stackTraces = false) (D : va_G) (cI cZ cL : ClassId) (ad : Nat → Nat) {K T : Nat} (M : MT) (x : Int32) (hI : MI K T M) : bh_Xv l D (wh_tys cI cZ cL) yX0_requireRider wsX0_requireRider ({ frames := 6, cells := 1, slots := 6, locals := 90 } : Room) [.ref (ad 0), .int x] (wh_hall cI cZ ad M) (fun (_ : Unit) => vp_in x (40)) (fun _ => wh_hall cI cZ ad M) (fun E => E = xe_I ∧ ¬ vp_in x (40)) 1 6 := by
  refine bh_ofXv (cc := cX0_requireRider) (maxL := 2) (by decide +kernel) rfl (Nat.le_of_ble_eq_true rfl) ?_
  intro p e s m args below meth c A Q C hQ hE hno
  refine bh_eqlv (lv' := [(0, .ref (ad 0)), (1, .int x)]) rfl ?_
  have hfc := MI_fc hI; have hbc := MI_bc hI; have hsc := MI_sc hI; have hnow := MI_now2 hI
  refine bh_iload_n C dX0_requireRider_0 rfl 1 rfl ?_
  refine bh_if_lt (tgt := 10) C dX0_requireRider_1 (by decide) (fun c_1 => ?_) (fun c_1 => ?_)
  · skip
    exact bh_throw C hE hno hl hQ (cls := xe_I) (text := "there is no such rider") (by decide +kernel) (by decide +kernel) (by decide +kernel) (by decide +kernel) ct_X0_requireRider_at134 xe_hb134 xe_hg134_130 dX0_requireRider_10 dX0_requireRider_13 dX0_requireRider_14 dX0_requireRider_16 dX0_requireRider_19 (Nat.le_of_ble_eq_true rfl) (Nat.le_of_ble_eq_true rfl) (Nat.le_of_ble_eq_true rfl) (Nat.le_of_ble_eq_true rfl) (Nat.le_of_ble_eq_true rfl) (Nat.le_of_ble_eq_true rfl) ⟨rfl, by first | exact bh_out1 c_1 | exact bh_out2 (n := 40) (by omega) c_7⟩
  · skip
    refine bh_iload_n C dX0_requireRider_4 rfl 1 rfl ?_
    refine bh_bipush (v := 40) C dX0_requireRider_5 (by decide) ?_
    refine bh_icmp_lt (tgt := 20) C dX0_requireRider_7 (by decide) (fun c_7 => ?_) (fun c_7 => ?_)
    · skip
      exact bh_xvret C hQ dX0_requireRider_20 () (w := wh_hall cI cZ ad M) rfl (Nat.le_of_ble_eq_true rfl) (Nat.le_of_ble_eq_true rfl) (bh_in (n := 40) (by omega) c_1 c_7)
    · skip
      exact bh_throw C hE hno hl hQ (cls := xe_I) (text := "there is no such rider") (by decide +kernel) (by decide +kernel) (by decide +kernel) (by decide +kernel) ct_X0_requireRider_at134 xe_hb134 xe_hg134_130 dX0_requireRider_10 dX0_requireRider_13 dX0_requireRider_14 dX0_requireRider_16 dX0_requireRider_19 (Nat.le_of_ble_eq_true rfl) (Nat.le_of_ble_eq_true rfl) (Nat.le_of_ble_eq_true rfl) (Nat.le_of_ble_eq_true rfl) (Nat.le_of_ble_eq_true rfl) (Nat.le_of_ble_eq_true rfl) ⟨rfl, by first | exact bh_out1 c_1 | exact bh_out2 (n := 40) (by omega) c_7⟩
theorem ct_X0_requireBag_in : ∀ w ∈ wsX00, w ∈ wsX0_requireBag := by decide +kernel
theorem ct_X0_requireBag_at134 : ∀ z ∈ (vx_atS RX0 134 xe_I xe_ns).filter goodWord, z ∈ wsX0_requireBag := by decide +kernel
set_option maxRecDepth 100000 in
set_option maxHeartbeats 4000000 in
theorem ct_X0_requireBag (l : Launch) (hl : l.stackTraces = false) (D : va_G) (cI cZ cL : ClassId) (ad : Nat → Nat) {K T : Nat} (M : MT) (x : Int32) (hI : MI K T M) : bh_Xv l D (wh_tys cI cZ cL) yX0_requireBag wsX0_requireBag ({ frames := 6, cells := 1, slots := 6, locals := 90 } : Room) [.ref (ad 0), .int x] (wh_hall cI cZ ad M) (fun (_ : Unit) => vp_in x (mq_bc M)) (fun _ => wh_hall cI cZ ad M) (fun E => E = xe_I ∧ ¬ vp_in x (mq_bc M)) 1 6 := by
  refine bh_ofXv (cc := cX0_requireBag) (maxL := 2) (by decide +kernel) rfl (Nat.le_of_ble_eq_true rfl) ?_
  intro p e s m args below meth c A Q C hQ hE hno
  refine bh_eqlv (lv' := [(0, .ref (ad 0)), (1, .int x)]) rfl ?_
  have hfc := MI_fc hI; have hbc := MI_bc hI; have hsc := MI_sc hI; have hnow := MI_now2 hI
  refine bh_iload_n C dX0_requireBag_0 rfl 1 rfl ?_
  refine bh_if_lt (tgt := 12) C dX0_requireBag_1 (by decide) (fun c_1 => ?_) (fun c_1 => ?_)
  · skip
    exact bh_throw C hE hno hl hQ (cls := xe_I) (text := "there is no such bag") (by decide +kernel) (by decide +kernel) (by decide +kernel) (by decide +kernel) ct_X0_requireBag_at134 xe_hb134 xe_hg134_130 dX0_requireBag_12 dX0_requireBag_15 dX0_requireBag_16 dX0_requireBag_18 dX0_requireBag_21 (Nat.le_of_ble_eq_true rfl) (Nat.le_of_ble_eq_true rfl) (Nat.le_of_ble_eq_true rfl) (Nat.le_of_ble_eq_true rfl) (Nat.le_of_ble_eq_true rfl) (Nat.le_of_ble_eq_true rfl) ⟨rfl, by first | exact bh_out1 c_1 | exact bh_out2 (by omega) c_9⟩
  · skip
    refine bh_iload_n C dX0_requireBag_4 rfl 1 rfl ?_
    refine bh_aload_n C dX0_requireBag_5 rfl 0 rfl ?_
    refine bh_get C ct_X0_requireBag_in 0 rfl rfl 5 (by decide) (by decide +kernel) rfl (v := .int (nI (mq_bc M))) rfl dX0_requireBag_6 ?_
    refine bh_icmp_lt (tgt := 22) C dX0_requireBag_9 (by decide) (fun c_9 => ?_) (fun c_9 => ?_)
    · skip
      exact bh_xvret C hQ dX0_requireBag_22 () (w := wh_hall cI cZ ad M) rfl (Nat.le_of_ble_eq_true rfl) (Nat.le_of_ble_eq_true rfl) (bh_in (by omega) c_1 c_9)
    · skip
      exact bh_throw C hE hno hl hQ (cls := xe_I) (text := "there is no such bag") (by decide +kernel) (by decide +kernel) (by decide +kernel) (by decide +kernel) ct_X0_requireBag_at134 xe_hb134 xe_hg134_130 dX0_requireBag_12 dX0_requireBag_15 dX0_requireBag_16 dX0_requireBag_18 dX0_requireBag_21 (Nat.le_of_ble_eq_true rfl) (Nat.le_of_ble_eq_true rfl) (Nat.le_of_ble_eq_true rfl) (Nat.le_of_ble_eq_true rfl) (Nat.le_of_ble_eq_true rfl) (Nat.le_of_ble_eq_true rfl) ⟨rfl, by first | exact bh_out1 c_1 | exact bh_out2 (by omega) c_9⟩
theorem ct_X0_requireScan_in : ∀ w ∈ wsX00, w ∈ wsX0_requireScan := by decide +kernel
theorem ct_X0_requireScan_at134 : ∀ z ∈ (vx_atS RX0 134 xe_I xe_ns).filter goodWord, z ∈ wsX0_requireScan := by decide +kernel
set_option maxRecDepth 100000 in
set_option maxHeartbeats 4000000 in
theorem ct_X0_requireScan (l : Launch) (hl : l.stackTraces = false) (D : va_G) (cI cZ cL : ClassId) (ad : Nat → Nat) {K T : Nat} (M : MT) (x : Int32) (hI : MI K T M) : bh_Xv l D (wh_tys cI cZ cL) yX0_requireScan wsX0_requireScan ({ frames := 6, cells := 1, slots := 6, locals := 90 } : Room) [.ref (ad 0), .int x] (wh_hall cI cZ ad M) (fun (_ : Unit) => vp_in x (mq_sc M)) (fun _ => wh_hall cI cZ ad M) (fun E => E = xe_I ∧ ¬ vp_in x (mq_sc M)) 1 6 := by
  refine bh_ofXv (cc := cX0_requireScan) (maxL := 2) (by decide +kernel) rfl (Nat.le_of_ble_eq_true rfl) ?_
  intro p e s m args below meth c A Q C hQ hE hno
  refine bh_eqlv (lv' := [(0, .ref (ad 0)), (1, .int x)]) rfl ?_
  have hfc := MI_fc hI; have hbc := MI_bc hI; have hsc := MI_sc hI; have hnow := MI_now2 hI
  refine bh_iload_n C dX0_requireScan_0 rfl 1 rfl ?_
  refine bh_if_lt (tgt := 12) C dX0_requireScan_1 (by decide) (fun c_1 => ?_) (fun c_1 => ?_)
  · skip
    exact bh_throw C hE hno hl hQ (cls := xe_I) (text := "there is no such scan") (by decide +kernel) (by decide +kernel) (by decide +kernel) (by decide +kernel) ct_X0_requireScan_at134 xe_hb134 xe_hg134_130 dX0_requireScan_12 dX0_requireScan_15 dX0_requireScan_16 dX0_requireScan_18 dX0_requireScan_21 (Nat.le_of_ble_eq_true rfl) (Nat.le_of_ble_eq_true rfl) (Nat.le_of_ble_eq_true rfl) (Nat.le_of_ble_eq_true rfl) (Nat.le_of_ble_eq_true rfl) (Nat.le_of_ble_eq_true rfl) ⟨rfl, by first | exact bh_out1 c_1 | exact bh_out2 (by omega) c_9⟩
  · skip
    refine bh_iload_n C dX0_requireScan_4 rfl 1 rfl ?_
    refine bh_aload_n C dX0_requireScan_5 rfl 0 rfl ?_
    refine bh_get C ct_X0_requireScan_in 0 rfl rfl 13 (by decide) (by decide +kernel) rfl (v := .int (nI (mq_sc M))) rfl dX0_requireScan_6 ?_
    refine bh_icmp_lt (tgt := 22) C dX0_requireScan_9 (by decide) (fun c_9 => ?_) (fun c_9 => ?_)
    · skip
      exact bh_xvret C hQ dX0_requireScan_22 () (w := wh_hall cI cZ ad M) rfl (Nat.le_of_ble_eq_true rfl) (Nat.le_of_ble_eq_true rfl) (bh_in (by omega) c_1 c_9)
    · skip
      exact bh_throw C hE hno hl hQ (cls := xe_I) (text := "there is no such scan") (by decide +kernel) (by decide +kernel) (by decide +kernel) (by decide +kernel) ct_X0_requireScan_at134 xe_hb134 xe_hg134_130 dX0_requireScan_12 dX0_requireScan_15 dX0_requireScan_16 dX0_requireScan_18 dX0_requireScan_21 (Nat.le_of_ble_eq_true rfl) (Nat.le_of_ble_eq_true rfl) (Nat.le_of_ble_eq_true rfl) (Nat.le_of_ble_eq_true rfl) (Nat.le_of_ble_eq_true rfl) (Nat.le_of_ble_eq_true rfl) ⟨rfl, by first | exact bh_out1 c_1 | exact bh_out2 (by omega) c_9⟩
theorem ct_X0_requirePlace_in : ∀ w ∈ wsX00, w ∈ wsX0_requirePlace := by decide +kernel
theorem ct_X0_requirePlace_at65 : ∀ z ∈ (vx_atS RX0 65 xe_S xe_ns).filter goodWord, z ∈ wsX0_requirePlace := by decide +kernel
set_option maxRecDepth 100000 in
set_option maxHeartbeats 4000000 in
theorem ct_X0_requirePlace (l : Launch) (hl : l.stackTraces = false) (D : va_G) (cI cZ cL : ClassId) (ad : Nat → Nat) (M : MT) (k : Nat) (q : Int32) (hk : k < 48) : bh_Xv l D (wh_tys cI cZ cL) yX0_requirePlace wsX0_requirePlace ({ frames := 6, cells := 1, slots := 6, locals := 90 } : Room) [.ref (ad 0), .int (nI k), .int q] (wh_hall cI cZ ad M) (fun (_ : Unit) => mq_pl M k = q) (fun _ => wh_hall cI cZ ad M) (fun E => E = xe_S ∧ mq_pl M k ≠ q) 1 6 := by
  refine bh_ofXv (cc := cX0_requirePlace) (maxL := 3) (by decide +kernel) rfl (Nat.le_of_ble_eq_true rfl) ?_
  intro p e s m args below meth c A Q C hQ hE hno
  refine bh_eqlv (lv' := [(0, .ref (ad 0)), (1, .int (nI k)), (2, .int q)]) rfl ?_
  refine bh_aload_n C dX0_requirePlace_0 rfl 0 rfl ?_
  refine bh_get C ct_X0_requirePlace_in 0 rfl rfl 9 (by decide) (by decide +kernel) rfl (v := .ref (ad 9)) rfl dX0_requirePlace_1 ?_
  refine bh_iload_n C dX0_requirePlace_4 rfl 1 rfl ?_
  refine bh_iald C 7 0 (f := (mq_pl M)) rfl rfl (i := (nI k)) (vp_in_nI (n := k) (by omega) (by decide)) (x := ((mq_pl M) k)) (congrArg (mq_pl M) (nI_clamp (n := k) (by omega))) dX0_requirePlace_5 ?_
  refine bh_iload_n C dX0_requirePlace_6 rfl 2 rfl ?_
  refine bh_icmp_eq (tgt := 20) C dX0_requirePlace_7 (by decide) (fun c_7 => ?_) (fun c_7 => ?_)
  · skip
    exact bh_xvret C hQ dX0_requirePlace_20 () (w := wh_hall cI cZ ad M) rfl (Nat.le_of_ble_eq_true rfl) (Nat.le_of_ble_eq_true rfl) c_7
  · skip
    exact bh_throw C hE hno hl hQ (cls := xe_S) (text := "the bag is at another place") (by decide +kernel) (by decide +kernel) (by decide +kernel) (by decide +kernel) ct_X0_requirePlace_at65 xe_hb65 xe_hg65_61 dX0_requirePlace_10 dX0_requirePlace_13 dX0_requirePlace_14 dX0_requirePlace_16 dX0_requirePlace_19 (Nat.le_of_ble_eq_true rfl) (Nat.le_of_ble_eq_true rfl) (Nat.le_of_ble_eq_true rfl) (Nat.le_of_ble_eq_true rfl) (Nat.le_of_ble_eq_true rfl) (Nat.le_of_ble_eq_true rfl) ⟨rfl, c_7⟩
theorem ct_X0_requireNotDeparted_in : ∀ w ∈ wsX00, w ∈ wsX0_requireNotDeparted := by decide +kernel
theorem ct_X0_requireNotDeparted_at65 : ∀ z ∈ (vx_atS RX0 65 xe_S xe_ns).filter goodWord, z ∈ wsX0_requireNotDeparted := by decide +kernel
set_option maxRecDepth 100000 in
set_option maxHeartbeats 4000000 in
theorem ct_X0_requireNotDeparted (l : Launch) (hl : l.stackTraces = false) (D : va_G) (cI cZ cL : ClassId) (ad : Nat → Nat) (M : MT) (x : Int32) (hx : vp_in x 10) : bh_Xv l D (wh_tys cI cZ cL) yX0_requireNotDeparted wsX0_requireNotDeparted ({ frames := 6, cells := 1, slots := 6, locals := 90 } : Room) [.ref (ad 0), .int x] (wh_hall cI cZ ad M) (fun (_ : Unit) => nI (mq_now M) < mq_dep M x.toNatClampNeg) (fun _ => wh_hall cI cZ ad M) (fun E => E = xe_S ∧ ¬ nI (mq_now M) < mq_dep M x.toNatClampNeg) 1 6 := by
  refine bh_ofXv (cc := cX0_requireNotDeparted) (maxL := 2) (by decide +kernel) rfl (Nat.le_of_ble_eq_true rfl) ?_
  intro p e s m args below meth c A Q C hQ hE hno
  refine bh_eqlv (lv' := [(0, .ref (ad 0)), (1, .int x)]) rfl ?_
  refine bh_aload_n C dX0_requireNotDeparted_0 rfl 0 rfl ?_
  refine bh_get C ct_X0_requireNotDeparted_in 0 rfl rfl 0 (by decide) (by decide +kernel) rfl (v := .int (nI (mq_now M))) rfl dX0_requireNotDeparted_1 ?_
  refine bh_aload_n C dX0_requireNotDeparted_4 rfl 0 rfl ?_
  refine bh_get C ct_X0_requireNotDeparted_in 0 rfl rfl 2 (by decide) (by decide +kernel) rfl (v := .ref (ad 2)) rfl dX0_requireNotDeparted_5 ?_
  refine bh_iload_n C dX0_requireNotDeparted_8 rfl 1 rfl ?_
  refine bh_iald C 1 0 (f := (mq_dep M)) rfl rfl (i := x) hx (x := ((mq_dep M) x.toNatClampNeg)) rfl dX0_requireNotDeparted_9 ?_
  refine bh_icmp_lt (tgt := 23) C dX0_requireNotDeparted_10 (by decide) (fun c_10 => ?_) (fun c_10 => ?_)
  · skip
    exact bh_xvret C hQ dX0_requireNotDeparted_23 () (w := wh_hall cI cZ ad M) rfl (Nat.le_of_ble_eq_true rfl) (Nat.le_of_ble_eq_true rfl) c_10
  · skip
    exact bh_throw C hE hno hl hQ (cls := xe_S) (text := "the flight has departed") (by decide +kernel) (by decide +kernel) (by decide +kernel) (by decide +kernel) ct_X0_requireNotDeparted_at65 xe_hb65 xe_hg65_61 dX0_requireNotDeparted_13 dX0_requireNotDeparted_16 dX0_requireNotDeparted_17 dX0_requireNotDeparted_19 dX0_requireNotDeparted_22 (Nat.le_of_ble_eq_true rfl) (Nat.le_of_ble_eq_true rfl) (Nat.le_of_ble_eq_true rfl) (Nat.le_of_ble_eq_true rfl) (Nat.le_of_ble_eq_true rfl) (Nat.le_of_ble_eq_true rfl) ⟨rfl, c_10⟩
