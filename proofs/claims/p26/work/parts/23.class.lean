theorem ct_X0_placeOf_in : ∀ w ∈ wsX00, w ∈ wsX0_placeOf := by decide +kernel
set_option maxRecDepth 100000 in
set_option maxHeartbeats 4000000 in
theorem ct_X0_placeOf (l : Launch) (hl : l.stackTraces = false) (D : va_G) (cI cZ cL : ClassId) (ad : Nat → Nat) {K T : Nat} (M : MT) (b : Int32) (hI : MI K T M) : bh_Xi l D (wh_tys cI cZ cL) yX0_placeOf wsX0_placeOf ({ frames := 7, cells := 1, slots := 6, locals := 111 } : Room) [.ref (ad 0), .int b] (wh_hall cI cZ ad M) (fun r (_ : Unit) => co_in b (mq_bc M) = 0 ∧ r = mq_pl M b.toNatClampNeg) (fun _ => wh_hall cI cZ ad M) (mo_px xe_I xe_S (co_in b (mq_bc M))) 1 6 := by
  refine bh_ofXi (cc := cX0_placeOf) (maxL := 2) (by decide +kernel) rfl (Nat.le_of_ble_eq_true rfl) ?_
  intro p e s m args below meth c A Q C hQ hE hno
  refine bh_eqlv (lv' := [(0, .ref (ad 0)), (1, .int b)]) rfl ?_
  have hfc := MI_fc hI; have hbc := MI_bc hI; have hsc := MI_sc hI; have hnow := MI_now2 hI
  refine bh_aload_n C dX0_placeOf_0 rfl 0 rfl ?_
  refine bh_iload_n C dX0_placeOf_1 rfl 1 rfl ?_
  refine bh_xcallv (As := [.int b]) C hQ hE hno (ct_X0_requireBag l hl D cI cZ cL ad M b hI) (cwV 1 C.1.2.2.2.2 gX0_placeOf_X0_requireBag rfl rfl rfl (by decide +kernel) ⟨Nat.le_of_ble_eq_true rfl, Nat.le_of_ble_eq_true rfl⟩) (ci := 0) rfl 0 rfl rfl rfl (Nat.le_of_ble_eq_true rfl) dX0_placeOf_2 ⟨Nat.le_of_ble_eq_true rfl, Nat.le_of_ble_eq_true rfl⟩ (Nat.le_of_ble_eq_true rfl) (Nat.le_of_ble_eq_true rfl) (fun E h9 => Or.inl ⟨h9.1, co_in1 h9.2⟩) (fun u_2 hp_2 => ?_)
  have hb9 := hp_2
  obtain ⟨k, hk, rfl⟩ := vp_in_of hp_2 (by omega)
  have hk9 : (nI k).toNatClampNeg = k := nI_clamp (by omega)
  refine bh_aload_n C dX0_placeOf_5 rfl 0 rfl ?_
  refine bh_get C ct_X0_placeOf_in 0 rfl rfl 9 (by decide) (by decide +kernel) rfl (v := .ref (ad 9)) rfl dX0_placeOf_6 ?_
  refine bh_iload_n C dX0_placeOf_9 rfl 1 rfl ?_
  refine bh_iald C 7 0 (f := (mq_pl M)) rfl rfl (i := (nI k)) (vp_in_nI (n := k) (by omega) (by decide)) (x := ((mq_pl M) k)) (congrArg (mq_pl M) (nI_clamp (n := k) (by omega))) dX0_placeOf_10 ?_
  exact bh_xzret C hQ dX0_placeOf_11 () (v := ((mq_pl M) k)) (w := wh_hall cI cZ ad M) rfl rfl (Nat.le_of_ble_eq_true rfl) (Nat.le_of_ble_eq_true rfl) ⟨co_in0 hb9, by rw [hk9]⟩
theorem ct_X0_flightOf_in : ∀ w ∈ wsX00, w ∈ wsX0_flightOf := by decide +kernel
set_option maxRecDepth 100000 in
set_option maxHeartbeats 4000000 in
theorem ct_X0_flightOf (l : Launch) (hl : l.stackTraces = false) (D : va_G) (cI cZ cL : ClassId) (ad : Nat → Nat) {K T : Nat} (M : MT) (b : Int32) (hI : MI K T M) : bh_Xi l D (wh_tys cI cZ cL) yX0_flightOf wsX0_flightOf ({ frames := 7, cells := 1, slots := 6, locals := 111 } : Room) [.ref (ad 0), .int b] (wh_hall cI cZ ad M) (fun r (_ : Unit) => co_in b (mq_bc M) = 0 ∧ r = mq_bf M b.toNatClampNeg) (fun _ => wh_hall cI cZ ad M) (mo_px xe_I xe_S (co_in b (mq_bc M))) 1 6 := by
  refine bh_ofXi (cc := cX0_flightOf) (maxL := 2) (by decide +kernel) rfl (Nat.le_of_ble_eq_true rfl) ?_
  intro p e s m args below meth c A Q C hQ hE hno
  refine bh_eqlv (lv' := [(0, .ref (ad 0)), (1, .int b)]) rfl ?_
  have hfc := MI_fc hI; have hbc := MI_bc hI; have hsc := MI_sc hI; have hnow := MI_now2 hI
  refine bh_aload_n C dX0_flightOf_0 rfl 0 rfl ?_
  refine bh_iload_n C dX0_flightOf_1 rfl 1 rfl ?_
  refine bh_xcallv (As := [.int b]) C hQ hE hno (ct_X0_requireBag l hl D cI cZ cL ad M b hI) (cwV 1 C.1.2.2.2.2 gX0_flightOf_X0_requireBag rfl rfl rfl (by decide +kernel) ⟨Nat.le_of_ble_eq_true rfl, Nat.le_of_ble_eq_true rfl⟩) (ci := 0) rfl 0 rfl rfl rfl (Nat.le_of_ble_eq_true rfl) dX0_flightOf_2 ⟨Nat.le_of_ble_eq_true rfl, Nat.le_of_ble_eq_true rfl⟩ (Nat.le_of_ble_eq_true rfl) (Nat.le_of_ble_eq_true rfl) (fun E h9 => Or.inl ⟨h9.1, co_in1 h9.2⟩) (fun u_2 hp_2 => ?_)
  have hb9 := hp_2
  obtain ⟨k, hk, rfl⟩ := vp_in_of hp_2 (by omega)
  have hk9 : (nI k).toNatClampNeg = k := nI_clamp (by omega)
  refine bh_aload_n C dX0_flightOf_5 rfl 0 rfl ?_
  refine bh_get C ct_X0_flightOf_in 0 rfl rfl 6 (by decide) (by decide +kernel) rfl (v := .ref (ad 6)) rfl dX0_flightOf_6 ?_
  refine bh_iload_n C dX0_flightOf_9 rfl 1 rfl ?_
  refine bh_iald C 4 0 (f := (mq_bf M)) rfl rfl (i := (nI k)) (vp_in_nI (n := k) (by omega) (by decide)) (x := ((mq_bf M) k)) (congrArg (mq_bf M) (nI_clamp (n := k) (by omega))) dX0_flightOf_10 ?_
  exact bh_xzret C hQ dX0_flightOf_11 () (v := ((mq_bf M) k)) (w := wh_hall cI cZ ad M) rfl rfl (Nat.le_of_ble_eq_true rfl) (Nat.le_of_ble_eq_true rfl) ⟨co_in0 hb9, by rw [hk9]⟩
theorem ct_X0_lateralOf_in : ∀ w ∈ wsX00, w ∈ wsX0_lateralOf := by decide +kernel
set_option maxRecDepth 100000 in
set_option maxHeartbeats 4000000 in
theorem ct_X0_lateralOf (l : Launch) (hl : l.stackTraces = false) (D : va_G) (cI cZ cL : ClassId) (ad : Nat → Nat) {K T : Nat} (M : MT) (x : Int32) (hI : MI K T M) : bh_Xi l D (wh_tys cI cZ cL) yX0_lateralOf wsX0_lateralOf ({ frames := 7, cells := 1, slots := 6, locals := 111 } : Room) [.ref (ad 0), .int x] (wh_hall cI cZ ad M) (fun r (_ : Unit) => co_in x (mq_fc M) = 0 ∧ r = mq_lat M x.toNatClampNeg) (fun _ => wh_hall cI cZ ad M) (mo_px xe_I xe_S (co_in x (mq_fc M))) 1 6 := by
  refine bh_ofXi (cc := cX0_lateralOf) (maxL := 2) (by decide +kernel) rfl (Nat.le_of_ble_eq_true rfl) ?_
  intro p e s m args below meth c A Q C hQ hE hno
  refine bh_eqlv (lv' := [(0, .ref (ad 0)), (1, .int x)]) rfl ?_
  have hfc := MI_fc hI; have hbc := MI_bc hI; have hsc := MI_sc hI; have hnow := MI_now2 hI
  refine bh_aload_n C dX0_lateralOf_0 rfl 0 rfl ?_
  refine bh_iload_n C dX0_lateralOf_1 rfl 1 rfl ?_
  refine bh_xcallv (As := [.int x]) C hQ hE hno (ct_X0_requireFlight l hl D cI cZ cL ad M x hI) (cwV 1 C.1.2.2.2.2 gX0_lateralOf_X0_requireFlight rfl rfl rfl (by decide +kernel) ⟨Nat.le_of_ble_eq_true rfl, Nat.le_of_ble_eq_true rfl⟩) (ci := 0) rfl 0 rfl rfl rfl (Nat.le_of_ble_eq_true rfl) dX0_lateralOf_2 ⟨Nat.le_of_ble_eq_true rfl, Nat.le_of_ble_eq_true rfl⟩ (Nat.le_of_ble_eq_true rfl) (Nat.le_of_ble_eq_true rfl) (fun E h9 => Or.inl ⟨h9.1, co_in1 h9.2⟩) (fun u_2 hp_2 => ?_)
  refine bh_aload_n C dX0_lateralOf_5 rfl 0 rfl ?_
  refine bh_get C ct_X0_lateralOf_in 0 rfl rfl 3 (by decide) (by decide +kernel) rfl (v := .ref (ad 3)) rfl dX0_lateralOf_6 ?_
  refine bh_iload_n C dX0_lateralOf_9 rfl 1 rfl ?_
  refine bh_iald C 2 0 (f := (mq_lat M)) rfl rfl (i := x) (bh_inW hp_2 hfc) (x := ((mq_lat M) x.toNatClampNeg)) rfl dX0_lateralOf_10 ?_
  exact bh_xzret C hQ dX0_lateralOf_11 () (v := ((mq_lat M) x.toNatClampNeg)) (w := wh_hall cI cZ ad M) rfl rfl (Nat.le_of_ble_eq_true rfl) (Nat.le_of_ble_eq_true rfl) ⟨co_in0 hp_2, rfl⟩
theorem ct_X0_bagOfScan_in : ∀ w ∈ wsX00, w ∈ wsX0_bagOfScan := by decide +kernel
set_option maxRecDepth 100000 in
set_option maxHeartbeats 4000000 in
theorem ct_X0_bagOfScan (l : Launch) (hl : l.stackTraces = false) (D : va_G) (cI cZ cL : ClassId) (ad : Nat → Nat) {K T : Nat} (M : MT) (x : Int32) (hI : MI K T M) : bh_Xi l D (wh_tys cI cZ cL) yX0_bagOfScan wsX0_bagOfScan ({ frames := 7, cells := 1, slots := 6, locals := 111 } : Room) [.ref (ad 0), .int x] (wh_hall cI cZ ad M) (fun r (_ : Unit) => co_in x (mq_sc M) = 0 ∧ r = mq_sb M x.toNatClampNeg) (fun _ => wh_hall cI cZ ad M) (mo_px xe_I xe_S (co_in x (mq_sc M))) 1 6 := by
  refine bh_ofXi (cc := cX0_bagOfScan) (maxL := 2) (by decide +kernel) rfl (Nat.le_of_ble_eq_true rfl) ?_
  intro p e s m args below meth c A Q C hQ hE hno
  refine bh_eqlv (lv' := [(0, .ref (ad 0)), (1, .int x)]) rfl ?_
  have hfc := MI_fc hI; have hbc := MI_bc hI; have hsc := MI_sc hI; have hnow := MI_now2 hI
  refine bh_aload_n C dX0_bagOfScan_0 rfl 0 rfl ?_
  refine bh_iload_n C dX0_bagOfScan_1 rfl 1 rfl ?_
  refine bh_xcallv (As := [.int x]) C hQ hE hno (ct_X0_requireScan l hl D cI cZ cL ad M x hI) (cwV 1 C.1.2.2.2.2 gX0_bagOfScan_X0_requireScan rfl rfl rfl (by decide +kernel) ⟨Nat.le_of_ble_eq_true rfl, Nat.le_of_ble_eq_true rfl⟩) (ci := 0) rfl 0 rfl rfl rfl (Nat.le_of_ble_eq_true rfl) dX0_bagOfScan_2 ⟨Nat.le_of_ble_eq_true rfl, Nat.le_of_ble_eq_true rfl⟩ (Nat.le_of_ble_eq_true rfl) (Nat.le_of_ble_eq_true rfl) (fun E h9 => Or.inl ⟨h9.1, co_in1 h9.2⟩) (fun u_2 hp_2 => ?_)
  refine bh_aload_n C dX0_bagOfScan_5 rfl 0 rfl ?_
  refine bh_get C ct_X0_bagOfScan_in 0 rfl rfl 14 (by decide) (by decide +kernel) rfl (v := .ref (ad 14)) rfl dX0_bagOfScan_6 ?_
  refine bh_iload_n C dX0_bagOfScan_9 rfl 1 rfl ?_
  refine bh_iald C 11 0 (f := (mq_sb M)) rfl rfl (i := x) (bh_inW hp_2 hsc) (x := ((mq_sb M) x.toNatClampNeg)) rfl dX0_bagOfScan_10 ?_
  exact bh_xzret C hQ dX0_bagOfScan_11 () (v := ((mq_sb M) x.toNatClampNeg)) (w := wh_hall cI cZ ad M) rfl rfl (Nat.le_of_ble_eq_true rfl) (Nat.le_of_ble_eq_true rfl) ⟨co_in0 hp_2, rfl⟩
theorem ct_X0_placeOfScan_in : ∀ w ∈ wsX00, w ∈ wsX0_placeOfScan := by decide +kernel
set_option maxRecDepth 100000 in
set_option maxHeartbeats 4000000 in
theorem ct_X0_placeOfScan (l : Launch) (hl : l.stackTraces = false) (D : va_G) (cI cZ cL : ClassId) (ad : Nat → Nat) {K T : Nat} (M : MT) (x : Int32) (hI : MI K T M) : bh_Xi l D (wh_tys cI cZ cL) yX0_placeOfScan wsX0_placeOfScan ({ frames := 7, cells := 1, slots := 6, locals := 111 } : Room) [.ref (ad 0), .int x] (wh_hall cI cZ ad M) (fun r (_ : Unit) => co_in x (mq_sc M) = 0 ∧ r = mq_sp M x.toNatClampNeg) (fun _ => wh_hall cI cZ ad M) (mo_px xe_I xe_S (co_in x (mq_sc M))) 1 6 := by
  refine bh_ofXi (cc := cX0_placeOfScan) (maxL := 2) (by decide +kernel) rfl (Nat.le_of_ble_eq_true rfl) ?_
  intro p e s m args below meth c A Q C hQ hE hno
  refine bh_eqlv (lv' := [(0, .ref (ad 0)), (1, .int x)]) rfl ?_
  have hfc := MI_fc hI; have hbc := MI_bc hI; have hsc := MI_sc hI; have hnow := MI_now2 hI
  refine bh_aload_n C dX0_placeOfScan_0 rfl 0 rfl ?_
  refine bh_iload_n C dX0_placeOfScan_1 rfl 1 rfl ?_
  refine bh_xcallv (As := [.int x]) C hQ hE hno (ct_X0_requireScan l hl D cI cZ cL ad M x hI) (cwV 1 C.1.2.2.2.2 gX0_placeOfScan_X0_requireScan rfl rfl rfl (by decide +kernel) ⟨Nat.le_of_ble_eq_true rfl, Nat.le_of_ble_eq_true rfl⟩) (ci := 0) rfl 0 rfl rfl rfl (Nat.le_of_ble_eq_true rfl) dX0_placeOfScan_2 ⟨Nat.le_of_ble_eq_true rfl, Nat.le_of_ble_eq_true rfl⟩ (Nat.le_of_ble_eq_true rfl) (Nat.le_of_ble_eq_true rfl) (fun E h9 => Or.inl ⟨h9.1, co_in1 h9.2⟩) (fun u_2 hp_2 => ?_)
  refine bh_aload_n C dX0_placeOfScan_5 rfl 0 rfl ?_
  refine bh_get C ct_X0_placeOfScan_in 0 rfl rfl 15 (by decide) (by decide +kernel) rfl (v := .ref (ad 15)) rfl dX0_placeOfScan_6 ?_
  refine bh_iload_n C dX0_placeOfScan_9 rfl 1 rfl ?_
  refine bh_iald C 12 0 (f := (mq_sp M)) rfl rfl (i := x) (bh_inW hp_2 hsc) (x := ((mq_sp M) x.toNatClampNeg)) rfl dX0_placeOfScan_10 ?_
  exact bh_xzret C hQ dX0_placeOfScan_11 () (v := ((mq_sp M) x.toNatClampNeg)) (w := wh_hall cI cZ ad M) rfl rfl (Nat.le_of_ble_eq_true rfl) (Nat.le_of_ble_eq_true rfl) ⟨co_in0 hp_2, rfl⟩
theorem ct_X0_time_in : ∀ w ∈ wsX00, w ∈ wsX0_time := by decide +kernel
set_option maxRecDepth 100000 in
set_option maxHeartbeats 4000000 in
theorem ct_X0_time (l : Launch) (D : va_G) (cI cZ cL : ClassId) (ad : Nat → Nat) (M : MT)  : bh_Mi l D (wh_tys cI cZ cL) yX0_time wsX0_time ({ frames := 0, cells := 0, slots := 0, locals := 0 } : Room) [.ref (ad 0)] (wh_hall cI cZ ad M) (fun r (_ : Unit) => r = nI (mq_now M)) (fun _ => wh_hall cI cZ ad M) 0 0 := by
  refine bh_ofi (cc := cX0_time) (maxL := 1) (by decide +kernel) rfl (Nat.le_of_ble_eq_true rfl) ?_
  intro p e s m args below meth c A Q _ C hQ
  refine bh_eqlv (lv' := [(0, .ref (ad 0))]) rfl ?_
  refine bh_aload_n C dX0_time_0 rfl 0 rfl ?_
  refine bh_get C ct_X0_time_in 0 rfl rfl 0 (by decide) (by decide +kernel) rfl (v := .int (nI (mq_now M))) rfl dX0_time_1 ?_
  exact bh_zret C hQ dX0_time_4 () (v := (nI (mq_now M))) (w := wh_hall cI cZ ad M) rfl rfl (Nat.le_of_ble_eq_true rfl) (Nat.le_of_ble_eq_true rfl) rfl
theorem ct_X0_bags_in : ∀ w ∈ wsX00, w ∈ wsX0_bags := by decide +kernel
set_option maxRecDepth 100000 in
set_option maxHeartbeats 4000000 in
theorem ct_X0_bags (l : Launch) (D : va_G) (cI cZ cL : ClassId) (ad : Nat → Nat) (M : MT)  : bh_Mi l D (wh_tys cI cZ cL) yX0_bags wsX0_bags ({ frames := 0, cells := 0, slots := 0, locals := 0 } : Room) [.ref (ad 0)] (wh_hall cI cZ ad M) (fun r (_ : Unit) => r = nI (mq_bc M)) (fun _ => wh_hall cI cZ ad M) 0 0 := by
  refine bh_ofi (cc := cX0_bags) (maxL := 1) (by decide +kernel) rfl (Nat.le_of_ble_eq_true rfl) ?_
  intro p e s m args below meth c A Q _ C hQ
  refine bh_eqlv (lv' := [(0, .ref (ad 0))]) rfl ?_
  refine bh_aload_n C dX0_bags_0 rfl 0 rfl ?_
  refine bh_get C ct_X0_bags_in 0 rfl rfl 5 (by decide) (by decide +kernel) rfl (v := .int (nI (mq_bc M))) rfl dX0_bags_1 ?_
  exact bh_zret C hQ dX0_bags_4 () (v := (nI (mq_bc M))) (w := wh_hall cI cZ ad M) rfl rfl (Nat.le_of_ble_eq_true rfl) (Nat.le_of_ble_eq_true rfl) rfl
theorem ct_X0_scans_in : ∀ w ∈ wsX00, w ∈ wsX0_scans := by decide +kernel
set_option maxRecDepth 100000 in
set_option maxHeartbeats 4000000 in
theorem ct_X0_scans (l : Launch) (D : va_G) (cI cZ cL : ClassId) (ad : Nat → Nat) (M : MT)  : bh_Mi l D (wh_tys cI cZ cL) yX0_scans wsX0_scans ({ frames := 0, cells := 0, slots := 0, locals := 0 } : Room) [.ref (ad 0)] (wh_hall cI cZ ad M) (fun r (_ : Unit) => r = nI (mq_sc M)) (fun _ => wh_hall cI cZ ad M) 0 0 := by
  refine bh_ofi (cc := cX0_scans) (maxL := 1) (by decide +kernel) rfl (Nat.le_of_ble_eq_true rfl) ?_
  intro p e s m args below meth c A Q _ C hQ
  refine bh_eqlv (lv' := [(0, .ref (ad 0))]) rfl ?_
  refine bh_aload_n C dX0_scans_0 rfl 0 rfl ?_
  refine bh_get C ct_X0_scans_in 0 rfl rfl 13 (by decide) (by decide +kernel) rfl (v := .int (nI (mq_sc M))) rfl dX0_scans_1 ?_
  exact bh_zret C hQ dX0_scans_4 () (v := (nI (mq_sc M))) (w := wh_hall cI cZ ad M) rfl rfl (Nat.le_of_ble_eq_true rfl) (Nat.le_of_ble_eq_true rfl) rfl
theorem ct_X0_board_in : ∀ w ∈ wsX00, w ∈ wsX0_board := by decide +kernel
set_option maxRecDepth 100000 in
set_option maxHeartbeats 4000000 in
theorem ct_X0_board (l : Launch) (hl : l.stackTraces = false) (D : va_G) (cI cZ cL : ClassId) (ad : Nat → Nat) {K T : Nat} (M : MT) (x z : Int32) (hI : MI K T M) (hz : z = 0 ∨ z = 1) : bh_Xi l D (wh_tys cI cZ cL) yX0_board wsX0_board ({ frames := 7, cells := 1, slots := 6, locals := 111 } : Room) [.ref (ad 0), .int x, .int z] (wh_hall cI cZ ad M) (fun r (_ : Unit) => co_in x 40 = 0 ∧ r = mq_brd M x.toNatClampNeg) (fun _ => wh_hall cI cZ ad (mo_board M x z)) (mo_px xe_I xe_S (co_in x 40)) 1 6 := by
  refine bh_ofXi (cc := cX0_board) (maxL := 4) (by decide +kernel) rfl (Nat.le_of_ble_eq_true rfl) ?_
  intro p e s m args below meth c A Q C hQ hE hno
  refine bh_eqlv (lv' := [(0, .ref (ad 0)), (1, .int x), (2, .int z)]) rfl ?_
  have hfc := MI_fc hI; have hbc := MI_bc hI; have hsc := MI_sc hI; have hnow := MI_now2 hI
  refine bh_aload_n C dX0_board_0 rfl 0 rfl ?_
  refine bh_iload_n C dX0_board_1 rfl 1 rfl ?_
  refine bh_xcallv (As := [.int x]) C hQ hE hno (ct_X0_requireRider l hl D cI cZ cL ad M x hI) (cwV 1 C.1.2.2.2.2 gX0_board_X0_requireRider rfl rfl rfl (by decide +kernel) ⟨Nat.le_of_ble_eq_true rfl, Nat.le_of_ble_eq_true rfl⟩) (ci := 0) rfl 0 rfl rfl rfl (Nat.le_of_ble_eq_true rfl) dX0_board_2 ⟨Nat.le_of_ble_eq_true rfl, Nat.le_of_ble_eq_true rfl⟩ (Nat.le_of_ble_eq_true rfl) (Nat.le_of_ble_eq_true rfl) (fun E h9 => Or.inl ⟨h9.1, co_in1 h9.2⟩) (fun u_2 hp_2 => ?_)
  refine bh_aload_n C dX0_board_5 rfl 0 rfl ?_
  refine bh_get C ct_X0_board_in 0 rfl rfl 4 (by decide) (by decide +kernel) rfl (v := .ref (ad 4)) rfl dX0_board_6 ?_
  refine bh_iload_n C dX0_board_9 rfl 1 rfl ?_
  refine bh_zald C 3 1 (f := (mq_brd M)) rfl rfl (i := x) hp_2 (x := ((mq_brd M) x.toNatClampNeg)) rfl dX0_board_10 ?_
  refine bh_istore_n (lv' := [(3, .int ((mq_brd M) x.toNatClampNeg)), (0, .ref (ad 0)), (1, .int x), (2, .int z)]) C dX0_board_11 rfl (by decide) rfl ?_
  refine bh_aload_n C dX0_board_12 rfl 1 rfl ?_
  refine bh_get C ct_X0_board_in 0 rfl rfl 4 (by decide) (by decide +kernel) rfl (v := .ref (ad 4)) rfl dX0_board_13 ?_
  refine bh_iload_n C dX0_board_16 rfl 2 rfl ?_
  refine bh_iload_n C dX0_board_17 rfl 3 rfl ?_
  refine bh_eqw (w' := wh_hallX cI cZ ad (mq_now M) (mq_fc M) (mq_bc M) (mq_sc M) (mq_dep M) (mq_lat M) (mq_brd M) (mq_bf M) (mq_br M) (mq_pu M) (mq_pl M) (mq_ls M) (mq_ca M) (mq_at M) (mq_sb M) (mq_sp M) (mq_st M)) rfl ?_
  refine bh_zast (w' := wh_hallX cI cZ ad (mq_now M) (mq_fc M) (mq_bc M) (mq_sc M) (mq_dep M) (mq_lat M) (upd (mq_brd M) x.toNatClampNeg z) (mq_bf M) (mq_br M) (mq_pu M) (mq_pl M) (mq_ls M) (mq_ca M) (mq_at M) (mq_sb M) (mq_sp M) (mq_st M)) C 3 1 rfl rfl hp_2 dX0_board_18 (by rw [bh_nar hz]; rfl) ?_
  refine bh_iload_n C dX0_board_19 rfl 0 rfl ?_
  exact bh_xzret C hQ dX0_board_20 () (v := ((mq_brd M) x.toNatClampNeg)) (w := wh_hallX cI cZ ad (mq_now M) (mq_fc M) (mq_bc M) (mq_sc M) (mq_dep M) (mq_lat M) (upd (mq_brd M) x.toNatClampNeg z) (mq_bf M) (mq_br M) (mq_pu M) (mq_pl M) (mq_ls M) (mq_ca M) (mq_at M) (mq_sb M) (mq_sp M) (mq_st M)) rfl (bh_nar2 (MI_brd hI _)) (Nat.le_of_ble_eq_true rfl) (Nat.le_of_ble_eq_true rfl) ⟨co_in0 hp_2, rfl⟩
theorem ct_X0_untilClose_in : ∀ w ∈ wsX00, w ∈ wsX0_untilClose := by decide +kernel
set_option maxRecDepth 100000 in
set_option maxHeartbeats 4000000 in
theorem ct_X0_untilClose (l : Launch) (hl : l.stackTraces = false) (D : va_G) (cI cZ cL : ClassId) (ad : Nat → Nat) {K T : Nat} (M : MT) (x : Int32) (hI : MI K T M) : bh_Xi l D (wh_tys cI cZ cL) yX0_untilClose wsX0_untilClose ({ frames := 7, cells := 1, slots := 6, locals := 111 } : Room) [.ref (ad 0), .int x] (wh_hall cI cZ ad M) (fun r (_ : Unit) => co_in x (mq_fc M) = 0 ∧ r = (if 0 < mq_dep M x.toNatClampNeg - 10 - nI (mq_now M) then mq_dep M x.toNatClampNeg - 10 - nI (mq_now M) else 0)) (fun _ => wh_hall cI cZ ad M) (mo_px xe_I xe_S (co_in x (mq_fc M))) 1 6 := by
  refine bh_ofXi (cc := cX0_untilClose) (maxL := 2) (by decide +kernel) rfl (Nat.le_of_ble_eq_true rfl) ?_
  intro p e s m args below meth c A Q C hQ hE hno
  refine bh_eqlv (lv' := [(0, .ref (ad 0)), (1, .int x)]) rfl ?_
  have hfc := MI_fc hI; have hbc := MI_bc hI; have hsc := MI_sc hI; have hnow := MI_now2 hI
  refine bh_aload_n C dX0_untilClose_0 rfl 0 rfl ?_
  refine bh_iload_n C dX0_untilClose_1 rfl 1 rfl ?_
  refine bh_xcallv (As := [.int x]) C hQ hE hno (ct_X0_requireFlight l hl D cI cZ cL ad M x hI) (cwV 1 C.1.2.2.2.2 gX0_untilClose_X0_requireFlight rfl rfl rfl (by decide +kernel) ⟨Nat.le_of_ble_eq_true rfl, Nat.le_of_ble_eq_true rfl⟩) (ci := 0) rfl 0 rfl rfl rfl (Nat.le_of_ble_eq_true rfl) dX0_untilClose_2 ⟨Nat.le_of_ble_eq_true rfl, Nat.le_of_ble_eq_true rfl⟩ (Nat.le_of_ble_eq_true rfl) (Nat.le_of_ble_eq_true rfl) (fun E h9 => Or.inl ⟨h9.1, co_in1 h9.2⟩) (fun u_2 hp_2 => ?_)
  refine bh_iconst (v := 0) C dX0_untilClose_5 (by decide) ?_
  refine bh_aload_n C dX0_untilClose_6 rfl 0 rfl ?_
  refine bh_iload_n C dX0_untilClose_7 rfl 1 rfl ?_
  refine bh_calli_0 (As := [.int x]) C (ct_X0_closing l D cI cZ cL ad M x (bh_inW hp_2 hfc)) (cwV 1 C.1.2.2.2.2 gX0_untilClose_X0_closing rfl rfl rfl (by decide +kernel) ⟨Nat.le_of_ble_eq_true rfl, Nat.le_of_ble_eq_true rfl⟩) (ci := 0) rfl 0 rfl rfl rfl (Nat.le_of_ble_eq_true rfl) dX0_untilClose_8 ⟨Nat.le_of_ble_eq_true rfl, Nat.le_of_ble_eq_true rfl⟩ (fun r_8 u_8 hp_8 => ?_)
  subst hp_8
  refine bh_aload_n C dX0_untilClose_11 rfl 0 rfl ?_
  refine bh_get C ct_X0_untilClose_in 0 rfl rfl 0 (by decide) (by decide +kernel) rfl (v := .int (nI (mq_now M))) rfl dX0_untilClose_12 ?_
  refine bh_isub C dX0_untilClose_15 ?_
  refine bh_mmax C (by decide +kernel) (by decide +kernel) (by decide +kernel) (by decide +kernel) (Nat.le_of_ble_eq_true rfl) (Nat.le_of_ble_eq_true rfl) (Nat.zero_le _) (Nat.zero_le _) dX0_untilClose_16 ?_
  exact bh_xzret C hQ dX0_untilClose_19 () (v := (if 0 < ((mq_dep M x.toNatClampNeg - 10) - (nI (mq_now M))) then ((mq_dep M x.toNatClampNeg - 10) - (nI (mq_now M))) else 0)) (w := wh_hall cI cZ ad M) rfl rfl (Nat.le_of_ble_eq_true rfl) (Nat.le_of_ble_eq_true rfl) ⟨co_in0 hp_2, rfl⟩
theorem ct_X0_count_in : ∀ w ∈ wsX00, w ∈ wsX0_count := by decide +kernel
theorem ct_X0_count_at54 : ∀ z ∈ (vx_atS RX0 54 xe_A xe_ns).filter goodWord, z ∈ wsX0_count := by decide +kernel
set_option maxRecDepth 100000 in
set_option maxHeartbeats 4000000 in
theorem ct_X0_count (l : Launch) (hl : l.stackTraces = false) (D : va_G) (cI cZ cL : ClassId) (ad : Nat → Nat) {K T : Nat} (M : MT) (x : Int32) (hI : MI K T M) : bh_Xi l D (wh_tys cI cZ cL) yX0_count wsX0_count ({ frames := 6, cells := 1, slots := 6, locals := 90 } : Room) [.ref (ad 0), .int x] (wh_hall cI cZ ad M) (fun r (_ : Unit) => co_count x = 0 ∧ r = nI (mo_cn (fun j => decide (mq_pl M j = x)) (mq_bc M))) (fun _ => wh_hall cI cZ ad M) (mo_px xe_A xe_S (co_count x)) 1 6 := by
  refine bh_ofXi (cc := cX0_count) (maxL := 2) (by decide +kernel) rfl (Nat.le_of_ble_eq_true rfl) ?_
  intro p e s m args below meth c A Q C hQ hE hno
  refine bh_eqlv (lv' := [(0, .ref (ad 0)), (1, .int x)]) rfl ?_
  have hfc := MI_fc hI; have hbc := MI_bc hI; have hsc := MI_sc hI; have hnow := MI_now2 hI
  refine bh_iload_n C dX0_count_0 rfl 1 rfl ?_
  refine bh_iconst (v := 1) C dX0_count_1 (by decide) ?_
  refine bh_icmp_lt (tgt := 11) C dX0_count_2 (by decide) (fun c_2 => ?_) (fun c_2 => ?_)
  · skip
    exact bh_throw C hE hno hl hQ (cls := xe_A) (text := "there is no such place") (by decide +kernel) (by decide +kernel) (by decide +kernel) (by decide +kernel) ct_X0_count_at54 xe_hb54 xe_hg54_50 dX0_count_11 dX0_count_14 dX0_count_15 dX0_count_17 dX0_count_20 (Nat.le_of_ble_eq_true rfl) (Nat.le_of_ble_eq_true rfl) (Nat.le_of_ble_eq_true rfl) (Nat.le_of_ble_eq_true rfl) (Nat.le_of_ble_eq_true rfl) (Nat.le_of_ble_eq_true rfl) (Or.inl ⟨rfl, by first | exact if_pos (Or.inl c_2) | exact if_pos (Or.inr (bh_nle3 c_8))⟩)
  · skip
    refine bh_iload_n C dX0_count_5 rfl 1 rfl ?_
    refine bh_bipush (v := 11) C dX0_count_6 (by decide) ?_
    refine bh_icmp_le (tgt := 21) C dX0_count_8 (by decide) (fun c_8 => ?_) (fun c_8 => ?_)
    · skip
      refine bh_aload_n C dX0_count_21 rfl 0 rfl ?_
      refine bh_get C ct_X0_count_in 0 rfl rfl 12 (by decide) (by decide +kernel) rfl (v := .ref (ad 12)) rfl dX0_count_22 ?_
      refine bh_iload_n C dX0_count_25 rfl 1 rfl ?_
      refine bh_iald C 10 0 (f := (mq_at M)) rfl rfl (i := x) (bh_cntIn c_2 c_8) (x := ((mq_at M) x.toNatClampNeg)) rfl dX0_count_26 ?_
      exact bh_xzret C hQ dX0_count_27 () (v := ((mq_at M) x.toNatClampNeg)) (w := wh_hall cI cZ ad M) rfl rfl (Nat.le_of_ble_eq_true rfl) (Nat.le_of_ble_eq_true rfl) ⟨if_neg (fun z => z.elim c_2 (fun q => absurd c_8 (Int32.not_le.mpr q))), MI_count hI c_2 c_8⟩
    · skip
      exact bh_throw C hE hno hl hQ (cls := xe_A) (text := "there is no such place") (by decide +kernel) (by decide +kernel) (by decide +kernel) (by decide +kernel) ct_X0_count_at54 xe_hb54 xe_hg54_50 dX0_count_11 dX0_count_14 dX0_count_15 dX0_count_17 dX0_count_20 (Nat.le_of_ble_eq_true rfl) (Nat.le_of_ble_eq_true rfl) (Nat.le_of_ble_eq_true rfl) (Nat.le_of_ble_eq_true rfl) (Nat.le_of_ble_eq_true rfl) (Nat.le_of_ble_eq_true rfl) (Or.inl ⟨rfl, by first | exact if_pos (Or.inl c_2) | exact if_pos (Or.inr (bh_nle3 c_8))⟩)
theorem ct_X0_atLateral_in : ∀ w ∈ wsX00, w ∈ wsX0_atLateral := by decide +kernel
theorem ct_X0_atLateral_at134 : ∀ z ∈ (vx_atS RX0 134 xe_I xe_ns).filter goodWord, z ∈ wsX0_atLateral := by decide +kernel
set_option maxRecDepth 100000 in
set_option maxHeartbeats 4000000 in
theorem ct_X0_atLateral (l : Launch) (hl : l.stackTraces = false) (D : va_G) (cI cZ cL : ClassId) (ad : Nat → Nat) {K T : Nat} (M : MT) (x : Int32) (hI : MI K T M) : bh_Xi l D (wh_tys cI cZ cL) yX0_atLateral wsX0_atLateral ({ frames := 6, cells := 1, slots := 6, locals := 90 } : Room) [.ref (ad 0), .int x] (wh_hall cI cZ ad M) (fun r (_ : Unit) => co_in x 4 = 0 ∧ r = nI (mo_atl M x)) (fun _ => wh_hall cI cZ ad M) (mo_px xe_I xe_S (co_in x 4)) 1 6 := by
  refine bh_ofXi (cc := cX0_atLateral) (maxL := 4) (by decide +kernel) rfl (Nat.le_of_ble_eq_true rfl) ?_
  intro p e s m args below meth c A Q C hQ hE hno
  refine bh_eqlv (lv' := [(0, .ref (ad 0)), (1, .int x)]) rfl ?_
  have hfc := MI_fc hI; have hbc := MI_bc hI; have hsc := MI_sc hI; have hnow := MI_now2 hI
  refine bh_iload_n C dX0_atLateral_0 rfl 1 rfl ?_
  refine bh_if_lt (tgt := 9) C dX0_atLateral_1 (by decide) (fun c_1 => ?_) (fun c_1 => ?_)
  · skip
    exact bh_throw C hE hno hl hQ (cls := xe_I) (text := "there is no such lateral") (by decide +kernel) (by decide +kernel) (by decide +kernel) (by decide +kernel) ct_X0_atLateral_at134 xe_hb134 xe_hg134_130 dX0_atLateral_9 dX0_atLateral_12 dX0_atLateral_13 dX0_atLateral_15 dX0_atLateral_18 (Nat.le_of_ble_eq_true rfl) (Nat.le_of_ble_eq_true rfl) (Nat.le_of_ble_eq_true rfl) (Nat.le_of_ble_eq_true rfl) (Nat.le_of_ble_eq_true rfl) (Nat.le_of_ble_eq_true rfl) (Or.inl ⟨rfl, by first | exact co_in1 (bh_out1 c_1) | exact co_in1 (bh_out2 (n := 4) (by decide) c_6)⟩)
  · skip
    refine bh_iload_n C dX0_atLateral_4 rfl 1 rfl ?_
    refine bh_iconst (v := 4) C dX0_atLateral_5 (by decide) ?_
    refine bh_icmp_lt (tgt := 19) C dX0_atLateral_6 (by decide) (fun c_6 => ?_) (fun c_6 => ?_)
    · skip
      refine bh_iconst (v := 0) C dX0_atLateral_19 (by decide) ?_
      refine bh_istore_n (lv' := [(2, .int 0), (0, .ref (ad 0)), (1, .int x)]) C dX0_atLateral_20 rfl (by decide) rfl ?_
      refine bh_iconst (v := 0) C dX0_atLateral_21 (by decide) ?_
      refine bh_istore_n (lv' := [(3, .int 0), (2, .int 0), (0, .ref (ad 0)), (1, .int x)]) C dX0_atLateral_22 rfl (by decide) rfl ?_
      have loop : ∀ (n : Nat) (k : Nat), mq_bc M + 1 ≤ k + n → k ≤ mq_bc M → bh_W p l e ({ frames := 6, cells := 1, slots := 6, locals := 90 } : Room) s m args below meth c 4 D A 0 0 Q (wh_hall cI cZ ad M) ([(3, .int (nI k)), (2, .int (nI (mo_cn (fun j => decide (mq_pl M j = 7 ∧ mq_lat M (mq_bf M j).toNatClampNeg = x)) k))), (0, .ref (ad 0)), (1, .int x)]) 23 [] := by
        intro n
        induction n with
        | zero => intro k h1 h2; exact absurd h1 (by omega)
        | succ n ih =>
          intro k h1 h2
          refine bh_iload_n C dX0_atLateral_23 rfl 0 rfl ?_
          refine bh_aload_n C dX0_atLateral_24 rfl 2 rfl ?_
          refine bh_get C ct_X0_atLateral_in 0 rfl rfl 5 (by decide) (by decide +kernel) rfl (v := .int (nI (mq_bc M))) rfl dX0_atLateral_25 ?_
          refine bh_icmp_ge (tgt := 66) C dX0_atLateral_28 (by decide) (fun c_28 => ?_) (fun c_28 => ?_)
          · skip
            have c_28 := bh_le (by omega) (by omega) c_28
            have hkb : k = mq_bc M := by omega
            refine bh_iload_n C dX0_atLateral_66 rfl 1 rfl ?_
            exact bh_xzret C hQ dX0_atLateral_67 () (v := (nI (mo_cn (fun j => decide (mq_pl M j = 7 ∧ mq_lat M (mq_bf M j).toNatClampNeg = x)) k))) (w := wh_hall cI cZ ad M) rfl rfl (Nat.le_of_ble_eq_true rfl) (Nat.le_of_ble_eq_true rfl) ⟨co_in0 (bh_in (n := 4) (by decide) c_1 c_6), by rw [hkb]; rfl⟩
          · skip
            have c_28 := bh_nle2 (by omega) (by omega) c_28
            refine bh_aload_n C dX0_atLateral_31 rfl 2 rfl ?_
            refine bh_get C ct_X0_atLateral_in 0 rfl rfl 9 (by decide) (by decide +kernel) rfl (v := .ref (ad 9)) rfl dX0_atLateral_32 ?_
            refine bh_iload_n C dX0_atLateral_35 rfl 0 rfl ?_
            refine bh_iald C 7 0 (f := (mq_pl M)) rfl rfl (i := (nI k)) (vp_in_nI (n := k) (by omega) (by decide)) (x := ((mq_pl M) k)) (congrArg (mq_pl M) (nI_clamp (n := k) (by omega))) dX0_atLateral_36 ?_
            refine bh_bipush (v := 7) C dX0_atLateral_37 (by decide) ?_
            refine bh_icmp_ne (tgt := 60) C dX0_atLateral_39 (by decide) (fun c_39 => ?_) (fun c_39 => ?_)
            · skip
              refine bh_iinc (v := (nI (k + 1))) (lv' := [(3, .int (nI (k + 1))), (2, .int (nI (mo_cn (fun j => decide (mq_pl M j = 7 ∧ mq_lat M (mq_bf M j).toNatClampNeg = x)) k))), (0, .ref (ad 0)), (1, .int x)]) C dX0_atLateral_60 (k := 0) rfl (nI_1 _) (by decide) rfl ?_
              refine bh_goto (tgt := 23) C dX0_atLateral_63 (by decide) ?_
              refine bh_eqlv (lv' := [(3, .int (nI (k + 1))), (2, .int (nI (mo_cn (fun j => decide (mq_pl M j = 7 ∧ mq_lat M (mq_bf M j).toNatClampNeg = x)) (k + 1)))), (0, .ref (ad 0)), (1, .int x)]) (by rw [bh_cn0 (f := (fun j => decide (mq_pl M j = 7 ∧ mq_lat M (mq_bf M j).toNatClampNeg = x))) (decide_eq_false (by first | exact fun z => c_39 z.1 | exact fun z => c_54 z.2))]) ?_
              exact bh_lv [0, 1, 2, 3] rfl (ih (k + 1) (by omega) (by omega))
            · skip
              refine bh_aload_n C dX0_atLateral_42 rfl 2 rfl ?_
              refine bh_get C ct_X0_atLateral_in 0 rfl rfl 3 (by decide) (by decide +kernel) rfl (v := .ref (ad 3)) rfl dX0_atLateral_43 ?_
              refine bh_aload_n C dX0_atLateral_46 rfl 2 rfl ?_
              refine bh_get C ct_X0_atLateral_in 0 rfl rfl 6 (by decide) (by decide +kernel) rfl (v := .ref (ad 6)) rfl dX0_atLateral_47 ?_
              refine bh_iload_n C dX0_atLateral_50 rfl 0 rfl ?_
              refine bh_iald C 4 0 (f := (mq_bf M)) rfl rfl (i := (nI k)) (vp_in_nI (n := k) (by omega) (by decide)) (x := ((mq_bf M) k)) (congrArg (mq_bf M) (nI_clamp (n := k) (by omega))) dX0_atLateral_51 ?_
              refine bh_iald C 2 0 (f := (mq_lat M)) rfl rfl (i := ((mq_bf M) k)) (MI_bf hI _) (x := ((mq_lat M) ((mq_bf M) k).toNatClampNeg)) rfl dX0_atLateral_52 ?_
              refine bh_iload_n C dX0_atLateral_53 rfl 3 rfl ?_
              refine bh_icmp_ne (tgt := 60) C dX0_atLateral_54 (by decide) (fun c_54 => ?_) (fun c_54 => ?_)
              · skip
                refine bh_iinc (v := (nI (k + 1))) (lv' := [(3, .int (nI (k + 1))), (2, .int (nI (mo_cn (fun j => decide (mq_pl M j = 7 ∧ mq_lat M (mq_bf M j).toNatClampNeg = x)) k))), (0, .ref (ad 0)), (1, .int x)]) C dX0_atLateral_60 (k := 0) rfl (nI_1 _) (by decide) rfl ?_
                refine bh_goto (tgt := 23) C dX0_atLateral_63 (by decide) ?_
                refine bh_eqlv (lv' := [(3, .int (nI (k + 1))), (2, .int (nI (mo_cn (fun j => decide (mq_pl M j = 7 ∧ mq_lat M (mq_bf M j).toNatClampNeg = x)) (k + 1)))), (0, .ref (ad 0)), (1, .int x)]) (by rw [bh_cn0 (f := (fun j => decide (mq_pl M j = 7 ∧ mq_lat M (mq_bf M j).toNatClampNeg = x))) (decide_eq_false (by first | exact fun z => c_39 z.1 | exact fun z => c_54 z.2))]) ?_
                exact bh_lv [0, 1, 2, 3] rfl (ih (k + 1) (by omega) (by omega))
              · skip
                refine bh_iinc (v := (nI ((mo_cn (fun j => decide (mq_pl M j = 7 ∧ mq_lat M (mq_bf M j).toNatClampNeg = x)) k) + 1))) (lv' := [(2, .int (nI ((mo_cn (fun j => decide (mq_pl M j = 7 ∧ mq_lat M (mq_bf M j).toNatClampNeg = x)) k) + 1))), (3, .int (nI k)), (0, .ref (ad 0)), (1, .int x)]) C dX0_atLateral_57 (k := 1) rfl (nI_1 _) (by decide) rfl ?_
                refine bh_iinc (v := (nI (k + 1))) (lv' := [(3, .int (nI (k + 1))), (2, .int (nI ((mo_cn (fun j => decide (mq_pl M j = 7 ∧ mq_lat M (mq_bf M j).toNatClampNeg = x)) k) + 1))), (0, .ref (ad 0)), (1, .int x)]) C dX0_atLateral_60 (k := 1) rfl (nI_1 _) (by decide) rfl ?_
                refine bh_goto (tgt := 23) C dX0_atLateral_63 (by decide) ?_
                refine bh_eqlv (lv' := [(3, .int (nI (k + 1))), (2, .int (nI (mo_cn (fun j => decide (mq_pl M j = 7 ∧ mq_lat M (mq_bf M j).toNatClampNeg = x)) (k + 1)))), (0, .ref (ad 0)), (1, .int x)]) (by rw [bh_cn1 (f := (fun j => decide (mq_pl M j = 7 ∧ mq_lat M (mq_bf M j).toNatClampNeg = x))) (decide_eq_true ⟨c_39, c_54⟩)]) ?_
                exact bh_lv [0, 1, 2, 3] rfl (ih (k + 1) (by omega) (by omega))
      exact bh_lv [0, 1, 2, 3] rfl (loop (mq_bc M + 1) 0 (by omega) (by omega))
    · skip
      exact bh_throw C hE hno hl hQ (cls := xe_I) (text := "there is no such lateral") (by decide +kernel) (by decide +kernel) (by decide +kernel) (by decide +kernel) ct_X0_atLateral_at134 xe_hb134 xe_hg134_130 dX0_atLateral_9 dX0_atLateral_12 dX0_atLateral_13 dX0_atLateral_15 dX0_atLateral_18 (Nat.le_of_ble_eq_true rfl) (Nat.le_of_ble_eq_true rfl) (Nat.le_of_ble_eq_true rfl) (Nat.le_of_ble_eq_true rfl) (Nat.le_of_ble_eq_true rfl) (Nat.le_of_ble_eq_true rfl) (Or.inl ⟨rfl, by first | exact co_in1 (bh_out1 c_1) | exact co_in1 (bh_out2 (n := 4) (by decide) c_6)⟩)
theorem ct_X0_unmatched_in : ∀ w ∈ wsX00, w ∈ wsX0_unmatched := by decide +kernel
set_option maxRecDepth 100000 in
set_option maxHeartbeats 4000000 in
theorem ct_X0_unmatched (l : Launch) (hl : l.stackTraces = false) (D : va_G) (cI cZ cL : ClassId) (ad : Nat → Nat) {K T : Nat} (M : MT) (x : Int32) (hI : MI K T M) : bh_Xi l D (wh_tys cI cZ cL) yX0_unmatched wsX0_unmatched ({ frames := 7, cells := 1, slots := 6, locals := 111 } : Room) [.ref (ad 0), .int x] (wh_hall cI cZ ad M) (fun r (_ : Unit) => co_in x (mq_fc M) = 0 ∧ r = nI (mo_unm M x)) (fun _ => wh_hall cI cZ ad M) (mo_px xe_I xe_S (co_in x (mq_fc M))) 1 6 := by
  refine bh_ofXi (cc := cX0_unmatched) (maxL := 4) (by decide +kernel) rfl (Nat.le_of_ble_eq_true rfl) ?_
  intro p e s m args below meth c A Q C hQ hE hno
  refine bh_eqlv (lv' := [(0, .ref (ad 0)), (1, .int x)]) rfl ?_
  have hfc := MI_fc hI; have hbc := MI_bc hI; have hsc := MI_sc hI; have hnow := MI_now2 hI
  refine bh_aload_n C dX0_unmatched_0 rfl 0 rfl ?_
  refine bh_iload_n C dX0_unmatched_1 rfl 1 rfl ?_
  refine bh_xcallv (As := [.int x]) C hQ hE hno (ct_X0_requireFlight l hl D cI cZ cL ad M x hI) (cwV 1 C.1.2.2.2.2 gX0_unmatched_X0_requireFlight rfl rfl rfl (by decide +kernel) ⟨Nat.le_of_ble_eq_true rfl, Nat.le_of_ble_eq_true rfl⟩) (ci := 0) rfl 0 rfl rfl rfl (Nat.le_of_ble_eq_true rfl) dX0_unmatched_2 ⟨Nat.le_of_ble_eq_true rfl, Nat.le_of_ble_eq_true rfl⟩ (Nat.le_of_ble_eq_true rfl) (Nat.le_of_ble_eq_true rfl) (fun E h9 => Or.inl ⟨h9.1, co_in1 h9.2⟩) (fun u_2 hp_2 => ?_)
  refine bh_iconst (v := 0) C dX0_unmatched_5 (by decide) ?_
  refine bh_istore_n (lv' := [(2, .int 0), (0, .ref (ad 0)), (1, .int x)]) C dX0_unmatched_6 rfl (by decide) rfl ?_
  refine bh_iconst (v := 0) C dX0_unmatched_7 (by decide) ?_
  refine bh_istore_n (lv' := [(3, .int 0), (2, .int 0), (0, .ref (ad 0)), (1, .int x)]) C dX0_unmatched_8 rfl (by decide) rfl ?_
  have loop : ∀ (n : Nat) (k : Nat), mq_bc M + 1 ≤ k + n → k ≤ mq_bc M → bh_W p l e ({ frames := 7, cells := 1, slots := 6, locals := 111 } : Room) s m args below meth c 4 D A 0 0 Q (wh_hall cI cZ ad M) ([(3, .int (nI k)), (2, .int (nI (mo_cn (fun j => decide ((mq_pl M j = 8 ∧ mq_bf M j = x) ∧ ¬ mo_fly M j)) k))), (0, .ref (ad 0)), (1, .int x)]) 9 [] := by
    intro n
    induction n with
    | zero => intro k h1 h2; exact absurd h1 (by omega)
    | succ n ih =>
      intro k h1 h2
      refine bh_iload_n C dX0_unmatched_9 rfl 0 rfl ?_
      refine bh_aload_n C dX0_unmatched_10 rfl 2 rfl ?_
      refine bh_get C ct_X0_unmatched_in 0 rfl rfl 5 (by decide) (by decide +kernel) rfl (v := .int (nI (mq_bc M))) rfl dX0_unmatched_11 ?_
      refine bh_icmp_ge (tgt := 43) C dX0_unmatched_14 (by decide) (fun c_14 => ?_) (fun c_14 => ?_)
      · skip
        have c_14 := bh_le (by omega) (by omega) c_14
        have hkb : k = mq_bc M := by omega
        refine bh_iload_n C dX0_unmatched_43 rfl 1 rfl ?_
        exact bh_xzret C hQ dX0_unmatched_44 () (v := (nI (mo_cn (fun j => decide ((mq_pl M j = 8 ∧ mq_bf M j = x) ∧ ¬ mo_fly M j)) k))) (w := wh_hall cI cZ ad M) rfl rfl (Nat.le_of_ble_eq_true rfl) (Nat.le_of_ble_eq_true rfl) ⟨co_in0 hp_2, by rw [hkb]; rfl⟩
      · skip
        have c_14 := bh_nle2 (by omega) (by omega) c_14
        refine bh_aload_n C dX0_unmatched_17 rfl 2 rfl ?_
        refine bh_iload_n C dX0_unmatched_18 rfl 0 rfl ?_
        refine bh_iload_n C dX0_unmatched_19 rfl 3 rfl ?_
        refine bh_calli_0 (As := [.int (nI k), .int x]) C (ct_X0_isLoadedFor l D cI cZ cL ad M k x hI (by omega)) (cwV 2 C.1.2.2.2.2 gX0_unmatched_X0_isLoadedFor rfl rfl rfl (by decide +kernel) ⟨Nat.le_of_ble_eq_true rfl, Nat.le_of_ble_eq_true rfl⟩) (ci := 0) rfl 0 rfl rfl rfl (Nat.le_of_ble_eq_true rfl) dX0_unmatched_20 ⟨Nat.le_of_ble_eq_true rfl, Nat.le_of_ble_eq_true rfl⟩ (fun r_20 u_20 hp_20 => ?_)
        subst hp_20
        refine bh_if_eq (tgt := 37) C dX0_unmatched_23 (by decide) (fun c_23 => ?_) (fun c_23 => ?_)
        · skip
          replace c_23 := bh_eq0 c_23
          refine bh_iinc (v := (nI (k + 1))) (lv' := [(3, .int (nI (k + 1))), (2, .int (nI (mo_cn (fun j => decide ((mq_pl M j = 8 ∧ mq_bf M j = x) ∧ ¬ mo_fly M j)) k))), (0, .ref (ad 0)), (1, .int x)]) C dX0_unmatched_37 (k := 0) rfl (nI_1 _) (by decide) rfl ?_
          refine bh_goto (tgt := 9) C dX0_unmatched_40 (by decide) ?_
          refine bh_eqlv (lv' := [(3, .int (nI (k + 1))), (2, .int (nI (mo_cn (fun j => decide ((mq_pl M j = 8 ∧ mq_bf M j = x) ∧ ¬ mo_fly M j)) (k + 1)))), (0, .ref (ad 0)), (1, .int x)]) (by rw [bh_cn0 (f := (fun j => decide ((mq_pl M j = 8 ∧ mq_bf M j = x) ∧ ¬ mo_fly M j))) (decide_eq_false (by first | exact fun z => c_23 z.1 | exact fun z => z.2 c_31))]) ?_
          exact bh_lv [0, 1, 2, 3] rfl (ih (k + 1) (by omega) (by omega))
        · skip
          replace c_23 := bh_ne0 c_23
          refine bh_aload_n C dX0_unmatched_26 rfl 2 rfl ?_
          refine bh_iload_n C dX0_unmatched_27 rfl 0 rfl ?_
          refine bh_calli_0 (As := [.int (nI k)]) C (ct_X0_mayFly l D cI cZ cL ad M k hI (by omega)) (cwV 1 C.1.2.2.2.2 gX0_unmatched_X0_mayFly rfl rfl rfl (by decide +kernel) ⟨Nat.le_of_ble_eq_true rfl, Nat.le_of_ble_eq_true rfl⟩) (ci := 0) rfl 0 rfl rfl rfl (Nat.le_of_ble_eq_true rfl) dX0_unmatched_28 ⟨Nat.le_of_ble_eq_true rfl, Nat.le_of_ble_eq_true rfl⟩ (fun r_28 u_28 hp_28 => ?_)
          subst hp_28
          refine bh_if_ne (tgt := 37) C dX0_unmatched_31 (by decide) (fun c_31 => ?_) (fun c_31 => ?_)
          · skip
            replace c_31 := bh_ne0 c_31
            refine bh_iinc (v := (nI (k + 1))) (lv' := [(3, .int (nI (k + 1))), (2, .int (nI (mo_cn (fun j => decide ((mq_pl M j = 8 ∧ mq_bf M j = x) ∧ ¬ mo_fly M j)) k))), (0, .ref (ad 0)), (1, .int x)]) C dX0_unmatched_37 (k := 0) rfl (nI_1 _) (by decide) rfl ?_
            refine bh_goto (tgt := 9) C dX0_unmatched_40 (by decide) ?_
            refine bh_eqlv (lv' := [(3, .int (nI (k + 1))), (2, .int (nI (mo_cn (fun j => decide ((mq_pl M j = 8 ∧ mq_bf M j = x) ∧ ¬ mo_fly M j)) (k + 1)))), (0, .ref (ad 0)), (1, .int x)]) (by rw [bh_cn0 (f := (fun j => decide ((mq_pl M j = 8 ∧ mq_bf M j = x) ∧ ¬ mo_fly M j))) (decide_eq_false (by first | exact fun z => c_23 z.1 | exact fun z => z.2 c_31))]) ?_
            exact bh_lv [0, 1, 2, 3] rfl (ih (k + 1) (by omega) (by omega))
          · skip
            replace c_31 := bh_eq0 c_31
            refine bh_iinc (v := (nI ((mo_cn (fun j => decide ((mq_pl M j = 8 ∧ mq_bf M j = x) ∧ ¬ mo_fly M j)) k) + 1))) (lv' := [(2, .int (nI ((mo_cn (fun j => decide ((mq_pl M j = 8 ∧ mq_bf M j = x) ∧ ¬ mo_fly M j)) k) + 1))), (3, .int (nI k)), (0, .ref (ad 0)), (1, .int x)]) C dX0_unmatched_34 (k := 1) rfl (nI_1 _) (by decide) rfl ?_
            refine bh_iinc (v := (nI (k + 1))) (lv' := [(3, .int (nI (k + 1))), (2, .int (nI ((mo_cn (fun j => decide ((mq_pl M j = 8 ∧ mq_bf M j = x) ∧ ¬ mo_fly M j)) k) + 1))), (0, .ref (ad 0)), (1, .int x)]) C dX0_unmatched_37 (k := 1) rfl (nI_1 _) (by decide) rfl ?_
            refine bh_goto (tgt := 9) C dX0_unmatched_40 (by decide) ?_
            refine bh_eqlv (lv' := [(3, .int (nI (k + 1))), (2, .int (nI (mo_cn (fun j => decide ((mq_pl M j = 8 ∧ mq_bf M j = x) ∧ ¬ mo_fly M j)) (k + 1)))), (0, .ref (ad 0)), (1, .int x)]) (by rw [bh_cn1 (f := (fun j => decide ((mq_pl M j = 8 ∧ mq_bf M j = x) ∧ ¬ mo_fly M j))) (decide_eq_true ⟨c_23, c_31⟩)]) ?_
            exact bh_lv [0, 1, 2, 3] rfl (ih (k + 1) (by omega) (by omega))
  exact bh_lv [0, 1, 2, 3] rfl (loop (mq_bc M + 1) 0 (by omega) (by omega))
theorem ct_X0_takeIn_in : ∀ w ∈ wsX00, w ∈ wsX0_takeIn := by decide +kernel
theorem ct_X0_takeIn_at65 : ∀ z ∈ (vx_atS RX0 65 xe_S xe_ns).filter goodWord, z ∈ wsX0_takeIn := by decide +kernel
set_option maxRecDepth 100000 in
set_option maxHeartbeats 4000000 in
theorem ct_X0_takeIn (l : Launch) (hl : l.stackTraces = false) (D : va_G) (cI cZ cL : ClassId) (ad : Nat → Nat) {K T : Nat} (M : MT) (x r0 : Int32) (hI : MI K T M) : bh_Xi l D (wh_tys cI cZ cL) yX0_takeIn wsX0_takeIn ({ frames := 7, cells := 1, slots := 6, locals := 111 } : Room) [.ref (ad 0), .int x, .int r0] (wh_hall cI cZ ad M) (fun r (_ : Unit) => co_take M x r0 = 0 ∧ vp_in x 10 ∧ vp_in r0 40 ∧ mq_bc M < 48 ∧ r = nI (mq_bc M)) (fun _ => wh_hall cI cZ ad (mo_take M x r0)) (mo_px xe_I xe_S (co_take M x r0)) 1 6 := by
  refine bh_ofXi (cc := cX0_takeIn) (maxL := 4) (by decide +kernel) rfl (Nat.le_of_ble_eq_true rfl) ?_
  intro p e s m args below meth c A Q C hQ hE hno
  refine bh_eqlv (lv' := [(0, .ref (ad 0)), (1, .int x), (2, .int r0)]) rfl ?_
  have hfc := MI_fc hI; have hbc := MI_bc hI; have hsc := MI_sc hI; have hnow := MI_now2 hI
  refine bh_aload_n C dX0_takeIn_0 rfl 0 rfl ?_
  refine bh_iload_n C dX0_takeIn_1 rfl 1 rfl ?_
  refine bh_xcallv (As := [.int x]) C hQ hE hno (ct_X0_requireFlight l hl D cI cZ cL ad M x hI) (cwV 1 C.1.2.2.2.2 gX0_takeIn_X0_requireFlight rfl rfl rfl (by decide +kernel) ⟨Nat.le_of_ble_eq_true rfl, Nat.le_of_ble_eq_true rfl⟩) (ci := 0) rfl 0 rfl rfl rfl (Nat.le_of_ble_eq_true rfl) dX0_takeIn_2 ⟨Nat.le_of_ble_eq_true rfl, Nat.le_of_ble_eq_true rfl⟩ (Nat.le_of_ble_eq_true rfl) (Nat.le_of_ble_eq_true rfl) (fun E h9 => Or.inl ⟨h9.1, co_take1 (fun z => h9.2 z.1)⟩) (fun u_2 hp_2 => ?_)
  refine bh_aload_n C dX0_takeIn_5 rfl 0 rfl ?_
  refine bh_iload_n C dX0_takeIn_6 rfl 2 rfl ?_
  refine bh_xcallv (As := [.int r0]) C hQ hE hno (ct_X0_requireRider l hl D cI cZ cL ad M r0 hI) (cwV 1 C.1.2.2.2.2 gX0_takeIn_X0_requireRider rfl rfl rfl (by decide +kernel) ⟨Nat.le_of_ble_eq_true rfl, Nat.le_of_ble_eq_true rfl⟩) (ci := 0) rfl 0 rfl rfl rfl (Nat.le_of_ble_eq_true rfl) dX0_takeIn_7 ⟨Nat.le_of_ble_eq_true rfl, Nat.le_of_ble_eq_true rfl⟩ (Nat.le_of_ble_eq_true rfl) (Nat.le_of_ble_eq_true rfl) (fun E h9 => Or.inl ⟨h9.1, co_take1 (fun z => h9.2 z.2)⟩) (fun u_7 hp_7 => ?_)
  refine bh_aload_n C dX0_takeIn_10 rfl 0 rfl ?_
  refine bh_get C ct_X0_takeIn_in 0 rfl rfl 5 (by decide) (by decide +kernel) rfl (v := .int (nI (mq_bc M))) rfl dX0_takeIn_11 ?_
  refine bh_bipush (v := 48) C dX0_takeIn_14 (by decide) ?_
  refine bh_icmp_lt (tgt := 29) C dX0_takeIn_16 (by decide) (fun c_16 => ?_) (fun c_16 => ?_)
  · skip
    have c_16 := (nI_ltI (b := 48) (by omega) (by decide)).mp c_16
    refine bh_aload_n C dX0_takeIn_29 rfl 0 rfl ?_
    refine bh_iload_n C dX0_takeIn_30 rfl 1 rfl ?_
    refine bh_xcallv (As := [.int x]) C hQ hE hno (ct_X0_requireNotDeparted l hl D cI cZ cL ad M x (bh_inW hp_2 hfc)) (cwV 1 C.1.2.2.2.2 gX0_takeIn_X0_requireNotDeparted rfl rfl rfl (by decide +kernel) ⟨Nat.le_of_ble_eq_true rfl, Nat.le_of_ble_eq_true rfl⟩) (ci := 0) rfl 0 rfl rfl rfl (Nat.le_of_ble_eq_true rfl) dX0_takeIn_31 ⟨Nat.le_of_ble_eq_true rfl, Nat.le_of_ble_eq_true rfl⟩ (Nat.le_of_ble_eq_true rfl) (Nat.le_of_ble_eq_true rfl) (fun E h9 => Or.inr ⟨h9.1, co_take2 hp_2 hp_7 (Or.inr (Int32.not_lt.mp h9.2))⟩) (fun u_31 hp_31 => ?_)
    refine bh_aload_n C dX0_takeIn_34 rfl 0 rfl ?_
    refine bh_get C ct_X0_takeIn_in 0 rfl rfl 5 (by decide) (by decide +kernel) rfl (v := .int (nI (mq_bc M))) rfl dX0_takeIn_35 ?_
    refine bh_istore_n (lv' := [(3, .int (nI (mq_bc M))), (0, .ref (ad 0)), (1, .int x), (2, .int r0)]) C dX0_takeIn_38 rfl (by decide) rfl ?_
    refine bh_aload_n C dX0_takeIn_39 rfl 1 rfl ?_
    refine bh_get C ct_X0_takeIn_in 0 rfl rfl 6 (by decide) (by decide +kernel) rfl (v := .ref (ad 6)) rfl dX0_takeIn_40 ?_
    refine bh_iload_n C dX0_takeIn_43 rfl 0 rfl ?_
    refine bh_iload_n C dX0_takeIn_44 rfl 2 rfl ?_
    refine bh_eqw (w' := wh_hallX cI cZ ad (mq_now M) (mq_fc M) (mq_bc M) (mq_sc M) (mq_dep M) (mq_lat M) (mq_brd M) (mq_bf M) (mq_br M) (mq_pu M) (mq_pl M) (mq_ls M) (mq_ca M) (mq_at M) (mq_sb M) (mq_sp M) (mq_st M)) rfl ?_
    refine bh_iast (w' := wh_hallX cI cZ ad (mq_now M) (mq_fc M) (mq_bc M) (mq_sc M) (mq_dep M) (mq_lat M) (mq_brd M) (upd (mq_bf M) ((mq_bc M)) x) (mq_br M) (mq_pu M) (mq_pl M) (mq_ls M) (mq_ca M) (mq_at M) (mq_sb M) (mq_sp M) (mq_st M)) C 4 0 rfl rfl (vp_in_nI (n := (mq_bc M)) (by omega) (by decide)) dX0_takeIn_45 (by rw [nI_clamp (n := (mq_bc M)) (by omega)]; rfl) ?_
    refine bh_aload_n C dX0_takeIn_46 rfl 1 rfl ?_
    refine bh_get C ct_X0_takeIn_in 0 rfl rfl 7 (by decide) (by decide +kernel) rfl (v := .ref (ad 7)) rfl dX0_takeIn_47 ?_
    refine bh_iload_n C dX0_takeIn_50 rfl 0 rfl ?_
    refine bh_iload_n C dX0_takeIn_51 rfl 3 rfl ?_
    refine bh_iast (w' := wh_hallX cI cZ ad (mq_now M) (mq_fc M) (mq_bc M) (mq_sc M) (mq_dep M) (mq_lat M) (mq_brd M) (upd (mq_bf M) ((mq_bc M)) x) (upd (mq_br M) ((mq_bc M)) r0) (mq_pu M) (mq_pl M) (mq_ls M) (mq_ca M) (mq_at M) (mq_sb M) (mq_sp M) (mq_st M)) C 5 0 rfl rfl (vp_in_nI (n := (mq_bc M)) (by omega) (by decide)) dX0_takeIn_52 (by rw [nI_clamp (n := (mq_bc M)) (by omega)]; rfl) ?_
    refine bh_aload_n C dX0_takeIn_53 rfl 1 rfl ?_
    refine bh_get C ct_X0_takeIn_in 0 rfl rfl 9 (by decide) (by decide +kernel) rfl (v := .ref (ad 9)) rfl dX0_takeIn_54 ?_
    refine bh_iload_n C dX0_takeIn_57 rfl 0 rfl ?_
    refine bh_iconst (v := 0) C dX0_takeIn_58 (by decide) ?_
    refine bh_iast (w' := wh_hallX cI cZ ad (mq_now M) (mq_fc M) (mq_bc M) (mq_sc M) (mq_dep M) (mq_lat M) (mq_brd M) (upd (mq_bf M) ((mq_bc M)) x) (upd (mq_br M) ((mq_bc M)) r0) (mq_pu M) (upd (mq_pl M) ((mq_bc M)) 0) (mq_ls M) (mq_ca M) (mq_at M) (mq_sb M) (mq_sp M) (mq_st M)) C 7 0 rfl rfl (vp_in_nI (n := (mq_bc M)) (by omega) (by decide)) dX0_takeIn_59 (by rw [nI_clamp (n := (mq_bc M)) (by omega)]; rfl) ?_
    refine bh_aload_n C dX0_takeIn_60 rfl 1 rfl ?_
    refine bh_dup C dX0_takeIn_61 rfl ?_
    refine bh_get C ct_X0_takeIn_in 0 rfl rfl 5 (by decide) (by decide +kernel) rfl (v := .int (nI (mq_bc M))) rfl dX0_takeIn_62 ?_
    refine bh_iconst (v := 1) C dX0_takeIn_65 (by decide) ?_
    refine bh_iadd C dX0_takeIn_66 ?_
    refine bh_topi (nI_1 _) ?_
    refine bh_put (ty := .int) (v := .int (nI ((mq_bc M) + 1))) (w' := wh_hallX cI cZ ad (mq_now M) (mq_fc M) (((mq_bc M) + 1)) (mq_sc M) (mq_dep M) (mq_lat M) (mq_brd M) (upd (mq_bf M) ((mq_bc M)) x) (upd (mq_br M) ((mq_bc M)) r0) (mq_pu M) (upd (mq_pl M) ((mq_bc M)) 0) (mq_ls M) (mq_ca M) (mq_at M) (mq_sb M) (mq_sp M) (mq_st M)) C ct_X0_takeIn_in tyX0 tyX0_ok nmX0 0 rfl rfl 5 (by decide) (by decide +kernel) rfl rfl (by decide +kernel) rfl rfl (Nat.le_of_ble_eq_true rfl) dX0_takeIn_67 rfl ?_
    refine bh_iload_n C dX0_takeIn_70 rfl 0 rfl ?_
    exact bh_xzret C hQ dX0_takeIn_71 () (v := (nI (mq_bc M))) (w := wh_hallX cI cZ ad (mq_now M) (mq_fc M) (((mq_bc M) + 1)) (mq_sc M) (mq_dep M) (mq_lat M) (mq_brd M) (upd (mq_bf M) ((mq_bc M)) x) (upd (mq_br M) ((mq_bc M)) r0) (mq_pu M) (upd (mq_pl M) ((mq_bc M)) 0) (mq_ls M) (mq_ca M) (mq_at M) (mq_sb M) (mq_sp M) (mq_st M)) rfl rfl (Nat.le_of_ble_eq_true rfl) (Nat.le_of_ble_eq_true rfl) ⟨co_take0 hp_2 hp_7 c_16 hp_31, bh_inW hp_2 hfc, hp_7, c_16, rfl⟩
  · skip
    exact bh_throw C hE hno hl hQ (cls := xe_S) (text := "there are 48 bags") (by decide +kernel) (by decide +kernel) (by decide +kernel) (by decide +kernel) ct_X0_takeIn_at65 xe_hb65 xe_hg65_61 dX0_takeIn_19 dX0_takeIn_22 dX0_takeIn_23 dX0_takeIn_25 dX0_takeIn_28 (Nat.le_of_ble_eq_true rfl) (Nat.le_of_ble_eq_true rfl) (Nat.le_of_ble_eq_true rfl) (Nat.le_of_ble_eq_true rfl) (Nat.le_of_ble_eq_true rfl) (Nat.le_of_ble_eq_true rfl) (Or.inr ⟨rfl, co_take2 hp_2 hp_7 (Or.inl (bh_le (a := 48) (by decide) (by omega) (Int32.not_lt.mp c_16)))⟩)
set_option maxRecDepth 100000 in
set_option maxHeartbeats 4000000 in
theorem ct_X0_checkIn (l : Launch) (hl : l.stackTraces = false) (D : va_G) (cI cZ cL : ClassId) (ad : Nat → Nat) {K T : Nat} (M : MT) (x r0 : Int32) (hI : MI K T M) (hK4 : K + 4 ≤ 2048) : bh_Xi l D (wh_tys cI cZ cL) yX0_checkIn wsX0_checkIn ({ frames := 8, cells := 1, slots := 6, locals := 134 } : Room) [.ref (ad 0), .int x, .int r0] (wh_hall cI cZ ad M) (fun r (_ : Unit) => co_take M x r0 = 0 ∧ vp_in x 10 ∧ vp_in r0 40 ∧ mq_bc M < 48 ∧ r = nI (mq_bc M)) (fun _ => wh_hall cI cZ ad (mo_bring (mo_take M x r0) (mq_bc M) 1)) (mo_px xe_I xe_S (co_take M x r0)) 1 6 := by
  refine bh_ofXi (cc := cX0_checkIn) (maxL := 4) (by decide +kernel) rfl (Nat.le_of_ble_eq_true rfl) ?_
  intro p e s m args below meth c A Q C hQ hE hno
  refine bh_eqlv (lv' := [(0, .ref (ad 0)), (1, .int x), (2, .int r0)]) rfl ?_
  have hfc := MI_fc hI; have hbc := MI_bc hI; have hsc := MI_sc hI; have hnow := MI_now2 hI
  have hsc9 := MI_phi0 hI
  refine bh_aload_n C dX0_checkIn_0 rfl 0 rfl ?_
  refine bh_iload_n C dX0_checkIn_1 rfl 1 rfl ?_
  refine bh_iload_n C dX0_checkIn_2 rfl 2 rfl ?_
  refine bh_xcalli (As := [.int x, .int r0]) C hQ hE hno (ct_X0_takeIn l hl D cI cZ cL ad M x r0 hI) (cwV 2 C.1.2.2.2.2 gX0_checkIn_X0_takeIn rfl rfl rfl (by decide +kernel) ⟨Nat.le_of_ble_eq_true rfl, Nat.le_of_ble_eq_true rfl⟩) (ci := 0) rfl 0 rfl rfl rfl (Nat.le_of_ble_eq_true rfl) dX0_checkIn_3 ⟨Nat.le_of_ble_eq_true rfl, Nat.le_of_ble_eq_true rfl⟩ (Nat.le_of_ble_eq_true rfl) (Nat.le_of_ble_eq_true rfl) (fun E h9 => h9) (fun r_3 u_3 hp_3 => ?_)
  obtain ⟨hco, hx10, hr40, hb48, rfl⟩ := hp_3
  refine bh_istore_n (lv' := [(3, .int (nI (mq_bc M))), (0, .ref (ad 0)), (1, .int x), (2, .int r0)]) C dX0_checkIn_6 rfl (by decide) rfl ?_
  refine bh_aload_n C dX0_checkIn_7 rfl 1 rfl ?_
  refine bh_iload_n C dX0_checkIn_8 rfl 0 rfl ?_
  refine bh_iconst (v := 1) C dX0_checkIn_9 (by decide) ?_
  refine bh_callv_0 (As := [.int (nI (mq_bc M)), .int 1]) C (ct_X0_bring l D cI cZ cL ad (mo_take M x r0) (mq_bc M) 1 hb48 (vp_in_nI (n := 1) (by decide) (by decide)) (MI_pl (MI_take hI hx10 hr40 hb48) _) (show mq_sc M < 2048 by omega)) (cwV 2 C.1.2.2.2.2 gX0_checkIn_X0_bring rfl rfl rfl (by decide +kernel) ⟨Nat.le_of_ble_eq_true rfl, Nat.le_of_ble_eq_true rfl⟩) (ci := 0) rfl 0 rfl rfl rfl (Nat.le_of_ble_eq_true rfl) dX0_checkIn_10 ⟨Nat.le_of_ble_eq_true rfl, Nat.le_of_ble_eq_true rfl⟩ (fun u_10 hp_10 => ?_)
  refine bh_iload_n C dX0_checkIn_13 rfl 0 rfl ?_
  exact bh_xzret C hQ dX0_checkIn_14 () (v := (nI (mq_bc M))) (w := wh_hall cI cZ ad (mo_bring (mo_take M x r0) (mq_bc M) 1)) rfl rfl (Nat.le_of_ble_eq_true rfl) (Nat.le_of_ble_eq_true rfl) ⟨hco, hx10, hr40, hb48, rfl⟩
set_option maxRecDepth 100000 in
set_option maxHeartbeats 4000000 in
theorem ct_X0_transfer (l : Launch) (hl : l.stackTraces = false) (D : va_G) (cI cZ cL : ClassId) (ad : Nat → Nat) {K T : Nat} (M : MT) (x r0 : Int32) (hI : MI K T M) (hK4 : K + 4 ≤ 2048) : bh_Xi l D (wh_tys cI cZ cL) yX0_transfer wsX0_transfer ({ frames := 8, cells := 1, slots := 6, locals := 134 } : Room) [.ref (ad 0), .int x, .int r0] (wh_hall cI cZ ad M) (fun r (_ : Unit) => co_take M x r0 = 0 ∧ vp_in x 10 ∧ vp_in r0 40 ∧ mq_bc M < 48 ∧ r = nI (mq_bc M)) (fun _ => wh_hall cI cZ ad (mo_route (mo_take M x r0) (mq_bc M))) (mo_px xe_I xe_S (co_take M x r0)) 1 6 := by
  refine bh_ofXi (cc := cX0_transfer) (maxL := 4) (by decide +kernel) rfl (Nat.le_of_ble_eq_true rfl) ?_
  intro p e s m args below meth c A Q C hQ hE hno
  refine bh_eqlv (lv' := [(0, .ref (ad 0)), (1, .int x), (2, .int r0)]) rfl ?_
  have hfc := MI_fc hI; have hbc := MI_bc hI; have hsc := MI_sc hI; have hnow := MI_now2 hI
  have hsc9 := MI_phi0 hI
  refine bh_aload_n C dX0_transfer_0 rfl 0 rfl ?_
  refine bh_iload_n C dX0_transfer_1 rfl 1 rfl ?_
  refine bh_iload_n C dX0_transfer_2 rfl 2 rfl ?_
  refine bh_xcalli (As := [.int x, .int r0]) C hQ hE hno (ct_X0_takeIn l hl D cI cZ cL ad M x r0 hI) (cwV 2 C.1.2.2.2.2 gX0_transfer_X0_takeIn rfl rfl rfl (by decide +kernel) ⟨Nat.le_of_ble_eq_true rfl, Nat.le_of_ble_eq_true rfl⟩) (ci := 0) rfl 0 rfl rfl rfl (Nat.le_of_ble_eq_true rfl) dX0_transfer_3 ⟨Nat.le_of_ble_eq_true rfl, Nat.le_of_ble_eq_true rfl⟩ (Nat.le_of_ble_eq_true rfl) (Nat.le_of_ble_eq_true rfl) (fun E h9 => h9) (fun r_3 u_3 hp_3 => ?_)
  obtain ⟨hco, hx10, hr40, hb48, rfl⟩ := hp_3
  refine bh_istore_n (lv' := [(3, .int (nI (mq_bc M))), (0, .ref (ad 0)), (1, .int x), (2, .int r0)]) C dX0_transfer_6 rfl (by decide) rfl ?_
  refine bh_aload_n C dX0_transfer_7 rfl 1 rfl ?_
  refine bh_iload_n C dX0_transfer_8 rfl 0 rfl ?_
  refine bh_callv_0 (As := [.int (nI (mq_bc M))]) C (ct_X0_route l D cI cZ cL ad (mo_take M x r0) (mq_bc M) (MI_take hI hx10 hr40 hb48) hb48 (show mq_sc M < 2048 by omega)) (cwV 1 C.1.2.2.2.2 gX0_transfer_X0_route rfl rfl rfl (by decide +kernel) ⟨Nat.le_of_ble_eq_true rfl, Nat.le_of_ble_eq_true rfl⟩) (ci := 0) rfl 0 rfl rfl rfl (Nat.le_of_ble_eq_true rfl) dX0_transfer_9 ⟨Nat.le_of_ble_eq_true rfl, Nat.le_of_ble_eq_true rfl⟩ (fun u_9 hp_9 => ?_)
  refine bh_iload_n C dX0_transfer_12 rfl 0 rfl ?_
  exact bh_xzret C hQ dX0_transfer_13 () (v := (nI (mq_bc M))) (w := wh_hall cI cZ ad (mo_route (mo_take M x r0) (mq_bc M))) rfl rfl (Nat.le_of_ble_eq_true rfl) (Nat.le_of_ble_eq_true rfl) ⟨hco, hx10, hr40, hb48, rfl⟩
theorem ct_X0_decide_in : ∀ w ∈ wsX00, w ∈ wsX0_decide := by decide +kernel
theorem ct_X0_decide_at65 : ∀ z ∈ (vx_atS RX0 65 xe_S xe_ns).filter goodWord, z ∈ wsX0_decide := by decide +kernel
set_option maxRecDepth 100000 in
set_option maxHeartbeats 4000000 in
theorem ct_X0_decide (l : Launch) (hl : l.stackTraces = false) (D : va_G) (cI cZ cL : ClassId) (ad : Nat → Nat) {K T : Nat} (M : MT) (b z : Int32) (hI : MI K T M) (hK4 : K + 4 ≤ 2048) : bh_Xi l D (wh_tys cI cZ cL) yX0_decide wsX0_decide ({ frames := 7, cells := 1, slots := 6, locals := 111 } : Room) [.ref (ad 0), .int b, .int z] (wh_hall cI cZ ad M) (fun r (_ : Unit) => co_deci M b = 0 ∧ r = mq_pl (mo_dec M b.toNatClampNeg z) b.toNatClampNeg) (fun _ => wh_hall cI cZ ad (mo_dec M b.toNatClampNeg z)) (mo_px xe_I xe_S (co_deci M b)) 1 6 := by
  refine bh_ofXi (cc := cX0_decide) (maxL := 4) (by decide +kernel) rfl (Nat.le_of_ble_eq_true rfl) ?_
  intro p e s m args below meth c A Q C hQ hE hno
  refine bh_eqlv (lv' := [(0, .ref (ad 0)), (1, .int b), (2, .int z)]) rfl ?_
  have hfc := MI_fc hI; have hbc := MI_bc hI; have hsc := MI_sc hI; have hnow := MI_now2 hI
  have hsc9 := MI_phi0 hI
  refine bh_aload_n C dX0_decide_0 rfl 0 rfl ?_
  refine bh_iload_n C dX0_decide_1 rfl 1 rfl ?_
  refine bh_xcallv (As := [.int b]) C hQ hE hno (ct_X0_requireBag l hl D cI cZ cL ad M b hI) (cwV 1 C.1.2.2.2.2 gX0_decide_X0_requireBag rfl rfl rfl (by decide +kernel) ⟨Nat.le_of_ble_eq_true rfl, Nat.le_of_ble_eq_true rfl⟩) (ci := 0) rfl 0 rfl rfl rfl (Nat.le_of_ble_eq_true rfl) dX0_decide_2 ⟨Nat.le_of_ble_eq_true rfl, Nat.le_of_ble_eq_true rfl⟩ (Nat.le_of_ble_eq_true rfl) (Nat.le_of_ble_eq_true rfl) (fun E h9 => Or.inl ⟨h9.1, if_neg (mo_in_f h9.2)⟩) (fun u_2 hp_2 => ?_)
  have hb9 := hp_2
  obtain ⟨k, hk, rfl⟩ := vp_in_of hp_2 (by omega)
  have hk9 : (nI k).toNatClampNeg = k := nI_clamp (by omega)
  refine bh_aload_n C dX0_decide_5 rfl 0 rfl ?_
  refine bh_get C ct_X0_decide_in 0 rfl rfl 9 (by decide) (by decide +kernel) rfl (v := .ref (ad 9)) rfl dX0_decide_6 ?_
  refine bh_iload_n C dX0_decide_9 rfl 1 rfl ?_
  refine bh_iald C 7 0 (f := (mq_pl M)) rfl rfl (i := (nI k)) (vp_in_nI (n := k) (by omega) (by decide)) (x := ((mq_pl M) k)) (congrArg (mq_pl M) (nI_clamp (n := k) (by omega))) dX0_decide_10 ?_
  refine bh_istore_n (lv' := [(3, .int ((mq_pl M) k)), (0, .ref (ad 0)), (1, .int (nI k)), (2, .int z)]) C dX0_decide_11 rfl (by decide) rfl ?_
  refine bh_iload_n C dX0_decide_12 rfl 0 rfl ?_
  refine bh_iconst (v := 1) C dX0_decide_13 (by decide) ?_
  refine bh_icmp_eq (tgt := 37) C dX0_decide_14 (by decide) (fun c_14 => ?_) (fun c_14 => ?_)
  · skip
    refine bh_aload_n C dX0_decide_37 rfl 1 rfl ?_
    refine bh_get C ct_X0_decide_in 0 rfl rfl 0 (by decide) (by decide +kernel) rfl (v := .int (nI (mq_now M))) rfl dX0_decide_38 ?_
    refine bh_aload_n C dX0_decide_41 rfl 1 rfl ?_
    refine bh_get C ct_X0_decide_in 0 rfl rfl 11 (by decide) (by decide +kernel) rfl (v := .ref (ad 11)) rfl dX0_decide_42 ?_
    refine bh_iload_n C dX0_decide_45 rfl 2 rfl ?_
    refine bh_iald C 9 0 (f := (mq_ca M)) rfl rfl (i := (nI k)) (vp_in_nI (n := k) (by omega) (by decide)) (x := ((mq_ca M) k)) (congrArg (mq_ca M) (nI_clamp (n := k) (by omega))) dX0_decide_46 ?_
    refine bh_isub C dX0_decide_47 ?_
    refine bh_iload_n C dX0_decide_48 rfl 0 rfl ?_
    refine bh_calli_N (As := [.int ((mq_pl M) k)]) C (ct_X0_decisionTime l D cI cZ cL ad ((mq_pl M) k)) ⟨callB_of 1 C.1.2.2.2.2 ggX0_decide_X0_decisionTime rfl rfl rfl (C.1.2.2.2.2 _ (by decide +kernel)) (C.1.2.2.2.2 _ (by decide +kernel)) (by decide +kernel) ⟨Nat.le_of_ble_eq_true rfl, Nat.le_of_ble_eq_true rfl⟩, C.1.2.2.2.2 _ (by decide +kernel)⟩ rfl rfl (Nat.le_of_ble_eq_true rfl) dX0_decide_49 ⟨Nat.le_of_ble_eq_true rfl, Nat.le_of_ble_eq_true rfl⟩ (fun r_49 u_49 hp_49 => ?_)
    subst hp_49
    refine bh_icmp_ge (tgt := 65) C dX0_decide_52 (by decide) (fun c_52 => ?_) (fun c_52 => ?_)
    · skip
      refine bh_iload_n C dX0_decide_65 rfl 3 rfl ?_
      refine bh_if_eq (tgt := 77) C dX0_decide_66 (by decide) (fun c_66 => ?_) (fun c_66 => ?_)
      · skip
        refine bh_aload_n C dX0_decide_77 rfl 1 rfl ?_
        refine bh_iload_n C dX0_decide_78 rfl 2 rfl ?_
        refine bh_iload_n C dX0_decide_79 rfl 0 rfl ?_
        refine bh_calli_N (As := [.int ((mq_pl M) k)]) C (ct_X0_nextLevel l D cI cZ cL ad ((mq_pl M) k)) ⟨callB_of 1 C.1.2.2.2.2 ggX0_decide_X0_nextLevel rfl rfl rfl (C.1.2.2.2.2 _ (by decide +kernel)) (C.1.2.2.2.2 _ (by decide +kernel)) (by decide +kernel) ⟨Nat.le_of_ble_eq_true rfl, Nat.le_of_ble_eq_true rfl⟩, C.1.2.2.2.2 _ (by decide +kernel)⟩ rfl rfl (Nat.le_of_ble_eq_true rfl) dX0_decide_80 ⟨Nat.le_of_ble_eq_true rfl, Nat.le_of_ble_eq_true rfl⟩ (fun r_80 u_80 hp_80 => ?_)
        subst hp_80
        refine bh_callv_0 (As := [.int (nI k), .int (mo_nx ((mq_pl M) k))]) C (ct_X0_bring l D cI cZ cL ad M k (mo_nx ((mq_pl M) k)) (by omega) (mo_nx_in _) (MI_pl hI _) (show mq_sc M < 2048 by omega)) (cwV 2 C.1.2.2.2.2 gX0_decide_X0_bring rfl rfl rfl (by decide +kernel) ⟨Nat.le_of_ble_eq_true rfl, Nat.le_of_ble_eq_true rfl⟩) (ci := 0) rfl 0 rfl rfl rfl (Nat.le_of_ble_eq_true rfl) dX0_decide_83 ⟨Nat.le_of_ble_eq_true rfl, Nat.le_of_ble_eq_true rfl⟩ (fun u_83 hp_83 => ?_)
        refine bh_aload_n C dX0_decide_86 rfl 1 rfl ?_
        refine bh_get C ct_X0_decide_in 0 rfl rfl 9 (by decide) (by decide +kernel) rfl (v := .ref (ad 9)) rfl dX0_decide_87 ?_
        refine bh_iload_n C dX0_decide_90 rfl 2 rfl ?_
        refine bh_iald C 7 0 (f := (mq_pl (mo_bring M k (mo_nx ((mq_pl M) k))))) rfl rfl (i := (nI k)) (vp_in_nI (n := k) (by omega) (by decide)) (x := ((mq_pl (mo_bring M k (mo_nx ((mq_pl M) k)))) k)) (congrArg (mq_pl (mo_bring M k (mo_nx ((mq_pl M) k)))) (nI_clamp (n := k) (by omega))) dX0_decide_91 ?_
        exact bh_xzret C hQ dX0_decide_92 () (v := ((mq_pl (mo_bring M k (mo_nx ((mq_pl M) k)))) k)) (w := wh_hall cI cZ ad (mo_bring M k (mo_nx ((mq_pl M) k)))) (by rw [hk9]; exact congrArg (wh_hall cI cZ ad) (show mo_dec M k z = mo_bring M k (mo_nx (mq_pl M k)) from if_pos c_66).symm) rfl (Nat.le_of_ble_eq_true rfl) (Nat.le_of_ble_eq_true rfl) ⟨co_deci0 hb9 (by rw [hk9]; first | exact Or.inl c_14 | exact Or.inr (Or.inl c_19) | exact Or.inr (Or.inr c_24)) (by rw [hk9]; exact c_52), by rw [hk9]; exact congrArg (fun N => mq_pl N k) (show mo_dec M k z = mo_bring M k (mo_nx (mq_pl M k)) from if_pos c_66).symm⟩
      · skip
        refine bh_aload_n C dX0_decide_69 rfl 1 rfl ?_
        refine bh_iload_n C dX0_decide_70 rfl 2 rfl ?_
        refine bh_callv_0 (As := [.int (nI k)]) C (ct_X0_route l D cI cZ cL ad M k hI (by omega) (show mq_sc M < 2048 by omega)) (cwV 1 C.1.2.2.2.2 gX0_decide_X0_route rfl rfl rfl (by decide +kernel) ⟨Nat.le_of_ble_eq_true rfl, Nat.le_of_ble_eq_true rfl⟩) (ci := 0) rfl 0 rfl rfl rfl (Nat.le_of_ble_eq_true rfl) dX0_decide_71 ⟨Nat.le_of_ble_eq_true rfl, Nat.le_of_ble_eq_true rfl⟩ (fun u_71 hp_71 => ?_)
        refine bh_goto (tgt := 86) C dX0_decide_74 (by decide) ?_
        refine bh_aload_n C dX0_decide_86 rfl 1 rfl ?_
        refine bh_get C ct_X0_decide_in 0 rfl rfl 9 (by decide) (by decide +kernel) rfl (v := .ref (ad 9)) rfl dX0_decide_87 ?_
        refine bh_iload_n C dX0_decide_90 rfl 2 rfl ?_
        refine bh_iald C 7 0 (f := (mq_pl (mo_route M k))) rfl rfl (i := (nI k)) (vp_in_nI (n := k) (by omega) (by decide)) (x := ((mq_pl (mo_route M k)) k)) (congrArg (mq_pl (mo_route M k)) (nI_clamp (n := k) (by omega))) dX0_decide_91 ?_
        exact bh_xzret C hQ dX0_decide_92 () (v := ((mq_pl (mo_route M k)) k)) (w := wh_hall cI cZ ad (mo_route M k)) (by rw [hk9]; exact congrArg (wh_hall cI cZ ad) (show mo_dec M k z = mo_route M k from if_neg c_66).symm) rfl (Nat.le_of_ble_eq_true rfl) (Nat.le_of_ble_eq_true rfl) ⟨co_deci0 hb9 (by rw [hk9]; first | exact Or.inl c_14 | exact Or.inr (Or.inl c_19) | exact Or.inr (Or.inr c_24)) (by rw [hk9]; exact c_52), by rw [hk9]; exact congrArg (fun N => mq_pl N k) (show mo_dec M k z = mo_route M k from if_neg c_66).symm⟩
    · skip
      exact bh_throw C hE hno hl hQ (cls := xe_S) (text := "the decision takes longer") (by decide +kernel) (by decide +kernel) (by decide +kernel) (by decide +kernel) ct_X0_decide_at65 xe_hb65 xe_hg65_61 dX0_decide_55 dX0_decide_58 dX0_decide_59 dX0_decide_61 dX0_decide_64 (Nat.le_of_ble_eq_true rfl) (Nat.le_of_ble_eq_true rfl) (Nat.le_of_ble_eq_true rfl) (Nat.le_of_ble_eq_true rfl) (Nat.le_of_ble_eq_true rfl) (Nat.le_of_ble_eq_true rfl) (Or.inr ⟨rfl, co_deci2 hb9 (Or.inr (by rw [hk9]; exact bh_nle3 c_52))⟩)
  · skip
    refine bh_iload_n C dX0_decide_17 rfl 0 rfl ?_
    refine bh_iconst (v := 2) C dX0_decide_18 (by decide) ?_
    refine bh_icmp_eq (tgt := 37) C dX0_decide_19 (by decide) (fun c_19 => ?_) (fun c_19 => ?_)
    · skip
      refine bh_aload_n C dX0_decide_37 rfl 1 rfl ?_
      refine bh_get C ct_X0_decide_in 0 rfl rfl 0 (by decide) (by decide +kernel) rfl (v := .int (nI (mq_now M))) rfl dX0_decide_38 ?_
      refine bh_aload_n C dX0_decide_41 rfl 1 rfl ?_
      refine bh_get C ct_X0_decide_in 0 rfl rfl 11 (by decide) (by decide +kernel) rfl (v := .ref (ad 11)) rfl dX0_decide_42 ?_
      refine bh_iload_n C dX0_decide_45 rfl 2 rfl ?_
      refine bh_iald C 9 0 (f := (mq_ca M)) rfl rfl (i := (nI k)) (vp_in_nI (n := k) (by omega) (by decide)) (x := ((mq_ca M) k)) (congrArg (mq_ca M) (nI_clamp (n := k) (by omega))) dX0_decide_46 ?_
      refine bh_isub C dX0_decide_47 ?_
      refine bh_iload_n C dX0_decide_48 rfl 0 rfl ?_
      refine bh_calli_N (As := [.int ((mq_pl M) k)]) C (ct_X0_decisionTime l D cI cZ cL ad ((mq_pl M) k)) ⟨callB_of 1 C.1.2.2.2.2 ggX0_decide_X0_decisionTime rfl rfl rfl (C.1.2.2.2.2 _ (by decide +kernel)) (C.1.2.2.2.2 _ (by decide +kernel)) (by decide +kernel) ⟨Nat.le_of_ble_eq_true rfl, Nat.le_of_ble_eq_true rfl⟩, C.1.2.2.2.2 _ (by decide +kernel)⟩ rfl rfl (Nat.le_of_ble_eq_true rfl) dX0_decide_49 ⟨Nat.le_of_ble_eq_true rfl, Nat.le_of_ble_eq_true rfl⟩ (fun r_49 u_49 hp_49 => ?_)
      subst hp_49
      refine bh_icmp_ge (tgt := 65) C dX0_decide_52 (by decide) (fun c_52 => ?_) (fun c_52 => ?_)
      · skip
        refine bh_iload_n C dX0_decide_65 rfl 3 rfl ?_
        refine bh_if_eq (tgt := 77) C dX0_decide_66 (by decide) (fun c_66 => ?_) (fun c_66 => ?_)
        · skip
          refine bh_aload_n C dX0_decide_77 rfl 1 rfl ?_
          refine bh_iload_n C dX0_decide_78 rfl 2 rfl ?_
          refine bh_iload_n C dX0_decide_79 rfl 0 rfl ?_
          refine bh_calli_N (As := [.int ((mq_pl M) k)]) C (ct_X0_nextLevel l D cI cZ cL ad ((mq_pl M) k)) ⟨callB_of 1 C.1.2.2.2.2 ggX0_decide_X0_nextLevel rfl rfl rfl (C.1.2.2.2.2 _ (by decide +kernel)) (C.1.2.2.2.2 _ (by decide +kernel)) (by decide +kernel) ⟨Nat.le_of_ble_eq_true rfl, Nat.le_of_ble_eq_true rfl⟩, C.1.2.2.2.2 _ (by decide +kernel)⟩ rfl rfl (Nat.le_of_ble_eq_true rfl) dX0_decide_80 ⟨Nat.le_of_ble_eq_true rfl, Nat.le_of_ble_eq_true rfl⟩ (fun r_80 u_80 hp_80 => ?_)
          subst hp_80
          refine bh_callv_0 (As := [.int (nI k), .int (mo_nx ((mq_pl M) k))]) C (ct_X0_bring l D cI cZ cL ad M k (mo_nx ((mq_pl M) k)) (by omega) (mo_nx_in _) (MI_pl hI _) (show mq_sc M < 2048 by omega)) (cwV 2 C.1.2.2.2.2 gX0_decide_X0_bring rfl rfl rfl (by decide +kernel) ⟨Nat.le_of_ble_eq_true rfl, Nat.le_of_ble_eq_true rfl⟩) (ci := 0) rfl 0 rfl rfl rfl (Nat.le_of_ble_eq_true rfl) dX0_decide_83 ⟨Nat.le_of_ble_eq_true rfl, Nat.le_of_ble_eq_true rfl⟩ (fun u_83 hp_83 => ?_)
          refine bh_aload_n C dX0_decide_86 rfl 1 rfl ?_
          refine bh_get C ct_X0_decide_in 0 rfl rfl 9 (by decide) (by decide +kernel) rfl (v := .ref (ad 9)) rfl dX0_decide_87 ?_
          refine bh_iload_n C dX0_decide_90 rfl 2 rfl ?_
          refine bh_iald C 7 0 (f := (mq_pl (mo_bring M k (mo_nx ((mq_pl M) k))))) rfl rfl (i := (nI k)) (vp_in_nI (n := k) (by omega) (by decide)) (x := ((mq_pl (mo_bring M k (mo_nx ((mq_pl M) k)))) k)) (congrArg (mq_pl (mo_bring M k (mo_nx ((mq_pl M) k)))) (nI_clamp (n := k) (by omega))) dX0_decide_91 ?_
          exact bh_xzret C hQ dX0_decide_92 () (v := ((mq_pl (mo_bring M k (mo_nx ((mq_pl M) k)))) k)) (w := wh_hall cI cZ ad (mo_bring M k (mo_nx ((mq_pl M) k)))) (by rw [hk9]; exact congrArg (wh_hall cI cZ ad) (show mo_dec M k z = mo_bring M k (mo_nx (mq_pl M k)) from if_pos c_66).symm) rfl (Nat.le_of_ble_eq_true rfl) (Nat.le_of_ble_eq_true rfl) ⟨co_deci0 hb9 (by rw [hk9]; first | exact Or.inl c_14 | exact Or.inr (Or.inl c_19) | exact Or.inr (Or.inr c_24)) (by rw [hk9]; exact c_52), by rw [hk9]; exact congrArg (fun N => mq_pl N k) (show mo_dec M k z = mo_bring M k (mo_nx (mq_pl M k)) from if_pos c_66).symm⟩
        · skip
          refine bh_aload_n C dX0_decide_69 rfl 1 rfl ?_
          refine bh_iload_n C dX0_decide_70 rfl 2 rfl ?_
          refine bh_callv_0 (As := [.int (nI k)]) C (ct_X0_route l D cI cZ cL ad M k hI (by omega) (show mq_sc M < 2048 by omega)) (cwV 1 C.1.2.2.2.2 gX0_decide_X0_route rfl rfl rfl (by decide +kernel) ⟨Nat.le_of_ble_eq_true rfl, Nat.le_of_ble_eq_true rfl⟩) (ci := 0) rfl 0 rfl rfl rfl (Nat.le_of_ble_eq_true rfl) dX0_decide_71 ⟨Nat.le_of_ble_eq_true rfl, Nat.le_of_ble_eq_true rfl⟩ (fun u_71 hp_71 => ?_)
          refine bh_goto (tgt := 86) C dX0_decide_74 (by decide) ?_
          refine bh_aload_n C dX0_decide_86 rfl 1 rfl ?_
          refine bh_get C ct_X0_decide_in 0 rfl rfl 9 (by decide) (by decide +kernel) rfl (v := .ref (ad 9)) rfl dX0_decide_87 ?_
          refine bh_iload_n C dX0_decide_90 rfl 2 rfl ?_
          refine bh_iald C 7 0 (f := (mq_pl (mo_route M k))) rfl rfl (i := (nI k)) (vp_in_nI (n := k) (by omega) (by decide)) (x := ((mq_pl (mo_route M k)) k)) (congrArg (mq_pl (mo_route M k)) (nI_clamp (n := k) (by omega))) dX0_decide_91 ?_
          exact bh_xzret C hQ dX0_decide_92 () (v := ((mq_pl (mo_route M k)) k)) (w := wh_hall cI cZ ad (mo_route M k)) (by rw [hk9]; exact congrArg (wh_hall cI cZ ad) (show mo_dec M k z = mo_route M k from if_neg c_66).symm) rfl (Nat.le_of_ble_eq_true rfl) (Nat.le_of_ble_eq_true rfl) ⟨co_deci0 hb9 (by rw [hk9]; first | exact Or.inl c_14 | exact Or.inr (Or.inl c_19) | exact Or.inr (Or.inr c_24)) (by rw [hk9]; exact c_52), by rw [hk9]; exact congrArg (fun N => mq_pl N k) (show mo_dec M k z = mo_route M k from if_neg c_66).symm⟩
      · skip
        exact bh_throw C hE hno hl hQ (cls := xe_S) (text := "the decision takes longer") (by decide +kernel) (by decide +kernel) (by decide +kernel) (by decide +kernel) ct_X0_decide_at65 xe_hb65 xe_hg65_61 dX0_decide_55 dX0_decide_58 dX0_decide_59 dX0_decide_61 dX0_decide_64 (Nat.le_of_ble_eq_true rfl) (Nat.le_of_ble_eq_true rfl) (Nat.le_of_ble_eq_true rfl) (Nat.le_of_ble_eq_true rfl) (Nat.le_of_ble_eq_true rfl) (Nat.le_of_ble_eq_true rfl) (Or.inr ⟨rfl, co_deci2 hb9 (Or.inr (by rw [hk9]; exact bh_nle3 c_52))⟩)
    · skip
      refine bh_iload_n C dX0_decide_22 rfl 0 rfl ?_
      refine bh_iconst (v := 3) C dX0_decide_23 (by decide) ?_
      refine bh_icmp_eq (tgt := 37) C dX0_decide_24 (by decide) (fun c_24 => ?_) (fun c_24 => ?_)
      · skip
        refine bh_aload_n C dX0_decide_37 rfl 1 rfl ?_
        refine bh_get C ct_X0_decide_in 0 rfl rfl 0 (by decide) (by decide +kernel) rfl (v := .int (nI (mq_now M))) rfl dX0_decide_38 ?_
        refine bh_aload_n C dX0_decide_41 rfl 1 rfl ?_
        refine bh_get C ct_X0_decide_in 0 rfl rfl 11 (by decide) (by decide +kernel) rfl (v := .ref (ad 11)) rfl dX0_decide_42 ?_
        refine bh_iload_n C dX0_decide_45 rfl 2 rfl ?_
        refine bh_iald C 9 0 (f := (mq_ca M)) rfl rfl (i := (nI k)) (vp_in_nI (n := k) (by omega) (by decide)) (x := ((mq_ca M) k)) (congrArg (mq_ca M) (nI_clamp (n := k) (by omega))) dX0_decide_46 ?_
        refine bh_isub C dX0_decide_47 ?_
        refine bh_iload_n C dX0_decide_48 rfl 0 rfl ?_
        refine bh_calli_N (As := [.int ((mq_pl M) k)]) C (ct_X0_decisionTime l D cI cZ cL ad ((mq_pl M) k)) ⟨callB_of 1 C.1.2.2.2.2 ggX0_decide_X0_decisionTime rfl rfl rfl (C.1.2.2.2.2 _ (by decide +kernel)) (C.1.2.2.2.2 _ (by decide +kernel)) (by decide +kernel) ⟨Nat.le_of_ble_eq_true rfl, Nat.le_of_ble_eq_true rfl⟩, C.1.2.2.2.2 _ (by decide +kernel)⟩ rfl rfl (Nat.le_of_ble_eq_true rfl) dX0_decide_49 ⟨Nat.le_of_ble_eq_true rfl, Nat.le_of_ble_eq_true rfl⟩ (fun r_49 u_49 hp_49 => ?_)
        subst hp_49
        refine bh_icmp_ge (tgt := 65) C dX0_decide_52 (by decide) (fun c_52 => ?_) (fun c_52 => ?_)
        · skip
          refine bh_iload_n C dX0_decide_65 rfl 3 rfl ?_
          refine bh_if_eq (tgt := 77) C dX0_decide_66 (by decide) (fun c_66 => ?_) (fun c_66 => ?_)
          · skip
            refine bh_aload_n C dX0_decide_77 rfl 1 rfl ?_
            refine bh_iload_n C dX0_decide_78 rfl 2 rfl ?_
            refine bh_iload_n C dX0_decide_79 rfl 0 rfl ?_
            refine bh_calli_N (As := [.int ((mq_pl M) k)]) C (ct_X0_nextLevel l D cI cZ cL ad ((mq_pl M) k)) ⟨callB_of 1 C.1.2.2.2.2 ggX0_decide_X0_nextLevel rfl rfl rfl (C.1.2.2.2.2 _ (by decide +kernel)) (C.1.2.2.2.2 _ (by decide +kernel)) (by decide +kernel) ⟨Nat.le_of_ble_eq_true rfl, Nat.le_of_ble_eq_true rfl⟩, C.1.2.2.2.2 _ (by decide +kernel)⟩ rfl rfl (Nat.le_of_ble_eq_true rfl) dX0_decide_80 ⟨Nat.le_of_ble_eq_true rfl, Nat.le_of_ble_eq_true rfl⟩ (fun r_80 u_80 hp_80 => ?_)
            subst hp_80
            refine bh_callv_0 (As := [.int (nI k), .int (mo_nx ((mq_pl M) k))]) C (ct_X0_bring l D cI cZ cL ad M k (mo_nx ((mq_pl M) k)) (by omega) (mo_nx_in _) (MI_pl hI _) (show mq_sc M < 2048 by omega)) (cwV 2 C.1.2.2.2.2 gX0_decide_X0_bring rfl rfl rfl (by decide +kernel) ⟨Nat.le_of_ble_eq_true rfl, Nat.le_of_ble_eq_true rfl⟩) (ci := 0) rfl 0 rfl rfl rfl (Nat.le_of_ble_eq_true rfl) dX0_decide_83 ⟨Nat.le_of_ble_eq_true rfl, Nat.le_of_ble_eq_true rfl⟩ (fun u_83 hp_83 => ?_)
            refine bh_aload_n C dX0_decide_86 rfl 1 rfl ?_
            refine bh_get C ct_X0_decide_in 0 rfl rfl 9 (by decide) (by decide +kernel) rfl (v := .ref (ad 9)) rfl dX0_decide_87 ?_
            refine bh_iload_n C dX0_decide_90 rfl 2 rfl ?_
            refine bh_iald C 7 0 (f := (mq_pl (mo_bring M k (mo_nx ((mq_pl M) k))))) rfl rfl (i := (nI k)) (vp_in_nI (n := k) (by omega) (by decide)) (x := ((mq_pl (mo_bring M k (mo_nx ((mq_pl M) k)))) k)) (congrArg (mq_pl (mo_bring M k (mo_nx ((mq_pl M) k)))) (nI_clamp (n := k) (by omega))) dX0_decide_91 ?_
            exact bh_xzret C hQ dX0_decide_92 () (v := ((mq_pl (mo_bring M k (mo_nx ((mq_pl M) k)))) k)) (w := wh_hall cI cZ ad (mo_bring M k (mo_nx ((mq_pl M) k)))) (by rw [hk9]; exact congrArg (wh_hall cI cZ ad) (show mo_dec M k z = mo_bring M k (mo_nx (mq_pl M k)) from if_pos c_66).symm) rfl (Nat.le_of_ble_eq_true rfl) (Nat.le_of_ble_eq_true rfl) ⟨co_deci0 hb9 (by rw [hk9]; first | exact Or.inl c_14 | exact Or.inr (Or.inl c_19) | exact Or.inr (Or.inr c_24)) (by rw [hk9]; exact c_52), by rw [hk9]; exact congrArg (fun N => mq_pl N k) (show mo_dec M k z = mo_bring M k (mo_nx (mq_pl M k)) from if_pos c_66).symm⟩
          · skip
            refine bh_aload_n C dX0_decide_69 rfl 1 rfl ?_
            refine bh_iload_n C dX0_decide_70 rfl 2 rfl ?_
            refine bh_callv_0 (As := [.int (nI k)]) C (ct_X0_route l D cI cZ cL ad M k hI (by omega) (show mq_sc M < 2048 by omega)) (cwV 1 C.1.2.2.2.2 gX0_decide_X0_route rfl rfl rfl (by decide +kernel) ⟨Nat.le_of_ble_eq_true rfl, Nat.le_of_ble_eq_true rfl⟩) (ci := 0) rfl 0 rfl rfl rfl (Nat.le_of_ble_eq_true rfl) dX0_decide_71 ⟨Nat.le_of_ble_eq_true rfl, Nat.le_of_ble_eq_true rfl⟩ (fun u_71 hp_71 => ?_)
            refine bh_goto (tgt := 86) C dX0_decide_74 (by decide) ?_
            refine bh_aload_n C dX0_decide_86 rfl 1 rfl ?_
            refine bh_get C ct_X0_decide_in 0 rfl rfl 9 (by decide) (by decide +kernel) rfl (v := .ref (ad 9)) rfl dX0_decide_87 ?_
            refine bh_iload_n C dX0_decide_90 rfl 2 rfl ?_
            refine bh_iald C 7 0 (f := (mq_pl (mo_route M k))) rfl rfl (i := (nI k)) (vp_in_nI (n := k) (by omega) (by decide)) (x := ((mq_pl (mo_route M k)) k)) (congrArg (mq_pl (mo_route M k)) (nI_clamp (n := k) (by omega))) dX0_decide_91 ?_
            exact bh_xzret C hQ dX0_decide_92 () (v := ((mq_pl (mo_route M k)) k)) (w := wh_hall cI cZ ad (mo_route M k)) (by rw [hk9]; exact congrArg (wh_hall cI cZ ad) (show mo_dec M k z = mo_route M k from if_neg c_66).symm) rfl (Nat.le_of_ble_eq_true rfl) (Nat.le_of_ble_eq_true rfl) ⟨co_deci0 hb9 (by rw [hk9]; first | exact Or.inl c_14 | exact Or.inr (Or.inl c_19) | exact Or.inr (Or.inr c_24)) (by rw [hk9]; exact c_52), by rw [hk9]; exact congrArg (fun N => mq_pl N k) (show mo_dec M k z = mo_route M k from if_neg c_66).symm⟩
        · skip
          exact bh_throw C hE hno hl hQ (cls := xe_S) (text := "the decision takes longer") (by decide +kernel) (by decide +kernel) (by decide +kernel) (by decide +kernel) ct_X0_decide_at65 xe_hb65 xe_hg65_61 dX0_decide_55 dX0_decide_58 dX0_decide_59 dX0_decide_61 dX0_decide_64 (Nat.le_of_ble_eq_true rfl) (Nat.le_of_ble_eq_true rfl) (Nat.le_of_ble_eq_true rfl) (Nat.le_of_ble_eq_true rfl) (Nat.le_of_ble_eq_true rfl) (Nat.le_of_ble_eq_true rfl) (Or.inr ⟨rfl, co_deci2 hb9 (Or.inr (by rw [hk9]; exact bh_nle3 c_52))⟩)
      · skip
        exact bh_throw C hE hno hl hQ (cls := xe_S) (text := "the bag is not screened") (by decide +kernel) (by decide +kernel) (by decide +kernel) (by decide +kernel) ct_X0_decide_at65 xe_hb65 xe_hg65_61 dX0_decide_27 dX0_decide_30 dX0_decide_31 dX0_decide_33 dX0_decide_36 (Nat.le_of_ble_eq_true rfl) (Nat.le_of_ble_eq_true rfl) (Nat.le_of_ble_eq_true rfl) (Nat.le_of_ble_eq_true rfl) (Nat.le_of_ble_eq_true rfl) (Nat.le_of_ble_eq_true rfl) (Or.inr ⟨rfl, co_deci2 hb9 (Or.inl (by rw [hk9]; exact fun z => z.elim c_14 (fun z => z.elim c_19 c_24)))⟩)
theorem ct_X0_letGo_in : ∀ w ∈ wsX00, w ∈ wsX0_letGo := by decide +kernel
set_option maxRecDepth 100000 in
set_option maxHeartbeats 4000000 in
theorem ct_X0_letGo (l : Launch) (hl : l.stackTraces = false) (D : va_G) (cI cZ cL : ClassId) (ad : Nat → Nat) {K T : Nat} (M : MT) (b : Int32) (hI : MI K T M) (hK4 : K + 4 ≤ 2048) : bh_Xi l D (wh_tys cI cZ cL) yX0_letGo wsX0_letGo ({ frames := 7, cells := 1, slots := 6, locals := 112 } : Room) [.ref (ad 0), .int b] (wh_hall cI cZ ad M) (fun r (_ : Unit) => co_place M b 4 = 0 ∧ r = mq_pl (mo_route M b.toNatClampNeg) b.toNatClampNeg) (fun _ => wh_hall cI cZ ad (mo_route M b.toNatClampNeg)) (mo_px xe_I xe_S (co_place M b 4)) 1 6 := by
  refine bh_ofXi (cc := cX0_letGo) (maxL := 2) (by decide +kernel) rfl (Nat.le_of_ble_eq_true rfl) ?_
  intro p e s m args below meth c A Q C hQ hE hno
  refine bh_eqlv (lv' := [(0, .ref (ad 0)), (1, .int b)]) rfl ?_
  have hfc := MI_fc hI; have hbc := MI_bc hI; have hsc := MI_sc hI; have hnow := MI_now2 hI
  have hsc9 := MI_phi0 hI
  refine bh_aload_n C dX0_letGo_0 rfl 0 rfl ?_
  refine bh_iload_n C dX0_letGo_1 rfl 1 rfl ?_
  refine bh_xcallv (As := [.int b]) C hQ hE hno (ct_X0_requireBag l hl D cI cZ cL ad M b hI) (cwV 1 C.1.2.2.2.2 gX0_letGo_X0_requireBag rfl rfl rfl (by decide +kernel) ⟨Nat.le_of_ble_eq_true rfl, Nat.le_of_ble_eq_true rfl⟩) (ci := 0) rfl 0 rfl rfl rfl (Nat.le_of_ble_eq_true rfl) dX0_letGo_2 ⟨Nat.le_of_ble_eq_true rfl, Nat.le_of_ble_eq_true rfl⟩ (Nat.le_of_ble_eq_true rfl) (Nat.le_of_ble_eq_true rfl) (fun E h9 => Or.inl ⟨h9.1, if_neg (mo_in_f h9.2)⟩) (fun u_2 hp_2 => ?_)
  have hb9 := hp_2
  obtain ⟨k, hk, rfl⟩ := vp_in_of hp_2 (by omega)
  have hk9 : (nI k).toNatClampNeg = k := nI_clamp (by omega)
  refine bh_aload_n C dX0_letGo_5 rfl 0 rfl ?_
  refine bh_iload_n C dX0_letGo_6 rfl 1 rfl ?_
  refine bh_iconst (v := 4) C dX0_letGo_7 (by decide) ?_
  refine bh_xcallv (As := [.int (nI k), .int 4]) C hQ hE hno (ct_X0_requirePlace l hl D cI cZ cL ad M k 4 (by omega)) (cwV 2 C.1.2.2.2.2 gX0_letGo_X0_requirePlace rfl rfl rfl (by decide +kernel) ⟨Nat.le_of_ble_eq_true rfl, Nat.le_of_ble_eq_true rfl⟩) (ci := 0) rfl 0 rfl rfl rfl (Nat.le_of_ble_eq_true rfl) dX0_letGo_8 ⟨Nat.le_of_ble_eq_true rfl, Nat.le_of_ble_eq_true rfl⟩ (Nat.le_of_ble_eq_true rfl) (Nat.le_of_ble_eq_true rfl) (fun E h9 => Or.inr ⟨h9.1, co_place2 hb9 (by rw [hk9]; exact h9.2)⟩) (fun u_8 hp_8 => ?_)
  refine bh_aload_n C dX0_letGo_11 rfl 0 rfl ?_
  refine bh_iload_n C dX0_letGo_12 rfl 1 rfl ?_
  refine bh_callv_0 (As := [.int (nI k)]) C (ct_X0_route l D cI cZ cL ad M k hI (by omega) (show mq_sc M < 2048 by omega)) (cwV 1 C.1.2.2.2.2 gX0_letGo_X0_route rfl rfl rfl (by decide +kernel) ⟨Nat.le_of_ble_eq_true rfl, Nat.le_of_ble_eq_true rfl⟩) (ci := 0) rfl 0 rfl rfl rfl (Nat.le_of_ble_eq_true rfl) dX0_letGo_13 ⟨Nat.le_of_ble_eq_true rfl, Nat.le_of_ble_eq_true rfl⟩ (fun u_13 hp_13 => ?_)
  refine bh_aload_n C dX0_letGo_16 rfl 0 rfl ?_
  refine bh_get C ct_X0_letGo_in 0 rfl rfl 9 (by decide) (by decide +kernel) rfl (v := .ref (ad 9)) rfl dX0_letGo_17 ?_
  refine bh_iload_n C dX0_letGo_20 rfl 1 rfl ?_
  refine bh_iald C 7 0 (f := (mq_pl (mo_route M k))) rfl rfl (i := (nI k)) (vp_in_nI (n := k) (by omega) (by decide)) (x := ((mq_pl (mo_route M k)) k)) (congrArg (mq_pl (mo_route M k)) (nI_clamp (n := k) (by omega))) dX0_letGo_21 ?_
  exact bh_xzret C hQ dX0_letGo_22 () (v := ((mq_pl (mo_route M k)) k)) (w := wh_hall cI cZ ad (mo_route M k)) (by rw [hk9]) rfl (Nat.le_of_ble_eq_true rfl) (Nat.le_of_ble_eq_true rfl) ⟨co_place0 hb9 (by rw [hk9]; exact hp_8), by rw [hk9]⟩
theorem ct_X0_load_in : ∀ w ∈ wsX00, w ∈ wsX0_load := by decide +kernel
set_option maxRecDepth 100000 in
set_option maxHeartbeats 4000000 in
theorem ct_X0_load (l : Launch) (hl : l.stackTraces = false) (D : va_G) (cI cZ cL : ClassId) (ad : Nat → Nat) {K T : Nat} (M : MT) (b : Int32) (hI : MI K T M) (hK4 : K + 4 ≤ 2048) : bh_Xi l D (wh_tys cI cZ cL) yX0_load wsX0_load ({ frames := 7, cells := 1, slots := 6, locals := 112 } : Room) [.ref (ad 0), .int b] (wh_hall cI cZ ad M) (fun r (_ : Unit) => co_place M b 7 = 0 ∧ r = nI (mo_ld (mo_bring M b.toNatClampNeg 8) (mq_bf M b.toNatClampNeg))) (fun _ => wh_hall cI cZ ad (mo_bring M b.toNatClampNeg 8)) (mo_px xe_I xe_S (co_place M b 7)) 1 6 := by
  refine bh_ofXi (cc := cX0_load) (maxL := 2) (by decide +kernel) rfl (Nat.le_of_ble_eq_true rfl) ?_
  intro p e s m args below meth c A Q C hQ hE hno
  refine bh_eqlv (lv' := [(0, .ref (ad 0)), (1, .int b)]) rfl ?_
  have hfc := MI_fc hI; have hbc := MI_bc hI; have hsc := MI_sc hI; have hnow := MI_now2 hI
  have hsc9 := MI_phi0 hI
  refine bh_aload_n C dX0_load_0 rfl 0 rfl ?_
  refine bh_iload_n C dX0_load_1 rfl 1 rfl ?_
  refine bh_xcallv (As := [.int b]) C hQ hE hno (ct_X0_requireBag l hl D cI cZ cL ad M b hI) (cwV 1 C.1.2.2.2.2 gX0_load_X0_requireBag rfl rfl rfl (by decide +kernel) ⟨Nat.le_of_ble_eq_true rfl, Nat.le_of_ble_eq_true rfl⟩) (ci := 0) rfl 0 rfl rfl rfl (Nat.le_of_ble_eq_true rfl) dX0_load_2 ⟨Nat.le_of_ble_eq_true rfl, Nat.le_of_ble_eq_true rfl⟩ (Nat.le_of_ble_eq_true rfl) (Nat.le_of_ble_eq_true rfl) (fun E h9 => Or.inl ⟨h9.1, if_neg (mo_in_f h9.2)⟩) (fun u_2 hp_2 => ?_)
  have hb9 := hp_2
  obtain ⟨k, hk, rfl⟩ := vp_in_of hp_2 (by omega)
  have hk9 : (nI k).toNatClampNeg = k := nI_clamp (by omega)
  refine bh_aload_n C dX0_load_5 rfl 0 rfl ?_
  refine bh_iload_n C dX0_load_6 rfl 1 rfl ?_
  refine bh_bipush (v := 7) C dX0_load_7 (by decide) ?_
  refine bh_xcallv (As := [.int (nI k), .int 7]) C hQ hE hno (ct_X0_requirePlace l hl D cI cZ cL ad M k 7 (by omega)) (cwV 2 C.1.2.2.2.2 gX0_load_X0_requirePlace rfl rfl rfl (by decide +kernel) ⟨Nat.le_of_ble_eq_true rfl, Nat.le_of_ble_eq_true rfl⟩) (ci := 0) rfl 0 rfl rfl rfl (Nat.le_of_ble_eq_true rfl) dX0_load_9 ⟨Nat.le_of_ble_eq_true rfl, Nat.le_of_ble_eq_true rfl⟩ (Nat.le_of_ble_eq_true rfl) (Nat.le_of_ble_eq_true rfl) (fun E h9 => Or.inr ⟨h9.1, co_place2 hb9 (by rw [hk9]; exact h9.2)⟩) (fun u_9 hp_9 => ?_)
  refine bh_aload_n C dX0_load_12 rfl 0 rfl ?_
  refine bh_iload_n C dX0_load_13 rfl 1 rfl ?_
  refine bh_bipush (v := 8) C dX0_load_14 (by decide) ?_
  refine bh_callv_0 (As := [.int (nI k), .int 8]) C (ct_X0_bring l D cI cZ cL ad M k 8 (by omega) (vp_in_nI (n := 8) (by decide) (by decide)) (MI_pl hI _) (show mq_sc M < 2048 by omega)) (cwV 2 C.1.2.2.2.2 gX0_load_X0_bring rfl rfl rfl (by decide +kernel) ⟨Nat.le_of_ble_eq_true rfl, Nat.le_of_ble_eq_true rfl⟩) (ci := 0) rfl 0 rfl rfl rfl (Nat.le_of_ble_eq_true rfl) dX0_load_16 ⟨Nat.le_of_ble_eq_true rfl, Nat.le_of_ble_eq_true rfl⟩ (fun u_16 hp_16 => ?_)
  refine bh_aload_n C dX0_load_19 rfl 0 rfl ?_
  refine bh_aload_n C dX0_load_20 rfl 0 rfl ?_
  refine bh_get C ct_X0_load_in 0 rfl rfl 6 (by decide) (by decide +kernel) rfl (v := .ref (ad 6)) rfl dX0_load_21 ?_
  refine bh_iload_n C dX0_load_24 rfl 1 rfl ?_
  refine bh_iald C 4 0 (f := (mq_bf (mo_bring M k 8))) rfl rfl (i := (nI k)) (vp_in_nI (n := k) (by omega) (by decide)) (x := ((mq_bf (mo_bring M k 8)) k)) (congrArg (mq_bf (mo_bring M k 8)) (nI_clamp (n := k) (by omega))) dX0_load_25 ?_
  refine bh_calli_0 (As := [.int ((mq_bf (mo_bring M k 8)) k)]) C (ct_X0_loadedBags l D cI cZ cL ad (mo_bring M k 8) ((mq_bf (mo_bring M k 8)) k) (MI_bringC hI hk (vp_in_nI (n := 8) (by decide) (by decide)) hK4)) (cwV 1 C.1.2.2.2.2 gX0_load_X0_loadedBags rfl rfl rfl (by decide +kernel) ⟨Nat.le_of_ble_eq_true rfl, Nat.le_of_ble_eq_true rfl⟩) (ci := 0) rfl 0 rfl rfl rfl (Nat.le_of_ble_eq_true rfl) dX0_load_26 ⟨Nat.le_of_ble_eq_true rfl, Nat.le_of_ble_eq_true rfl⟩ (fun r_26 u_26 hp_26 => ?_)
  subst hp_26
  exact bh_xzret C hQ dX0_load_29 () (v := (nI (mo_ld (mo_bring M k 8) ((mq_bf (mo_bring M k 8)) k)))) (w := wh_hall cI cZ ad (mo_bring M k 8)) (by rw [hk9]) rfl (Nat.le_of_ble_eq_true rfl) (Nat.le_of_ble_eq_true rfl) ⟨co_place0 hb9 (by rw [hk9]; exact hp_9), by rw [hk9]; rfl⟩
theorem ct_X0_offload_in : ∀ w ∈ wsX00, w ∈ wsX0_offload := by decide +kernel
set_option maxRecDepth 100000 in
set_option maxHeartbeats 4000000 in
theorem ct_X0_offload (l : Launch) (hl : l.stackTraces = false) (D : va_G) (cI cZ cL : ClassId) (ad : Nat → Nat) {K T : Nat} (M : MT) (b : Int32) (hI : MI K T M) (hK4 : K + 4 ≤ 2048) : bh_Xi l D (wh_tys cI cZ cL) yX0_offload wsX0_offload ({ frames := 7, cells := 1, slots := 6, locals := 112 } : Room) [.ref (ad 0), .int b] (wh_hall cI cZ ad M) (fun r (_ : Unit) => co_place M b 8 = 0 ∧ r = nI (mo_ld (mo_bring M b.toNatClampNeg 10) (mq_bf M b.toNatClampNeg))) (fun _ => wh_hall cI cZ ad (mo_bring M b.toNatClampNeg 10)) (mo_px xe_I xe_S (co_place M b 8)) 1 6 := by
  refine bh_ofXi (cc := cX0_offload) (maxL := 2) (by decide +kernel) rfl (Nat.le_of_ble_eq_true rfl) ?_
  intro p e s m args below meth c A Q C hQ hE hno
  refine bh_eqlv (lv' := [(0, .ref (ad 0)), (1, .int b)]) rfl ?_
  have hfc := MI_fc hI; have hbc := MI_bc hI; have hsc := MI_sc hI; have hnow := MI_now2 hI
  have hsc9 := MI_phi0 hI
  refine bh_aload_n C dX0_offload_0 rfl 0 rfl ?_
  refine bh_iload_n C dX0_offload_1 rfl 1 rfl ?_
  refine bh_xcallv (As := [.int b]) C hQ hE hno (ct_X0_requireBag l hl D cI cZ cL ad M b hI) (cwV 1 C.1.2.2.2.2 gX0_offload_X0_requireBag rfl rfl rfl (by decide +kernel) ⟨Nat.le_of_ble_eq_true rfl, Nat.le_of_ble_eq_true rfl⟩) (ci := 0) rfl 0 rfl rfl rfl (Nat.le_of_ble_eq_true rfl) dX0_offload_2 ⟨Nat.le_of_ble_eq_true rfl, Nat.le_of_ble_eq_true rfl⟩ (Nat.le_of_ble_eq_true rfl) (Nat.le_of_ble_eq_true rfl) (fun E h9 => Or.inl ⟨h9.1, if_neg (mo_in_f h9.2)⟩) (fun u_2 hp_2 => ?_)
  have hb9 := hp_2
  obtain ⟨k, hk, rfl⟩ := vp_in_of hp_2 (by omega)
  have hk9 : (nI k).toNatClampNeg = k := nI_clamp (by omega)
  refine bh_aload_n C dX0_offload_5 rfl 0 rfl ?_
  refine bh_iload_n C dX0_offload_6 rfl 1 rfl ?_
  refine bh_bipush (v := 8) C dX0_offload_7 (by decide) ?_
  refine bh_xcallv (As := [.int (nI k), .int 8]) C hQ hE hno (ct_X0_requirePlace l hl D cI cZ cL ad M k 8 (by omega)) (cwV 2 C.1.2.2.2.2 gX0_offload_X0_requirePlace rfl rfl rfl (by decide +kernel) ⟨Nat.le_of_ble_eq_true rfl, Nat.le_of_ble_eq_true rfl⟩) (ci := 0) rfl 0 rfl rfl rfl (Nat.le_of_ble_eq_true rfl) dX0_offload_9 ⟨Nat.le_of_ble_eq_true rfl, Nat.le_of_ble_eq_true rfl⟩ (Nat.le_of_ble_eq_true rfl) (Nat.le_of_ble_eq_true rfl) (fun E h9 => Or.inr ⟨h9.1, co_place2 hb9 (by rw [hk9]; exact h9.2)⟩) (fun u_9 hp_9 => ?_)
  refine bh_aload_n C dX0_offload_12 rfl 0 rfl ?_
  refine bh_iload_n C dX0_offload_13 rfl 1 rfl ?_
  refine bh_bipush (v := 10) C dX0_offload_14 (by decide) ?_
  refine bh_callv_0 (As := [.int (nI k), .int 10]) C (ct_X0_bring l D cI cZ cL ad M k 10 (by omega) (vp_in_nI (n := 10) (by decide) (by decide)) (MI_pl hI _) (show mq_sc M < 2048 by omega)) (cwV 2 C.1.2.2.2.2 gX0_offload_X0_bring rfl rfl rfl (by decide +kernel) ⟨Nat.le_of_ble_eq_true rfl, Nat.le_of_ble_eq_true rfl⟩) (ci := 0) rfl 0 rfl rfl rfl (Nat.le_of_ble_eq_true rfl) dX0_offload_16 ⟨Nat.le_of_ble_eq_true rfl, Nat.le_of_ble_eq_true rfl⟩ (fun u_16 hp_16 => ?_)
  refine bh_aload_n C dX0_offload_19 rfl 0 rfl ?_
  refine bh_aload_n C dX0_offload_20 rfl 0 rfl ?_
  refine bh_get C ct_X0_offload_in 0 rfl rfl 6 (by decide) (by decide +kernel) rfl (v := .ref (ad 6)) rfl dX0_offload_21 ?_
  refine bh_iload_n C dX0_offload_24 rfl 1 rfl ?_
  refine bh_iald C 4 0 (f := (mq_bf (mo_bring M k 10))) rfl rfl (i := (nI k)) (vp_in_nI (n := k) (by omega) (by decide)) (x := ((mq_bf (mo_bring M k 10)) k)) (congrArg (mq_bf (mo_bring M k 10)) (nI_clamp (n := k) (by omega))) dX0_offload_25 ?_
  refine bh_calli_0 (As := [.int ((mq_bf (mo_bring M k 10)) k)]) C (ct_X0_loadedBags l D cI cZ cL ad (mo_bring M k 10) ((mq_bf (mo_bring M k 10)) k) (MI_bringC hI hk (vp_in_nI (n := 10) (by decide) (by decide)) hK4)) (cwV 1 C.1.2.2.2.2 gX0_offload_X0_loadedBags rfl rfl rfl (by decide +kernel) ⟨Nat.le_of_ble_eq_true rfl, Nat.le_of_ble_eq_true rfl⟩) (ci := 0) rfl 0 rfl rfl rfl (Nat.le_of_ble_eq_true rfl) dX0_offload_26 ⟨Nat.le_of_ble_eq_true rfl, Nat.le_of_ble_eq_true rfl⟩ (fun r_26 u_26 hp_26 => ?_)
  subst hp_26
  exact bh_xzret C hQ dX0_offload_29 () (v := (nI (mo_ld (mo_bring M k 10) ((mq_bf (mo_bring M k 10)) k)))) (w := wh_hall cI cZ ad (mo_bring M k 10)) (by rw [hk9]) rfl (Nat.le_of_ble_eq_true rfl) (Nat.le_of_ble_eq_true rfl) ⟨co_place0 hb9 (by rw [hk9]; exact hp_9), by rw [hk9]; rfl⟩
theorem ct_X0_sendOn_in : ∀ w ∈ wsX00, w ∈ wsX0_sendOn := by decide +kernel
theorem ct_X0_sendOn_at65 : ∀ z ∈ (vx_atS RX0 65 xe_S xe_ns).filter goodWord, z ∈ wsX0_sendOn := by decide +kernel
set_option maxRecDepth 100000 in
set_option maxHeartbeats 4000000 in
theorem ct_X0_sendOn (l : Launch) (hl : l.stackTraces = false) (D : va_G) (cI cZ cL : ClassId) (ad : Nat → Nat) {K T : Nat} (M : MT) (b x : Int32) (hI : MI K T M) (hK4 : K + 4 ≤ 2048) : bh_Xi l D (wh_tys cI cZ cL) yX0_sendOn wsX0_sendOn ({ frames := 7, cells := 1, slots := 6, locals := 111 } : Room) [.ref (ad 0), .int b, .int x] (wh_hall cI cZ ad M) (fun r (_ : Unit) => co_send M b x = 0 ∧ r = mq_pl (mo_route (mo_snd M b.toNatClampNeg x) b.toNatClampNeg) b.toNatClampNeg) (fun _ => wh_hall cI cZ ad (mo_route (mo_snd M b.toNatClampNeg x) b.toNatClampNeg)) (mo_px xe_I xe_S (co_send M b x)) 1 6 := by
  refine bh_ofXi (cc := cX0_sendOn) (maxL := 3) (by decide +kernel) rfl (Nat.le_of_ble_eq_true rfl) ?_
  intro p e s m args below meth c A Q C hQ hE hno
  refine bh_eqlv (lv' := [(0, .ref (ad 0)), (1, .int b), (2, .int x)]) rfl ?_
  have hfc := MI_fc hI; have hbc := MI_bc hI; have hsc := MI_sc hI; have hnow := MI_now2 hI
  have hsc9 := MI_phi0 hI
  refine bh_aload_n C dX0_sendOn_0 rfl 0 rfl ?_
  refine bh_iload_n C dX0_sendOn_1 rfl 1 rfl ?_
  refine bh_xcallv (As := [.int b]) C hQ hE hno (ct_X0_requireBag l hl D cI cZ cL ad M b hI) (cwV 1 C.1.2.2.2.2 gX0_sendOn_X0_requireBag rfl rfl rfl (by decide +kernel) ⟨Nat.le_of_ble_eq_true rfl, Nat.le_of_ble_eq_true rfl⟩) (ci := 0) rfl 0 rfl rfl rfl (Nat.le_of_ble_eq_true rfl) dX0_sendOn_2 ⟨Nat.le_of_ble_eq_true rfl, Nat.le_of_ble_eq_true rfl⟩ (Nat.le_of_ble_eq_true rfl) (Nat.le_of_ble_eq_true rfl) (fun E h9 => Or.inl ⟨h9.1, if_neg (fun z => h9.2 (mo_in_iff.mp z.1))⟩) (fun u_2 hp_2 => ?_)
  have hb9 := hp_2
  obtain ⟨k, hk, rfl⟩ := vp_in_of hp_2 (by omega)
  have hk9 : (nI k).toNatClampNeg = k := nI_clamp (by omega)
  refine bh_aload_n C dX0_sendOn_5 rfl 0 rfl ?_
  refine bh_iload_n C dX0_sendOn_6 rfl 2 rfl ?_
  refine bh_xcallv (As := [.int x]) C hQ hE hno (ct_X0_requireFlight l hl D cI cZ cL ad M x hI) (cwV 1 C.1.2.2.2.2 gX0_sendOn_X0_requireFlight rfl rfl rfl (by decide +kernel) ⟨Nat.le_of_ble_eq_true rfl, Nat.le_of_ble_eq_true rfl⟩) (ci := 0) rfl 0 rfl rfl rfl (Nat.le_of_ble_eq_true rfl) dX0_sendOn_7 ⟨Nat.le_of_ble_eq_true rfl, Nat.le_of_ble_eq_true rfl⟩ (Nat.le_of_ble_eq_true rfl) (Nat.le_of_ble_eq_true rfl) (fun E h9 => Or.inl ⟨h9.1, if_neg (fun z => h9.2 (mo_in_iff.mp z.2))⟩) (fun u_7 hp_7 => ?_)
  refine bh_aload_n C dX0_sendOn_10 rfl 0 rfl ?_
  refine bh_get C ct_X0_sendOn_in 0 rfl rfl 9 (by decide) (by decide +kernel) rfl (v := .ref (ad 9)) rfl dX0_sendOn_11 ?_
  refine bh_iload_n C dX0_sendOn_14 rfl 1 rfl ?_
  refine bh_iald C 7 0 (f := (mq_pl M)) rfl rfl (i := (nI k)) (vp_in_nI (n := k) (by omega) (by decide)) (x := ((mq_pl M) k)) (congrArg (mq_pl M) (nI_clamp (n := k) (by omega))) dX0_sendOn_15 ?_
  refine bh_bipush (v := 10) C dX0_sendOn_16 (by decide) ?_
  refine bh_icmp_eq (tgt := 42) C dX0_sendOn_18 (by decide) (fun c_18 => ?_) (fun c_18 => ?_)
  · skip
    refine bh_aload_n C dX0_sendOn_42 rfl 0 rfl ?_
    refine bh_iload_n C dX0_sendOn_43 rfl 2 rfl ?_
    refine bh_xcallv (As := [.int x]) C hQ hE hno (ct_X0_requireNotDeparted l hl D cI cZ cL ad M x (bh_inW hp_7 hfc)) (cwV 1 C.1.2.2.2.2 gX0_sendOn_X0_requireNotDeparted rfl rfl rfl (by decide +kernel) ⟨Nat.le_of_ble_eq_true rfl, Nat.le_of_ble_eq_true rfl⟩) (ci := 0) rfl 0 rfl rfl rfl (Nat.le_of_ble_eq_true rfl) dX0_sendOn_44 ⟨Nat.le_of_ble_eq_true rfl, Nat.le_of_ble_eq_true rfl⟩ (Nat.le_of_ble_eq_true rfl) (Nat.le_of_ble_eq_true rfl) (fun E h9 => Or.inr ⟨h9.1, co_send2 hb9 hp_7 (Or.inr (Int32.not_lt.mp h9.2))⟩) (fun u_44 hp_44 => ?_)
    refine bh_aload_n C dX0_sendOn_47 rfl 0 rfl ?_
    refine bh_get C ct_X0_sendOn_in 0 rfl rfl 6 (by decide) (by decide +kernel) rfl (v := .ref (ad 6)) rfl dX0_sendOn_48 ?_
    refine bh_iload_n C dX0_sendOn_51 rfl 1 rfl ?_
    refine bh_iload_n C dX0_sendOn_52 rfl 2 rfl ?_
    refine bh_eqw (w' := wh_hallX cI cZ ad (mq_now M) (mq_fc M) (mq_bc M) (mq_sc M) (mq_dep M) (mq_lat M) (mq_brd M) (mq_bf M) (mq_br M) (mq_pu M) (mq_pl M) (mq_ls M) (mq_ca M) (mq_at M) (mq_sb M) (mq_sp M) (mq_st M)) rfl ?_
    refine bh_iast (w' := wh_hallX cI cZ ad (mq_now M) (mq_fc M) (mq_bc M) (mq_sc M) (mq_dep M) (mq_lat M) (mq_brd M) (upd (mq_bf M) (k) x) (mq_br M) (mq_pu M) (mq_pl M) (mq_ls M) (mq_ca M) (mq_at M) (mq_sb M) (mq_sp M) (mq_st M)) C 4 0 rfl rfl (vp_in_nI (n := k) (by omega) (by decide)) dX0_sendOn_53 (by rw [nI_clamp (n := k) (by omega)]; rfl) ?_
    refine bh_aload_n C dX0_sendOn_54 rfl 0 rfl ?_
    refine bh_get C ct_X0_sendOn_in 0 rfl rfl 8 (by decide) (by decide +kernel) rfl (v := .ref (ad 8)) rfl dX0_sendOn_55 ?_
    refine bh_iload_n C dX0_sendOn_58 rfl 1 rfl ?_
    refine bh_iconst (v := 1) C dX0_sendOn_59 (by decide) ?_
    refine bh_zast (w' := wh_hallX cI cZ ad (mq_now M) (mq_fc M) (mq_bc M) (mq_sc M) (mq_dep M) (mq_lat M) (mq_brd M) (upd (mq_bf M) (k) x) (mq_br M) (upd (mq_pu M) (k) 1) (mq_pl M) (mq_ls M) (mq_ca M) (mq_at M) (mq_sb M) (mq_sp M) (mq_st M)) C 6 1 rfl rfl (vp_in_nI (n := k) (by omega) (by decide)) dX0_sendOn_60 (by rw [nI_clamp (n := k) (by omega), (by decide +kernel : vp_nar .boolean 1 = 1)]; rfl) ?_
    refine bh_aload_n C dX0_sendOn_61 rfl 0 rfl ?_
    refine bh_iload_n C dX0_sendOn_62 rfl 1 rfl ?_
    refine bh_eqw (w' := wh_hall cI cZ ad ((mq_now M), (mq_fc M), (mq_bc M), (mq_sc M), (mq_dep M), (mq_lat M), (mq_brd M), (upd (mq_bf M) (k) x), (mq_br M), (upd (mq_pu M) (k) 1), (mq_pl M), (mq_ls M), (mq_ca M), (mq_at M), (mq_sb M), (mq_sp M), (mq_st M))) rfl ?_
    refine bh_callv_0 (As := [.int (nI k)]) C (ct_X0_route l D cI cZ cL ad ((mq_now M), (mq_fc M), (mq_bc M), (mq_sc M), (mq_dep M), (mq_lat M), (mq_brd M), (upd (mq_bf M) (k) x), (mq_br M), (upd (mq_pu M) (k) 1), (mq_pl M), (mq_ls M), (mq_ca M), (mq_at M), (mq_sb M), (mq_sp M), (mq_st M)) k (MI_send hI hk (bh_inW hp_7 hfc)) (by omega) (show mq_sc M < 2048 by omega)) (cwV 1 C.1.2.2.2.2 gX0_sendOn_X0_route rfl rfl rfl (by decide +kernel) ⟨Nat.le_of_ble_eq_true rfl, Nat.le_of_ble_eq_true rfl⟩) (ci := 0) rfl 0 rfl rfl rfl (Nat.le_of_ble_eq_true rfl) dX0_sendOn_63 ⟨Nat.le_of_ble_eq_true rfl, Nat.le_of_ble_eq_true rfl⟩ (fun u_63 hp_63 => ?_)
    refine bh_aload_n C dX0_sendOn_66 rfl 0 rfl ?_
    refine bh_get C ct_X0_sendOn_in 0 rfl rfl 9 (by decide) (by decide +kernel) rfl (v := .ref (ad 9)) rfl dX0_sendOn_67 ?_
    refine bh_iload_n C dX0_sendOn_70 rfl 1 rfl ?_
    refine bh_iald C 7 0 (f := (mq_pl (mo_route ((mq_now M), (mq_fc M), (mq_bc M), (mq_sc M), (mq_dep M), (mq_lat M), (mq_brd M), (upd (mq_bf M) (k) x), (mq_br M), (upd (mq_pu M) (k) 1), (mq_pl M), (mq_ls M), (mq_ca M), (mq_at M), (mq_sb M), (mq_sp M), (mq_st M)) k))) rfl rfl (i := (nI k)) (vp_in_nI (n := k) (by omega) (by decide)) (x := ((mq_pl (mo_route ((mq_now M), (mq_fc M), (mq_bc M), (mq_sc M), (mq_dep M), (mq_lat M), (mq_brd M), (upd (mq_bf M) (k) x), (mq_br M), (upd (mq_pu M) (k) 1), (mq_pl M), (mq_ls M), (mq_ca M), (mq_at M), (mq_sb M), (mq_sp M), (mq_st M)) k)) k)) (congrArg (mq_pl (mo_route ((mq_now M), (mq_fc M), (mq_bc M), (mq_sc M), (mq_dep M), (mq_lat M), (mq_brd M), (upd (mq_bf M) (k) x), (mq_br M), (upd (mq_pu M) (k) 1), (mq_pl M), (mq_ls M), (mq_ca M), (mq_at M), (mq_sb M), (mq_sp M), (mq_st M)) k)) (nI_clamp (n := k) (by omega))) dX0_sendOn_71 ?_
    exact bh_xzret C hQ dX0_sendOn_72 () (v := ((mq_pl (mo_route ((mq_now M), (mq_fc M), (mq_bc M), (mq_sc M), (mq_dep M), (mq_lat M), (mq_brd M), (upd (mq_bf M) (k) x), (mq_br M), (upd (mq_pu M) (k) 1), (mq_pl M), (mq_ls M), (mq_ca M), (mq_at M), (mq_sb M), (mq_sp M), (mq_st M)) k)) k)) (w := wh_hall cI cZ ad (mo_route ((mq_now M), (mq_fc M), (mq_bc M), (mq_sc M), (mq_dep M), (mq_lat M), (mq_brd M), (upd (mq_bf M) (k) x), (mq_br M), (upd (mq_pu M) (k) 1), (mq_pl M), (mq_ls M), (mq_ca M), (mq_at M), (mq_sb M), (mq_sp M), (mq_st M)) k)) (by rw [hk9]; rfl) rfl (Nat.le_of_ble_eq_true rfl) (Nat.le_of_ble_eq_true rfl) ⟨co_send0 hb9 hp_7 (by rw [hk9]; first | exact Or.inl c_18 | exact Or.inr c_29) hp_44, by rw [hk9]; rfl⟩
  · skip
    refine bh_aload_n C dX0_sendOn_21 rfl 0 rfl ?_
    refine bh_get C ct_X0_sendOn_in 0 rfl rfl 9 (by decide) (by decide +kernel) rfl (v := .ref (ad 9)) rfl dX0_sendOn_22 ?_
    refine bh_iload_n C dX0_sendOn_25 rfl 1 rfl ?_
    refine bh_iald C 7 0 (f := (mq_pl M)) rfl rfl (i := (nI k)) (vp_in_nI (n := k) (by omega) (by decide)) (x := ((mq_pl M) k)) (congrArg (mq_pl M) (nI_clamp (n := k) (by omega))) dX0_sendOn_26 ?_
    refine bh_bipush (v := 11) C dX0_sendOn_27 (by decide) ?_
    refine bh_icmp_eq (tgt := 42) C dX0_sendOn_29 (by decide) (fun c_29 => ?_) (fun c_29 => ?_)
    · skip
      refine bh_aload_n C dX0_sendOn_42 rfl 0 rfl ?_
      refine bh_iload_n C dX0_sendOn_43 rfl 2 rfl ?_
      refine bh_xcallv (As := [.int x]) C hQ hE hno (ct_X0_requireNotDeparted l hl D cI cZ cL ad M x (bh_inW hp_7 hfc)) (cwV 1 C.1.2.2.2.2 gX0_sendOn_X0_requireNotDeparted rfl rfl rfl (by decide +kernel) ⟨Nat.le_of_ble_eq_true rfl, Nat.le_of_ble_eq_true rfl⟩) (ci := 0) rfl 0 rfl rfl rfl (Nat.le_of_ble_eq_true rfl) dX0_sendOn_44 ⟨Nat.le_of_ble_eq_true rfl, Nat.le_of_ble_eq_true rfl⟩ (Nat.le_of_ble_eq_true rfl) (Nat.le_of_ble_eq_true rfl) (fun E h9 => Or.inr ⟨h9.1, co_send2 hb9 hp_7 (Or.inr (Int32.not_lt.mp h9.2))⟩) (fun u_44 hp_44 => ?_)
      refine bh_aload_n C dX0_sendOn_47 rfl 0 rfl ?_
      refine bh_get C ct_X0_sendOn_in 0 rfl rfl 6 (by decide) (by decide +kernel) rfl (v := .ref (ad 6)) rfl dX0_sendOn_48 ?_
      refine bh_iload_n C dX0_sendOn_51 rfl 1 rfl ?_
      refine bh_iload_n C dX0_sendOn_52 rfl 2 rfl ?_
      refine bh_eqw (w' := wh_hallX cI cZ ad (mq_now M) (mq_fc M) (mq_bc M) (mq_sc M) (mq_dep M) (mq_lat M) (mq_brd M) (mq_bf M) (mq_br M) (mq_pu M) (mq_pl M) (mq_ls M) (mq_ca M) (mq_at M) (mq_sb M) (mq_sp M) (mq_st M)) rfl ?_
      refine bh_iast (w' := wh_hallX cI cZ ad (mq_now M) (mq_fc M) (mq_bc M) (mq_sc M) (mq_dep M) (mq_lat M) (mq_brd M) (upd (mq_bf M) (k) x) (mq_br M) (mq_pu M) (mq_pl M) (mq_ls M) (mq_ca M) (mq_at M) (mq_sb M) (mq_sp M) (mq_st M)) C 4 0 rfl rfl (vp_in_nI (n := k) (by omega) (by decide)) dX0_sendOn_53 (by rw [nI_clamp (n := k) (by omega)]; rfl) ?_
      refine bh_aload_n C dX0_sendOn_54 rfl 0 rfl ?_
      refine bh_get C ct_X0_sendOn_in 0 rfl rfl 8 (by decide) (by decide +kernel) rfl (v := .ref (ad 8)) rfl dX0_sendOn_55 ?_
      refine bh_iload_n C dX0_sendOn_58 rfl 1 rfl ?_
      refine bh_iconst (v := 1) C dX0_sendOn_59 (by decide) ?_
      refine bh_zast (w' := wh_hallX cI cZ ad (mq_now M) (mq_fc M) (mq_bc M) (mq_sc M) (mq_dep M) (mq_lat M) (mq_brd M) (upd (mq_bf M) (k) x) (mq_br M) (upd (mq_pu M) (k) 1) (mq_pl M) (mq_ls M) (mq_ca M) (mq_at M) (mq_sb M) (mq_sp M) (mq_st M)) C 6 1 rfl rfl (vp_in_nI (n := k) (by omega) (by decide)) dX0_sendOn_60 (by rw [nI_clamp (n := k) (by omega), (by decide +kernel : vp_nar .boolean 1 = 1)]; rfl) ?_
      refine bh_aload_n C dX0_sendOn_61 rfl 0 rfl ?_
      refine bh_iload_n C dX0_sendOn_62 rfl 1 rfl ?_
      refine bh_eqw (w' := wh_hall cI cZ ad ((mq_now M), (mq_fc M), (mq_bc M), (mq_sc M), (mq_dep M), (mq_lat M), (mq_brd M), (upd (mq_bf M) (k) x), (mq_br M), (upd (mq_pu M) (k) 1), (mq_pl M), (mq_ls M), (mq_ca M), (mq_at M), (mq_sb M), (mq_sp M), (mq_st M))) rfl ?_
      refine bh_callv_0 (As := [.int (nI k)]) C (ct_X0_route l D cI cZ cL ad ((mq_now M), (mq_fc M), (mq_bc M), (mq_sc M), (mq_dep M), (mq_lat M), (mq_brd M), (upd (mq_bf M) (k) x), (mq_br M), (upd (mq_pu M) (k) 1), (mq_pl M), (mq_ls M), (mq_ca M), (mq_at M), (mq_sb M), (mq_sp M), (mq_st M)) k (MI_send hI hk (bh_inW hp_7 hfc)) (by omega) (show mq_sc M < 2048 by omega)) (cwV 1 C.1.2.2.2.2 gX0_sendOn_X0_route rfl rfl rfl (by decide +kernel) ⟨Nat.le_of_ble_eq_true rfl, Nat.le_of_ble_eq_true rfl⟩) (ci := 0) rfl 0 rfl rfl rfl (Nat.le_of_ble_eq_true rfl) dX0_sendOn_63 ⟨Nat.le_of_ble_eq_true rfl, Nat.le_of_ble_eq_true rfl⟩ (fun u_63 hp_63 => ?_)
      refine bh_aload_n C dX0_sendOn_66 rfl 0 rfl ?_
      refine bh_get C ct_X0_sendOn_in 0 rfl rfl 9 (by decide) (by decide +kernel) rfl (v := .ref (ad 9)) rfl dX0_sendOn_67 ?_
      refine bh_iload_n C dX0_sendOn_70 rfl 1 rfl ?_
      refine bh_iald C 7 0 (f := (mq_pl (mo_route ((mq_now M), (mq_fc M), (mq_bc M), (mq_sc M), (mq_dep M), (mq_lat M), (mq_brd M), (upd (mq_bf M) (k) x), (mq_br M), (upd (mq_pu M) (k) 1), (mq_pl M), (mq_ls M), (mq_ca M), (mq_at M), (mq_sb M), (mq_sp M), (mq_st M)) k))) rfl rfl (i := (nI k)) (vp_in_nI (n := k) (by omega) (by decide)) (x := ((mq_pl (mo_route ((mq_now M), (mq_fc M), (mq_bc M), (mq_sc M), (mq_dep M), (mq_lat M), (mq_brd M), (upd (mq_bf M) (k) x), (mq_br M), (upd (mq_pu M) (k) 1), (mq_pl M), (mq_ls M), (mq_ca M), (mq_at M), (mq_sb M), (mq_sp M), (mq_st M)) k)) k)) (congrArg (mq_pl (mo_route ((mq_now M), (mq_fc M), (mq_bc M), (mq_sc M), (mq_dep M), (mq_lat M), (mq_brd M), (upd (mq_bf M) (k) x), (mq_br M), (upd (mq_pu M) (k) 1), (mq_pl M), (mq_ls M), (mq_ca M), (mq_at M), (mq_sb M), (mq_sp M), (mq_st M)) k)) (nI_clamp (n := k) (by omega))) dX0_sendOn_71 ?_
      exact bh_xzret C hQ dX0_sendOn_72 () (v := ((mq_pl (mo_route ((mq_now M), (mq_fc M), (mq_bc M), (mq_sc M), (mq_dep M), (mq_lat M), (mq_brd M), (upd (mq_bf M) (k) x), (mq_br M), (upd (mq_pu M) (k) 1), (mq_pl M), (mq_ls M), (mq_ca M), (mq_at M), (mq_sb M), (mq_sp M), (mq_st M)) k)) k)) (w := wh_hall cI cZ ad (mo_route ((mq_now M), (mq_fc M), (mq_bc M), (mq_sc M), (mq_dep M), (mq_lat M), (mq_brd M), (upd (mq_bf M) (k) x), (mq_br M), (upd (mq_pu M) (k) 1), (mq_pl M), (mq_ls M), (mq_ca M), (mq_at M), (mq_sb M), (mq_sp M), (mq_st M)) k)) (by rw [hk9]; rfl) rfl (Nat.le_of_ble_eq_true rfl) (Nat.le_of_ble_eq_true rfl) ⟨co_send0 hb9 hp_7 (by rw [hk9]; first | exact Or.inl c_18 | exact Or.inr c_29) hp_44, by rw [hk9]; rfl⟩
    · skip
      exact bh_throw C hE hno hl hQ (cls := xe_S) (text := "the bag is neither OFFLOADED nor LATE") (by decide +kernel) (by decide +kernel) (by decide +kernel) (by decide +kernel) ct_X0_sendOn_at65 xe_hb65 xe_hg65_61 dX0_sendOn_32 dX0_sendOn_35 dX0_sendOn_36 dX0_sendOn_38 dX0_sendOn_41 (Nat.le_of_ble_eq_true rfl) (Nat.le_of_ble_eq_true rfl) (Nat.le_of_ble_eq_true rfl) (Nat.le_of_ble_eq_true rfl) (Nat.le_of_ble_eq_true rfl) (Nat.le_of_ble_eq_true rfl) (Or.inr ⟨rfl, co_send2 hb9 hp_7 (Or.inl (by rw [hk9]; exact fun z => z.elim c_18 c_29))⟩)
theorem ct_X0_placeByScans_in : ∀ w ∈ wsX00, w ∈ wsX0_placeByScans := by decide +kernel
theorem ct_X0_placeByScans_at54 : ∀ z ∈ (vx_atS RX0 54 xe_A xe_ns).filter goodWord, z ∈ wsX0_placeByScans := by decide +kernel
set_option maxRecDepth 100000 in
set_option maxHeartbeats 4000000 in
theorem ct_X0_placeByScans (l : Launch) (hl : l.stackTraces = false) (D : va_G) (cI cZ cL : ClassId) (ad : Nat → Nat) {K T : Nat} (M : MT) (b t : Int32) (hI : MI K T M) : bh_Xi l D (wh_tys cI cZ cL) yX0_placeByScans wsX0_placeByScans ({ frames := 7, cells := 1, slots := 6, locals := 111 } : Room) [.ref (ad 0), .int b, .int t] (wh_hall cI cZ ad M) (fun r (_ : Unit) => co_pbs M b t = 0 ∧ r = mo_pbs M b t (mq_sc M)) (fun _ => wh_hall cI cZ ad M) (mo_px xe_I xe_A (co_pbs M b t)) 1 6 := by
  refine bh_ofXi (cc := cX0_placeByScans) (maxL := 4) (by decide +kernel) rfl (Nat.le_of_ble_eq_true rfl) ?_
  intro p e s m args below meth c A Q C hQ hE hno
  refine bh_eqlv (lv' := [(0, .ref (ad 0)), (1, .int b), (2, .int t)]) rfl ?_
  have hfc := MI_fc hI; have hbc := MI_bc hI; have hsc := MI_sc hI; have hnow := MI_now2 hI
  refine bh_aload_n C dX0_placeByScans_0 rfl 0 rfl ?_
  refine bh_iload_n C dX0_placeByScans_1 rfl 1 rfl ?_
  refine bh_xcallv (As := [.int b]) C hQ hE hno (ct_X0_requireBag l hl D cI cZ cL ad M b hI) (cwV 1 C.1.2.2.2.2 gX0_placeByScans_X0_requireBag rfl rfl rfl (by decide +kernel) ⟨Nat.le_of_ble_eq_true rfl, Nat.le_of_ble_eq_true rfl⟩) (ci := 0) rfl 0 rfl rfl rfl (Nat.le_of_ble_eq_true rfl) dX0_placeByScans_2 ⟨Nat.le_of_ble_eq_true rfl, Nat.le_of_ble_eq_true rfl⟩ (Nat.le_of_ble_eq_true rfl) (Nat.le_of_ble_eq_true rfl) (fun E h9 => Or.inl ⟨h9.1, if_neg (mo_in_f h9.2)⟩) (fun u_2 hp_2 => ?_)
  have hb9 := hp_2
  obtain ⟨k, hk, rfl⟩ := vp_in_of hp_2 (by omega)
  have hk9 : (nI k).toNatClampNeg = k := nI_clamp (by omega)
  refine bh_iload_n C dX0_placeByScans_5 rfl 2 rfl ?_
  refine bh_if_lt (tgt := 17) C dX0_placeByScans_6 (by decide) (fun c_6 => ?_) (fun c_6 => ?_)
  · skip
    exact bh_throw C hE hno hl hQ (cls := xe_A) (text := "time must be 0 to now") (by decide +kernel) (by decide +kernel) (by decide +kernel) (by decide +kernel) ct_X0_placeByScans_at54 xe_hb54 xe_hg54_50 dX0_placeByScans_17 dX0_placeByScans_20 dX0_placeByScans_21 dX0_placeByScans_23 dX0_placeByScans_26 (Nat.le_of_ble_eq_true rfl) (Nat.le_of_ble_eq_true rfl) (Nat.le_of_ble_eq_true rfl) (Nat.le_of_ble_eq_true rfl) (Nat.le_of_ble_eq_true rfl) (Nat.le_of_ble_eq_true rfl) (Or.inr ⟨rfl, co_pbs2 hb9 (by first | exact Or.inl c_6 | exact Or.inr (bh_nle3 c_14))⟩)
  · skip
    refine bh_iload_n C dX0_placeByScans_9 rfl 2 rfl ?_
    refine bh_aload_n C dX0_placeByScans_10 rfl 0 rfl ?_
    refine bh_get C ct_X0_placeByScans_in 0 rfl rfl 0 (by decide) (by decide +kernel) rfl (v := .int (nI (mq_now M))) rfl dX0_placeByScans_11 ?_
    refine bh_icmp_le (tgt := 27) C dX0_placeByScans_14 (by decide) (fun c_14 => ?_) (fun c_14 => ?_)
    · skip
      refine bh_aload_n C dX0_placeByScans_27 rfl 0 rfl ?_
      refine bh_get C ct_X0_placeByScans_in 0 rfl rfl 13 (by decide) (by decide +kernel) rfl (v := .int (nI (mq_sc M))) rfl dX0_placeByScans_28 ?_
      refine bh_iconst (v := 1) C dX0_placeByScans_31 (by decide) ?_
      refine bh_isub C dX0_placeByScans_32 ?_
      refine bh_istore_n (lv' := [(3, .int ((nI (mq_sc M)) - 1)), (0, .ref (ad 0)), (1, .int (nI k)), (2, .int t)]) C dX0_placeByScans_33 rfl (by decide) rfl ?_
      have loop : ∀ (j : Nat), j ≤ mq_sc M → mo_pbs M (nI k) t j = mo_pbs M (nI k) t (mq_sc M) → bh_W p l e ({ frames := 7, cells := 1, slots := 6, locals := 111 } : Room) s m args below meth c 4 D A 0 0 Q (wh_hall cI cZ ad M) ([(3, .int (nI j - 1)), (0, .ref (ad 0)), (1, .int (nI k)), (2, .int t)]) 34 [] := by
        intro j
        induction j with
        | zero =>
          intro h1 h2
          refine bh_iload_n C dX0_placeByScans_34 rfl 0 rfl ?_
          refine bh_if_lt (tgt := 71) C dX0_placeByScans_35 (by decide) (fun c_35 => ?_) (fun c_35 => absurd (show nI 0 - 1 < 0 by decide +kernel) c_35)
          refine bh_iconst (v := (-1)) C dX0_placeByScans_71 (by decide) ?_
          exact bh_xzret C hQ dX0_placeByScans_72 () (v := (-1)) (w := wh_hall cI cZ ad M) rfl rfl (Nat.le_of_ble_eq_true rfl) (Nat.le_of_ble_eq_true rfl) ⟨co_pbs0 hb9 c_6 c_14, by rw [← h2]; rfl⟩
        | succ j ih =>
          intro h1 h2
          refine bh_eqlv (lv' := [(3, .int (nI j)), (0, .ref (ad 0)), (1, .int (nI k)), (2, .int t)]) (by rw [nI_pred]) ?_
          refine bh_iload_n C dX0_placeByScans_34 rfl 0 rfl ?_
          refine bh_if_lt (tgt := 71) C dX0_placeByScans_35 (by decide) (fun c_35 => absurd c_35 (nI_pos (by omega))) (fun c_35 => ?_)
          refine bh_aload_n C dX0_placeByScans_38 rfl 1 rfl ?_
          refine bh_get C ct_X0_placeByScans_in 0 rfl rfl 14 (by decide) (by decide +kernel) rfl (v := .ref (ad 14)) rfl dX0_placeByScans_39 ?_
          refine bh_iload_n C dX0_placeByScans_42 rfl 0 rfl ?_
          refine bh_iald C 11 0 (f := (mq_sb M)) rfl rfl (i := (nI j)) (vp_in_nI (n := j) (by omega) (by decide)) (x := ((mq_sb M) j)) (congrArg (mq_sb M) (nI_clamp (n := j) (by omega))) dX0_placeByScans_43 ?_
          refine bh_iload_n C dX0_placeByScans_44 rfl 2 rfl ?_
          refine bh_icmp_ne (tgt := 65) C dX0_placeByScans_45 (by decide) (fun c_45 => ?_) (fun c_45 => ?_)
          · skip
            refine bh_iinc (v := ((nI j) - 1)) (lv' := [(3, .int ((nI j) - 1)), (0, .ref (ad 0)), (1, .int (nI k)), (2, .int t)]) C dX0_placeByScans_65 (k := 0) rfl (bh_dec _) (by decide) rfl ?_
            refine bh_goto (tgt := 34) C dX0_placeByScans_68 (by decide) ?_
            exact bh_lv [0, 1, 2, 3] rfl (ih (by omega) ((mo_pbs_0 (M := M) (k := j) (by first | exact fun z => c_45 z.1 | exact fun z => absurd z.2 (Int32.not_le.mpr c_55))).symm.trans h2))
          · skip
            refine bh_aload_n C dX0_placeByScans_48 rfl 1 rfl ?_
            refine bh_get C ct_X0_placeByScans_in 0 rfl rfl 16 (by decide) (by decide +kernel) rfl (v := .ref (ad 16)) rfl dX0_placeByScans_49 ?_
            refine bh_iload_n C dX0_placeByScans_52 rfl 0 rfl ?_
            refine bh_iald C 13 0 (f := (mq_st M)) rfl rfl (i := (nI j)) (vp_in_nI (n := j) (by omega) (by decide)) (x := ((mq_st M) j)) (congrArg (mq_st M) (nI_clamp (n := j) (by omega))) dX0_placeByScans_53 ?_
            refine bh_iload_n C dX0_placeByScans_54 rfl 3 rfl ?_
            refine bh_icmp_gt (tgt := 65) C dX0_placeByScans_55 (by decide) (fun c_55 => ?_) (fun c_55 => ?_)
            · skip
              refine bh_iinc (v := ((nI j) - 1)) (lv' := [(3, .int ((nI j) - 1)), (0, .ref (ad 0)), (1, .int (nI k)), (2, .int t)]) C dX0_placeByScans_65 (k := 0) rfl (bh_dec _) (by decide) rfl ?_
              refine bh_goto (tgt := 34) C dX0_placeByScans_68 (by decide) ?_
              exact bh_lv [0, 1, 2, 3] rfl (ih (by omega) ((mo_pbs_0 (M := M) (k := j) (by first | exact fun z => c_45 z.1 | exact fun z => absurd z.2 (Int32.not_le.mpr c_55))).symm.trans h2))
            · skip
              refine bh_aload_n C dX0_placeByScans_58 rfl 1 rfl ?_
              refine bh_get C ct_X0_placeByScans_in 0 rfl rfl 15 (by decide) (by decide +kernel) rfl (v := .ref (ad 15)) rfl dX0_placeByScans_59 ?_
              refine bh_iload_n C dX0_placeByScans_62 rfl 0 rfl ?_
              refine bh_iald C 12 0 (f := (mq_sp M)) rfl rfl (i := (nI j)) (vp_in_nI (n := j) (by omega) (by decide)) (x := ((mq_sp M) j)) (congrArg (mq_sp M) (nI_clamp (n := j) (by omega))) dX0_placeByScans_63 ?_
              exact bh_xzret C hQ dX0_placeByScans_64 () (v := ((mq_sp M) j)) (w := wh_hall cI cZ ad M) rfl rfl (Nat.le_of_ble_eq_true rfl) (Nat.le_of_ble_eq_true rfl) ⟨co_pbs0 hb9 c_6 c_14, by rw [← h2, mo_pbs_1 c_45 (Int32.not_lt.mp c_55)]⟩
      exact bh_lv [0, 1, 2, 3] rfl (loop (mq_sc M) (Nat.le_refl _) rfl)
    · skip
      exact bh_throw C hE hno hl hQ (cls := xe_A) (text := "time must be 0 to now") (by decide +kernel) (by decide +kernel) (by decide +kernel) (by decide +kernel) ct_X0_placeByScans_at54 xe_hb54 xe_hg54_50 dX0_placeByScans_17 dX0_placeByScans_20 dX0_placeByScans_21 dX0_placeByScans_23 dX0_placeByScans_26 (Nat.le_of_ble_eq_true rfl) (Nat.le_of_ble_eq_true rfl) (Nat.le_of_ble_eq_true rfl) (Nat.le_of_ble_eq_true rfl) (Nat.le_of_ble_eq_true rfl) (Nat.le_of_ble_eq_true rfl) (Or.inr ⟨rfl, co_pbs2 hb9 (by first | exact Or.inl c_6 | exact Or.inr (bh_nle3 c_14))⟩)
theorem ct_X0_addFlight_in : ∀ w ∈ wsX00, w ∈ wsX0_addFlight := by decide +kernel
theorem ct_X0_addFlight_at54 : ∀ z ∈ (vx_atS RX0 54 xe_A xe_ns).filter goodWord, z ∈ wsX0_addFlight := by decide +kernel
theorem ct_X0_addFlight_at65 : ∀ z ∈ (vx_atS RX0 65 xe_S xe_ns).filter goodWord, z ∈ wsX0_addFlight := by decide +kernel
set_option maxRecDepth 100000 in
set_option maxHeartbeats 4000000 in
theorem ct_X0_addFlight (l : Launch) (hl : l.stackTraces = false) (D : va_G) (cI cZ cL : ClassId) (ad : Nat → Nat) {K T : Nat} (M : MT) (x : Int32) (hI : MI K T M) : bh_Xi l D (wh_tys cI cZ cL) yX0_addFlight wsX0_addFlight ({ frames := 6, cells := 1, slots := 6, locals := 90 } : Room) [.ref (ad 0), .int x] (wh_hall cI cZ ad M) (fun r (_ : Unit) => co_add M x = 0 ∧ r = nI (mq_fc M)) (fun _ => wh_hall cI cZ ad (mo_add M x)) (mo_px xe_A xe_S (co_add M x)) 1 6 := by
  refine bh_ofXi (cc := cX0_addFlight) (maxL := 4) (by decide +kernel) rfl (Nat.le_of_ble_eq_true rfl) ?_
  intro p e s m args below meth c A Q C hQ hE hno
  refine bh_eqlv (lv' := [(0, .ref (ad 0)), (1, .int x)]) rfl ?_
  have hfc := MI_fc hI; have hbc := MI_bc hI; have hsc := MI_sc hI; have hnow := MI_now2 hI
  refine bh_iload_n C dX0_addFlight_0 rfl 1 rfl ?_
  refine bh_iconst (v := 1) C dX0_addFlight_1 (by decide) ?_
  refine bh_icmp_lt (tgt := 12) C dX0_addFlight_2 (by decide) (fun c_2 => ?_) (fun c_2 => ?_)
  · skip
    exact bh_throw C hE hno hl hQ (cls := xe_A) (text := "minutes must be 1 to 1000") (by decide +kernel) (by decide +kernel) (by decide +kernel) (by decide +kernel) ct_X0_addFlight_at54 xe_hb54 xe_hg54_50 dX0_addFlight_12 dX0_addFlight_15 dX0_addFlight_16 dX0_addFlight_18 dX0_addFlight_21 (Nat.le_of_ble_eq_true rfl) (Nat.le_of_ble_eq_true rfl) (Nat.le_of_ble_eq_true rfl) (Nat.le_of_ble_eq_true rfl) (Nat.le_of_ble_eq_true rfl) (Nat.le_of_ble_eq_true rfl) (Or.inl ⟨rfl, by first | exact if_pos (Or.inl c_2) | exact if_pos (Or.inr (bh_nle3 c_9))⟩)
  · skip
    refine bh_iload_n C dX0_addFlight_5 rfl 1 rfl ?_
    refine bh_sipush (v := 1000) C dX0_addFlight_6 (by decide) ?_
    refine bh_icmp_le (tgt := 22) C dX0_addFlight_9 (by decide) (fun c_9 => ?_) (fun c_9 => ?_)
    · skip
      refine bh_aload_n C dX0_addFlight_22 rfl 0 rfl ?_
      refine bh_get C ct_X0_addFlight_in 0 rfl rfl 1 (by decide) (by decide +kernel) rfl (v := .int (nI (mq_fc M))) rfl dX0_addFlight_23 ?_
      refine bh_bipush (v := 10) C dX0_addFlight_26 (by decide) ?_
      refine bh_icmp_lt (tgt := 41) C dX0_addFlight_28 (by decide) (fun c_28 => ?_) (fun c_28 => ?_)
      · skip
        have c_28 := (nI_ltI (b := 10) (by omega) (by decide)).mp c_28
        refine bh_aload_n C dX0_addFlight_41 rfl 0 rfl ?_
        refine bh_get C ct_X0_addFlight_in 0 rfl rfl 1 (by decide) (by decide +kernel) rfl (v := .int (nI (mq_fc M))) rfl dX0_addFlight_42 ?_
        refine bh_istore_n (lv' := [(2, .int (nI (mq_fc M))), (0, .ref (ad 0)), (1, .int x)]) C dX0_addFlight_45 rfl (by decide) rfl ?_
        refine bh_aload_n C dX0_addFlight_46 rfl 1 rfl ?_
        refine bh_get C ct_X0_addFlight_in 0 rfl rfl 0 (by decide) (by decide +kernel) rfl (v := .int (nI (mq_now M))) rfl dX0_addFlight_47 ?_
        refine bh_iload_n C dX0_addFlight_50 rfl 2 rfl ?_
        refine bh_iadd C dX0_addFlight_51 ?_
        refine bh_istore_n (lv' := [(3, .int ((nI (mq_now M)) + x)), (2, .int (nI (mq_fc M))), (0, .ref (ad 0)), (1, .int x)]) C dX0_addFlight_52 rfl (by decide) rfl ?_
        refine bh_aload_n C dX0_addFlight_53 rfl 2 rfl ?_
        refine bh_get C ct_X0_addFlight_in 0 rfl rfl 3 (by decide) (by decide +kernel) rfl (v := .ref (ad 3)) rfl dX0_addFlight_54 ?_
        refine bh_iload_n C dX0_addFlight_57 rfl 1 rfl ?_
        refine bh_aload_n C dX0_addFlight_58 rfl 2 rfl ?_
        refine bh_iload_n C dX0_addFlight_59 rfl 0 rfl ?_
        refine bh_calli_0 (As := [.int ((nI (mq_now M)) + x)]) C (ct_X0_lowestFreeLateral l D cI cZ cL ad M ((nI (mq_now M)) + x) hI (bh_dIn hnow c_2 c_9)) (cwV 1 C.1.2.2.2.2 gX0_addFlight_X0_lowestFreeLateral rfl rfl rfl (by decide +kernel) ⟨Nat.le_of_ble_eq_true rfl, Nat.le_of_ble_eq_true rfl⟩) (ci := 0) rfl 0 rfl rfl rfl (Nat.le_of_ble_eq_true rfl) dX0_addFlight_60 ⟨Nat.le_of_ble_eq_true rfl, Nat.le_of_ble_eq_true rfl⟩ (fun r_60 u_60 hp_60 => ?_)
        subst hp_60
        refine bh_eqw (w' := wh_hallX cI cZ ad (mq_now M) (mq_fc M) (mq_bc M) (mq_sc M) (mq_dep M) (mq_lat M) (mq_brd M) (mq_bf M) (mq_br M) (mq_pu M) (mq_pl M) (mq_ls M) (mq_ca M) (mq_at M) (mq_sb M) (mq_sp M) (mq_st M)) rfl ?_
        refine bh_iast (w' := wh_hallX cI cZ ad (mq_now M) (mq_fc M) (mq_bc M) (mq_sc M) (mq_dep M) (upd (mq_lat M) ((mq_fc M)) (mo_low M ((nI (mq_now M)) + x))) (mq_brd M) (mq_bf M) (mq_br M) (mq_pu M) (mq_pl M) (mq_ls M) (mq_ca M) (mq_at M) (mq_sb M) (mq_sp M) (mq_st M)) C 2 0 rfl rfl (vp_in_nI (n := (mq_fc M)) (by omega) (by decide)) dX0_addFlight_63 (by rw [nI_clamp (n := (mq_fc M)) (by omega)]; rfl) ?_
        refine bh_aload_n C dX0_addFlight_64 rfl 2 rfl ?_
        refine bh_get C ct_X0_addFlight_in 0 rfl rfl 2 (by decide) (by decide +kernel) rfl (v := .ref (ad 2)) rfl dX0_addFlight_65 ?_
        refine bh_iload_n C dX0_addFlight_68 rfl 1 rfl ?_
        refine bh_iload_n C dX0_addFlight_69 rfl 0 rfl ?_
        refine bh_iast (w' := wh_hallX cI cZ ad (mq_now M) (mq_fc M) (mq_bc M) (mq_sc M) (upd (mq_dep M) ((mq_fc M)) ((nI (mq_now M)) + x)) (upd (mq_lat M) ((mq_fc M)) (mo_low M ((nI (mq_now M)) + x))) (mq_brd M) (mq_bf M) (mq_br M) (mq_pu M) (mq_pl M) (mq_ls M) (mq_ca M) (mq_at M) (mq_sb M) (mq_sp M) (mq_st M)) C 1 0 rfl rfl (vp_in_nI (n := (mq_fc M)) (by omega) (by decide)) dX0_addFlight_70 (by rw [nI_clamp (n := (mq_fc M)) (by omega)]; rfl) ?_
        refine bh_aload_n C dX0_addFlight_71 rfl 2 rfl ?_
        refine bh_dup C dX0_addFlight_72 rfl ?_
        refine bh_get C ct_X0_addFlight_in 0 rfl rfl 1 (by decide) (by decide +kernel) rfl (v := .int (nI (mq_fc M))) rfl dX0_addFlight_73 ?_
        refine bh_iconst (v := 1) C dX0_addFlight_76 (by decide) ?_
        refine bh_iadd C dX0_addFlight_77 ?_
        refine bh_topi (nI_1 _) ?_
        refine bh_put (ty := .int) (v := .int (nI ((mq_fc M) + 1))) (w' := wh_hallX cI cZ ad (mq_now M) (((mq_fc M) + 1)) (mq_bc M) (mq_sc M) (upd (mq_dep M) ((mq_fc M)) ((nI (mq_now M)) + x)) (upd (mq_lat M) ((mq_fc M)) (mo_low M ((nI (mq_now M)) + x))) (mq_brd M) (mq_bf M) (mq_br M) (mq_pu M) (mq_pl M) (mq_ls M) (mq_ca M) (mq_at M) (mq_sb M) (mq_sp M) (mq_st M)) C ct_X0_addFlight_in tyX0 tyX0_ok nmX0 0 rfl rfl 1 (by decide) (by decide +kernel) rfl rfl (by decide +kernel) rfl rfl (Nat.le_of_ble_eq_true rfl) dX0_addFlight_78 rfl ?_
        refine bh_iload_n C dX0_addFlight_81 rfl 1 rfl ?_
        exact bh_xzret C hQ dX0_addFlight_82 () (v := (nI (mq_fc M))) (w := wh_hallX cI cZ ad (mq_now M) (((mq_fc M) + 1)) (mq_bc M) (mq_sc M) (upd (mq_dep M) ((mq_fc M)) ((nI (mq_now M)) + x)) (upd (mq_lat M) ((mq_fc M)) (mo_low M ((nI (mq_now M)) + x))) (mq_brd M) (mq_bf M) (mq_br M) (mq_pu M) (mq_pl M) (mq_ls M) (mq_ca M) (mq_at M) (mq_sb M) (mq_sp M) (mq_st M)) rfl rfl (Nat.le_of_ble_eq_true rfl) (Nat.le_of_ble_eq_true rfl) ⟨(if_neg (fun z => z.elim c_2 (fun q => absurd c_9 (Int32.not_le.mpr q)))).trans (if_neg (by omega)), rfl⟩
      · skip
        exact bh_throw C hE hno hl hQ (cls := xe_S) (text := "there are 10 flights") (by decide +kernel) (by decide +kernel) (by decide +kernel) (by decide +kernel) ct_X0_addFlight_at65 xe_hb65 xe_hg65_61 dX0_addFlight_31 dX0_addFlight_34 dX0_addFlight_35 dX0_addFlight_37 dX0_addFlight_40 (Nat.le_of_ble_eq_true rfl) (Nat.le_of_ble_eq_true rfl) (Nat.le_of_ble_eq_true rfl) (Nat.le_of_ble_eq_true rfl) (Nat.le_of_ble_eq_true rfl) (Nat.le_of_ble_eq_true rfl) (Or.inr ⟨rfl, (if_neg (fun z => z.elim c_2 (fun q => absurd c_9 (Int32.not_le.mpr q)))).trans (if_pos (bh_le (a := 10) (by decide) (by omega) (Int32.not_lt.mp c_28)))⟩)
    · skip
      exact bh_throw C hE hno hl hQ (cls := xe_A) (text := "minutes must be 1 to 1000") (by decide +kernel) (by decide +kernel) (by decide +kernel) (by decide +kernel) ct_X0_addFlight_at54 xe_hb54 xe_hg54_50 dX0_addFlight_12 dX0_addFlight_15 dX0_addFlight_16 dX0_addFlight_18 dX0_addFlight_21 (Nat.le_of_ble_eq_true rfl) (Nat.le_of_ble_eq_true rfl) (Nat.le_of_ble_eq_true rfl) (Nat.le_of_ble_eq_true rfl) (Nat.le_of_ble_eq_true rfl) (Nat.le_of_ble_eq_true rfl) (Or.inl ⟨rfl, by first | exact if_pos (Or.inl c_2) | exact if_pos (Or.inr (bh_nle3 c_9))⟩)
theorem ct_X0_pass_in : ∀ w ∈ wsX00, w ∈ wsX0_pass := by decide +kernel
theorem ct_X0_pass_at54 : ∀ z ∈ (vx_atS RX0 54 xe_A xe_ns).filter goodWord, z ∈ wsX0_pass := by decide +kernel
set_option maxRecDepth 100000 in
set_option maxHeartbeats 4000000 in
theorem ct_X0_pass (l : Launch) (hl : l.stackTraces = false) (D : va_G) (cI cZ cL : ClassId) (ad : Nat → Nat) {K T : Nat} (M : MT) (x : Int32) (hI : MI K T M) (hT : T + 200 ≤ 102400) : bh_Xi l D (wh_tys cI cZ cL) yX0_pass wsX0_pass ({ frames := 6, cells := 1, slots := 6, locals := 129 } : Room) [.ref (ad 0), .int x] (wh_hall cI cZ ad M) (fun r (_ : Unit) => co_pass x = 0 ∧ r = nI (mq_sc (mo_pass M x.toNatClampNeg)) - nI (mq_sc M)) (fun _ => wh_hall cI cZ ad (mo_pass M x.toNatClampNeg)) (mo_px xe_A xe_S (co_pass x)) 1 6 := by
  refine bh_ofXi (cc := cX0_pass) (maxL := 4) (by decide +kernel) rfl (Nat.le_of_ble_eq_true rfl) ?_
  intro p e s m args below meth c A Q C hQ hE hno
  refine bh_eqlv (lv' := [(0, .ref (ad 0)), (1, .int x)]) rfl ?_
  have hfc := MI_fc hI; have hbc := MI_bc hI; have hsc := MI_sc hI; have hnow := MI_now2 hI
  refine bh_iload_n C dX0_pass_0 rfl 1 rfl ?_
  refine bh_iconst (v := 1) C dX0_pass_1 (by decide) ?_
  refine bh_icmp_lt (tgt := 12) C dX0_pass_2 (by decide) (fun c_2 => ?_) (fun c_2 => ?_)
  · skip
    exact bh_throw C hE hno hl hQ (cls := xe_A) (text := "minutes must be 1 to 200") (by decide +kernel) (by decide +kernel) (by decide +kernel) (by decide +kernel) ct_X0_pass_at54 xe_hb54 xe_hg54_50 dX0_pass_12 dX0_pass_15 dX0_pass_16 dX0_pass_18 dX0_pass_21 (Nat.le_of_ble_eq_true rfl) (Nat.le_of_ble_eq_true rfl) (Nat.le_of_ble_eq_true rfl) (Nat.le_of_ble_eq_true rfl) (Nat.le_of_ble_eq_true rfl) (Nat.le_of_ble_eq_true rfl) (Or.inl ⟨rfl, by first | exact if_pos (Or.inl c_2) | exact if_pos (Or.inr (bh_nle3 c_9))⟩)
  · skip
    refine bh_iload_n C dX0_pass_5 rfl 1 rfl ?_
    refine bh_sipush (v := 200) C dX0_pass_6 (by decide) ?_
    refine bh_icmp_le (tgt := 22) C dX0_pass_9 (by decide) (fun c_9 => ?_) (fun c_9 => ?_)
    · skip
      refine bh_aload_n C dX0_pass_22 rfl 0 rfl ?_
      refine bh_get C ct_X0_pass_in 0 rfl rfl 13 (by decide) (by decide +kernel) rfl (v := .int (nI (mq_sc M))) rfl dX0_pass_23 ?_
      refine bh_istore_n (lv' := [(2, .int (nI (mq_sc M))), (0, .ref (ad 0)), (1, .int x)]) C dX0_pass_26 rfl (by decide) rfl ?_
      refine bh_iconst (v := 0) C dX0_pass_27 (by decide) ?_
      refine bh_istore_n (lv' := [(3, .int 0), (2, .int (nI (mq_sc M))), (0, .ref (ad 0)), (1, .int x)]) C dX0_pass_28 rfl (by decide) rfl ?_
      obtain ⟨m9, hm1, hm2, rfl⟩ := bh_rng (n := 200) (by decide) c_2 c_9
      have hm9 : (nI m9).toNatClampNeg = m9 := nI_clamp (by omega)
      have loop : ∀ (n : Nat) (k : Nat), m9 + 1 ≤ k + n → k ≤ m9 → bh_W p l e ({ frames := 6, cells := 1, slots := 6, locals := 129 } : Room) s m args below meth c 4 D A 0 0 Q (wh_hall cI cZ ad (mo_pass M k)) ([(3, .int (nI k)), (2, .int (nI (mq_sc M))), (0, .ref (ad 0)), (1, .int (nI m9))]) 29 [] := by
        intro n
        induction n with
        | zero => intro k h1 h2; exact absurd h1 (by omega)
        | succ n ih =>
          intro k h1 h2
          have hI9 := MI_pass hI hT (k := k) (by omega)
          refine bh_iload_n C dX0_pass_29 rfl 0 rfl ?_
          refine bh_iload_n C dX0_pass_30 rfl 3 rfl ?_
          refine bh_icmp_ge (tgt := 44) C dX0_pass_31 (by decide) (fun c_31 => ?_) (fun c_31 => ?_)
          · skip
            have c_31 := bh_le (by omega) (by omega) c_31
            have hkb : k = m9 := by omega
            refine bh_aload_n C dX0_pass_44 rfl 2 rfl ?_
            refine bh_get C ct_X0_pass_in 0 rfl rfl 13 (by decide) (by decide +kernel) rfl (v := .int (nI (mq_sc (mo_pass M k)))) rfl dX0_pass_45 ?_
            refine bh_iload_n C dX0_pass_48 rfl 1 rfl ?_
            refine bh_isub C dX0_pass_49 ?_
            exact bh_xzret C hQ dX0_pass_50 () (v := ((nI (mq_sc (mo_pass M k))) - (nI (mq_sc M)))) (w := wh_hall cI cZ ad (mo_pass M k)) (by rw [hm9, hkb]) rfl (Nat.le_of_ble_eq_true rfl) (Nat.le_of_ble_eq_true rfl) ⟨if_neg (fun z => z.elim c_2 (fun q => absurd c_9 (Int32.not_le.mpr q))), by rw [hm9, hkb]⟩
          · skip
            have c_31 := bh_nle2 (by omega) (by omega) c_31
            refine bh_aload_n C dX0_pass_34 rfl 2 rfl ?_
            refine bh_callv_0 (As := []) C (ct_X0_passOneMinute l D cI cZ cL ad (mo_pass M k) hI9 (by omega)) (cwV 0 C.1.2.2.2.2 gX0_pass_X0_passOneMinute rfl rfl rfl (by decide +kernel) ⟨Nat.le_of_ble_eq_true rfl, Nat.le_of_ble_eq_true rfl⟩) (ci := 0) rfl 0 rfl rfl rfl (Nat.le_of_ble_eq_true rfl) dX0_pass_35 ⟨Nat.le_of_ble_eq_true rfl, Nat.le_of_ble_eq_true rfl⟩ (fun u_35 hp_35 => ?_)
            refine bh_eqw (w' := wh_hall cI cZ ad (mo_pass M (k + 1))) (by rw [mo_pass_s]) ?_
            refine bh_iinc (v := (nI (k + 1))) (lv' := [(3, .int (nI (k + 1))), (2, .int (nI (mq_sc M))), (0, .ref (ad 0)), (1, .int (nI m9))]) C dX0_pass_38 (k := 0) rfl (nI_1 _) (by decide) rfl ?_
            refine bh_goto (tgt := 29) C dX0_pass_41 (by decide) ?_
            exact bh_lv [0, 1, 2, 3] rfl (ih (k + 1) (by omega) (by omega))
      exact bh_lv [0, 1, 2, 3] rfl (loop (m9 + 1) 0 (by omega) (by omega))
    · skip
      exact bh_throw C hE hno hl hQ (cls := xe_A) (text := "minutes must be 1 to 200") (by decide +kernel) (by decide +kernel) (by decide +kernel) (by decide +kernel) ct_X0_pass_at54 xe_hb54 xe_hg54_50 dX0_pass_12 dX0_pass_15 dX0_pass_16 dX0_pass_18 dX0_pass_21 (Nat.le_of_ble_eq_true rfl) (Nat.le_of_ble_eq_true rfl) (Nat.le_of_ble_eq_true rfl) (Nat.le_of_ble_eq_true rfl) (Nat.le_of_ble_eq_true rfl) (Nat.le_of_ble_eq_true rfl) (Or.inl ⟨rfl, by first | exact if_pos (Or.inl c_2) | exact if_pos (Or.inr (bh_nle3 c_9))⟩)
