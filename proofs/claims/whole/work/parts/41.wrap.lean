set_option maxRecDepth 100000 in
set_option maxHeartbeats 4000000 in
theorem ct_L_addFlight (l : Launch) (hl : l.stackTraces = false) (D : va_G) (cI cZ cL : ClassId) (ad : Nat → Nat) (o : Nat) {K T : Nat} (M : MT) (x : Int32) (g : Nat → Int64) (hI : MI K T M) : bh_Wi l D (wh_tys cI cZ cL) yL_addFlight wsL_addFlight ({ frames := 7, cells := 1, slots := 6, locals := 113 } : Room) [.ref (ad 0), .int x, .ref o] (wh_hall cI cZ ad M ++ [wh_out cL o g]) (fun (r : Int32) (g9 : Nat → Int64) => r = co_add M x ∧ (co_add M x = 0 → g9 0 = (nI (mq_fc M)).toInt64)) (fun g9 => (wh_hall cI cZ ad (mo_sel (co_add M x) (mo_add M x) M) ++ [wh_out cL o g9])) 1 6 := by
  refine bh_ofWi (cc := cL_addFlight) (maxL := 4) (by decide +kernel) rfl (Nat.le_of_ble_eq_true rfl) ?_
  intro p e s m args below meth c A Q C hQ hE htab
  refine bh_eqlv (lv' := [(0, .ref (ad 0)), (1, .int x), (2, .ref o)]) rfl ?_
  refine bh_aload_n C dL_addFlight_0 rfl 2 rfl ?_
  refine bh_iconst (v := 0) C dL_addFlight_1 (by decide) ?_
  refine bh_aload_n C dL_addFlight_2 rfl 0 rfl ?_
  refine bh_iload_n C dL_addFlight_3 rfl 1 rfl ?_
  refine bh_wcalli (As := [.int x]) C hE (ct_X0_addFlight l hl D cI cZ cL ad M x hI) (cwV 1 C.1.2.2.2.2 gL_addFlight_X0_addFlight rfl rfl rfl (by decide +kernel) ⟨Nat.le_of_ble_eq_true rfl, Nat.le_of_ble_eq_true rfl⟩) (ci := 0) rfl 0 rfl rfl rfl (Nat.le_of_ble_eq_true rfl) dL_addFlight_4 ⟨Nat.le_of_ble_eq_true rfl, Nat.le_of_ble_eq_true rfl⟩ (fun E hp => ?_) (fun r u hp => ?_)
  · rcases hp with ⟨rfl, hco⟩ | ⟨rfl, hco⟩
    · refine bh_catch C hE htab (E := xe_A) (name := xe_A) [] ⟨0, 9, 12, 13⟩ [⟨0, 9, 15, 15⟩] rfl (fun z hz => absurd hz List.not_mem_nil) (by decide) (by decide) (by decide +kernel) (by decide) (fun q9 => ?_)
      refine bh_astore_n (lv' := [(3, .ref q9), (0, .ref (ad 0)), (1, .int x), (2, .ref o)]) C dL_addFlight_12 rfl (by decide) rfl ?_
      refine bh_iconst (v := 1) C dL_addFlight_13 (by decide) ?_
      exact bh_zret C hQ dL_addFlight_14 g (v := 1) (w := (wh_hall cI cZ ad M ++ [wh_out cL o g])) (by rw [mo_sel1 hco (by decide)]) rfl (Nat.le_of_ble_eq_true rfl) (Nat.le_of_ble_eq_true rfl) ⟨hco.symm, fun z => absurd (z.symm.trans hco) (by decide)⟩
    · refine bh_catch C hE htab (E := xe_S) (name := xe_S) [⟨0, 9, 12, 13⟩] ⟨0, 9, 15, 15⟩ [] rfl (fun z hz => by rw [List.mem_singleton.mp hz]; exact ⟨by decide, xe_A, by decide +kernel, by decide⟩) (by decide) (by decide) (by decide +kernel) (by decide) (fun q9 => ?_)
      refine bh_astore_n (lv' := [(3, .ref q9), (0, .ref (ad 0)), (1, .int x), (2, .ref o)]) C dL_addFlight_15 rfl (by decide) rfl ?_
      refine bh_iconst (v := 2) C dL_addFlight_16 (by decide) ?_
      exact bh_zret C hQ dL_addFlight_17 g (v := 2) (w := (wh_hall cI cZ ad M ++ [wh_out cL o g])) (by rw [mo_sel1 hco (by decide)]) rfl (Nat.le_of_ble_eq_true rfl) (Nat.le_of_ble_eq_true rfl) ⟨hco.symm, fun z => absurd (z.symm.trans hco) (by decide)⟩
  · have hco := hp.1
    have hr := hp.2
    refine bh_i2l C dL_addFlight_7 rfl ?_
    refine bh_last (w' := (wh_hall cI cZ ad (mo_add M x) ++ [wh_out cL o (vp_updL g (0 : Int32).toNatClampNeg r.toInt64)])) C 14 2 (f := g) rfl rfl (vp_in_nI (n := 0) (by decide) (by decide)) dL_addFlight_8 rfl ?_
    refine bh_goto (tgt := 18) C dL_addFlight_9 (by decide) ?_
    refine bh_iconst (v := 0) C dL_addFlight_18 (by decide) ?_
    exact bh_zret C hQ dL_addFlight_19 (vp_updL g (0 : Int32).toNatClampNeg r.toInt64) (v := 0) (w := (wh_hall cI cZ ad (mo_add M x) ++ [wh_out cL o (vp_updL g (0 : Int32).toNatClampNeg r.toInt64)])) (by rw [mo_sel0 hco]) rfl (Nat.le_of_ble_eq_true rfl) (Nat.le_of_ble_eq_true rfl) ⟨hco.symm, fun _ => by rw [wh_upd0]; rw [hr]⟩
set_option maxRecDepth 100000 in
set_option maxHeartbeats 4000000 in
theorem ct_L_board (l : Launch) (hl : l.stackTraces = false) (D : va_G) (cI cZ cL : ClassId) (ad : Nat → Nat) (o : Nat) {K T : Nat} (M : MT) (x z : Int32) (g : Nat → Int64) (hI : MI K T M) (hz : z = 0 ∨ z = 1) : bh_Wi l D (wh_tys cI cZ cL) yL_board wsL_board ({ frames := 8, cells := 1, slots := 6, locals := 134 } : Room) [.ref (ad 0), .int x, .int z, .ref o] (wh_hall cI cZ ad M ++ [wh_out cL o g]) (fun (r : Int32) (g9 : Nat → Int64) => r = co_in x 40 ∧ (co_in x 40 = 0 → g9 0 = (mq_brd M x.toNatClampNeg).toInt64)) (fun g9 => (wh_hall cI cZ ad (mo_sel (co_in x 40) (mo_board M x z) M) ++ [wh_out cL o g9])) 1 6 := by
  refine bh_ofWi (cc := cL_board) (maxL := 5) (by decide +kernel) rfl (Nat.le_of_ble_eq_true rfl) ?_
  intro p e s m args below meth c A Q C hQ hE htab
  refine bh_eqlv (lv' := [(0, .ref (ad 0)), (1, .int x), (2, .int z), (3, .ref o)]) rfl ?_
  refine bh_aload_n C dL_board_0 rfl 3 rfl ?_
  refine bh_iconst (v := 0) C dL_board_1 (by decide) ?_
  refine bh_aload_n C dL_board_2 rfl 0 rfl ?_
  refine bh_iload_n C dL_board_3 rfl 1 rfl ?_
  refine bh_iload_n C dL_board_4 rfl 2 rfl ?_
  refine bh_wcalli (As := [.int x, .int z]) C hE (ct_X0_board l hl D cI cZ cL ad M x z hI hz) (cwV 2 C.1.2.2.2.2 gL_board_X0_board rfl rfl rfl (by decide +kernel) ⟨Nat.le_of_ble_eq_true rfl, Nat.le_of_ble_eq_true rfl⟩) (ci := 0) rfl 0 rfl rfl rfl (Nat.le_of_ble_eq_true rfl) dL_board_5 ⟨Nat.le_of_ble_eq_true rfl, Nat.le_of_ble_eq_true rfl⟩ (fun E hp => ?_) (fun r u hp => ?_)
  · rcases hp with ⟨rfl, hco⟩ | ⟨rfl, hco⟩
    · refine bh_catch C hE htab (E := xe_I) (name := xe_I) [] ⟨0, 17, 20, 21⟩ [] rfl (fun z hz => absurd hz List.not_mem_nil) (by decide) (by decide) (by decide +kernel) (by decide) (fun q9 => ?_)
      refine bh_astore (lv' := [(4, .ref q9), (0, .ref (ad 0)), (1, .int x), (2, .int z), (3, .ref o)]) C dL_board_20 (by decide) rfl ?_
      refine bh_iconst (v := 1) C dL_board_22 (by decide) ?_
      exact bh_zret C hQ dL_board_23 g (v := 1) (w := (wh_hall cI cZ ad M ++ [wh_out cL o g])) (by rw [mo_sel1 hco (by decide)]) rfl (Nat.le_of_ble_eq_true rfl) (Nat.le_of_ble_eq_true rfl) ⟨hco.symm, fun z => absurd (z.symm.trans hco) (by decide)⟩
    · exact absurd (co_in_2 hco) id
  · have hco := hp.1
    have hr := hp.2
    refine bh_if_eq (tgt := 15) C dL_board_8 (by decide) (fun c_8 => ?_) (fun c_8 => ?_)
    · refine bh_lconst0 C dL_board_15 ?_
      refine bh_last (w' := (wh_hall cI cZ ad (mo_board M x z) ++ [wh_out cL o (vp_updL g (0 : Int32).toNatClampNeg 0)])) C 14 2 (f := g) rfl rfl (vp_in_nI (n := 0) (by decide) (by decide)) dL_board_16 rfl ?_
      refine bh_goto (tgt := 24) C dL_board_17 (by decide) ?_
      refine bh_iconst (v := 0) C dL_board_24 (by decide) ?_
      exact bh_zret C hQ dL_board_25 (vp_updL g (0 : Int32).toNatClampNeg 0) (v := 0) (w := (wh_hall cI cZ ad (mo_board M x z) ++ [wh_out cL o (vp_updL g (0 : Int32).toNatClampNeg 0)])) (by rw [mo_sel0 hco]) rfl (Nat.le_of_ble_eq_true rfl) (Nat.le_of_ble_eq_true rfl) ⟨hco.symm, fun _ => by rw [wh_upd0]; rw [← hr, c_8]; rfl⟩
    · refine bh_lconst1 C dL_board_11 ?_
      refine bh_goto (tgt := 16) C dL_board_12 (by decide) ?_
      refine bh_last (w' := (wh_hall cI cZ ad (mo_board M x z) ++ [wh_out cL o (vp_updL g (0 : Int32).toNatClampNeg 1)])) C 14 2 (f := g) rfl rfl (vp_in_nI (n := 0) (by decide) (by decide)) dL_board_16 rfl ?_
      refine bh_goto (tgt := 24) C dL_board_17 (by decide) ?_
      refine bh_iconst (v := 0) C dL_board_24 (by decide) ?_
      exact bh_zret C hQ dL_board_25 (vp_updL g (0 : Int32).toNatClampNeg 1) (v := 0) (w := (wh_hall cI cZ ad (mo_board M x z) ++ [wh_out cL o (vp_updL g (0 : Int32).toNatClampNeg 1)])) (by rw [mo_sel0 hco]) rfl (Nat.le_of_ble_eq_true rfl) (Nat.le_of_ble_eq_true rfl) ⟨hco.symm, fun _ => by rw [wh_upd0]; rw [← hr, (show r = 1 from by rw [hr] at c_8 ⊢; exact (MI_brd hI _).resolve_left c_8)]; rfl⟩
set_option maxRecDepth 100000 in
set_option maxHeartbeats 4000000 in
theorem ct_L_pass (l : Launch) (hl : l.stackTraces = false) (D : va_G) (cI cZ cL : ClassId) (ad : Nat → Nat) (o : Nat) {K T : Nat} (M : MT) (x : Int32) (g : Nat → Int64) (hI : MI K T M) (hT : T + 200 ≤ 102400) : bh_Wi l D (wh_tys cI cZ cL) yL_pass wsL_pass ({ frames := 7, cells := 1, slots := 6, locals := 152 } : Room) [.ref (ad 0), .int x, .ref o] (wh_hall cI cZ ad M ++ [wh_out cL o g]) (fun (r : Int32) (g9 : Nat → Int64) => r = co_pass x ∧ (co_pass x = 0 → g9 0 = (nI (mq_sc (mo_pass M x.toNatClampNeg)) - nI (mq_sc M)).toInt64)) (fun g9 => (wh_hall cI cZ ad (mo_sel (co_pass x) (mo_pass M x.toNatClampNeg) M) ++ [wh_out cL o g9])) 1 6 := by
  refine bh_ofWi (cc := cL_pass) (maxL := 4) (by decide +kernel) rfl (Nat.le_of_ble_eq_true rfl) ?_
  intro p e s m args below meth c A Q C hQ hE htab
  refine bh_eqlv (lv' := [(0, .ref (ad 0)), (1, .int x), (2, .ref o)]) rfl ?_
  refine bh_aload_n C dL_pass_0 rfl 2 rfl ?_
  refine bh_iconst (v := 0) C dL_pass_1 (by decide) ?_
  refine bh_aload_n C dL_pass_2 rfl 0 rfl ?_
  refine bh_iload_n C dL_pass_3 rfl 1 rfl ?_
  refine bh_wcalli (As := [.int x]) C hE (ct_X0_pass l hl D cI cZ cL ad M x hI hT) (cwV 1 C.1.2.2.2.2 gL_pass_X0_pass rfl rfl rfl (by decide +kernel) ⟨Nat.le_of_ble_eq_true rfl, Nat.le_of_ble_eq_true rfl⟩) (ci := 0) rfl 0 rfl rfl rfl (Nat.le_of_ble_eq_true rfl) dL_pass_4 ⟨Nat.le_of_ble_eq_true rfl, Nat.le_of_ble_eq_true rfl⟩ (fun E hp => ?_) (fun r u hp => ?_)
  · rcases hp with ⟨rfl, hco⟩ | ⟨rfl, hco⟩
    · refine bh_catch C hE htab (E := xe_A) (name := xe_A) [] ⟨0, 9, 12, 13⟩ [] rfl (fun z hz => absurd hz List.not_mem_nil) (by decide) (by decide) (by decide +kernel) (by decide) (fun q9 => ?_)
      refine bh_astore_n (lv' := [(3, .ref q9), (0, .ref (ad 0)), (1, .int x), (2, .ref o)]) C dL_pass_12 rfl (by decide) rfl ?_
      refine bh_iconst (v := 1) C dL_pass_13 (by decide) ?_
      exact bh_zret C hQ dL_pass_14 g (v := 1) (w := (wh_hall cI cZ ad M ++ [wh_out cL o g])) (by rw [mo_sel1 hco (by decide)]) rfl (Nat.le_of_ble_eq_true rfl) (Nat.le_of_ble_eq_true rfl) ⟨hco.symm, fun z => absurd (z.symm.trans hco) (by decide)⟩
    · exact absurd (co_pass_2 hco) id
  · have hco := hp.1
    have hr := hp.2
    refine bh_i2l C dL_pass_7 rfl ?_
    refine bh_last (w' := (wh_hall cI cZ ad (mo_pass M x.toNatClampNeg) ++ [wh_out cL o (vp_updL g (0 : Int32).toNatClampNeg r.toInt64)])) C 14 2 (f := g) rfl rfl (vp_in_nI (n := 0) (by decide) (by decide)) dL_pass_8 rfl ?_
    refine bh_goto (tgt := 15) C dL_pass_9 (by decide) ?_
    refine bh_iconst (v := 0) C dL_pass_15 (by decide) ?_
    exact bh_zret C hQ dL_pass_16 (vp_updL g (0 : Int32).toNatClampNeg r.toInt64) (v := 0) (w := (wh_hall cI cZ ad (mo_pass M x.toNatClampNeg) ++ [wh_out cL o (vp_updL g (0 : Int32).toNatClampNeg r.toInt64)])) (by rw [mo_sel0 hco]) rfl (Nat.le_of_ble_eq_true rfl) (Nat.le_of_ble_eq_true rfl) ⟨hco.symm, fun _ => by rw [wh_upd0]; rw [hr]⟩
set_option maxRecDepth 100000 in
set_option maxHeartbeats 4000000 in
theorem ct_L_lateralOf (l : Launch) (hl : l.stackTraces = false) (D : va_G) (cI cZ cL : ClassId) (ad : Nat → Nat) (o : Nat) {K T : Nat} (M : MT) (x : Int32) (g : Nat → Int64) (hI : MI K T M) : bh_Wi l D (wh_tys cI cZ cL) yL_lateralOf wsL_lateralOf ({ frames := 8, cells := 1, slots := 6, locals := 132 } : Room) [.ref (ad 0), .int x, .ref o] (wh_hall cI cZ ad M ++ [wh_out cL o g]) (fun (r : Int32) (g9 : Nat → Int64) => r = co_in x (mq_fc M) ∧ (co_in x (mq_fc M) = 0 → g9 0 = (mq_lat M x.toNatClampNeg).toInt64)) (fun g9 => (wh_hall cI cZ ad M ++ [wh_out cL o g9])) 1 6 := by
  refine bh_ofWi (cc := cL_lateralOf) (maxL := 4) (by decide +kernel) rfl (Nat.le_of_ble_eq_true rfl) ?_
  intro p e s m args below meth c A Q C hQ hE htab
  refine bh_eqlv (lv' := [(0, .ref (ad 0)), (1, .int x), (2, .ref o)]) rfl ?_
  refine bh_aload_n C dL_lateralOf_0 rfl 2 rfl ?_
  refine bh_iconst (v := 0) C dL_lateralOf_1 (by decide) ?_
  refine bh_aload_n C dL_lateralOf_2 rfl 0 rfl ?_
  refine bh_iload_n C dL_lateralOf_3 rfl 1 rfl ?_
  refine bh_wcalli (As := [.int x]) C hE (ct_X0_lateralOf l hl D cI cZ cL ad M x hI) (cwV 1 C.1.2.2.2.2 gL_lateralOf_X0_lateralOf rfl rfl rfl (by decide +kernel) ⟨Nat.le_of_ble_eq_true rfl, Nat.le_of_ble_eq_true rfl⟩) (ci := 0) rfl 0 rfl rfl rfl (Nat.le_of_ble_eq_true rfl) dL_lateralOf_4 ⟨Nat.le_of_ble_eq_true rfl, Nat.le_of_ble_eq_true rfl⟩ (fun E hp => ?_) (fun r u hp => ?_)
  · rcases hp with ⟨rfl, hco⟩ | ⟨rfl, hco⟩
    · refine bh_catch C hE htab (E := xe_I) (name := xe_I) [] ⟨0, 9, 12, 21⟩ [] rfl (fun z hz => absurd hz List.not_mem_nil) (by decide) (by decide) (by decide +kernel) (by decide) (fun q9 => ?_)
      refine bh_astore_n (lv' := [(3, .ref q9), (0, .ref (ad 0)), (1, .int x), (2, .ref o)]) C dL_lateralOf_12 rfl (by decide) rfl ?_
      refine bh_iconst (v := 1) C dL_lateralOf_13 (by decide) ?_
      exact bh_zret C hQ dL_lateralOf_14 g (v := 1) (w := (wh_hall cI cZ ad M ++ [wh_out cL o g])) rfl rfl (Nat.le_of_ble_eq_true rfl) (Nat.le_of_ble_eq_true rfl) ⟨hco.symm, fun z => absurd (z.symm.trans hco) (by decide)⟩
    · exact absurd (co_in_2 hco) id
  · have hco := hp.1
    have hr := hp.2
    refine bh_i2l C dL_lateralOf_7 rfl ?_
    refine bh_last (w' := (wh_hall cI cZ ad M ++ [wh_out cL o (vp_updL g (0 : Int32).toNatClampNeg r.toInt64)])) C 14 2 (f := g) rfl rfl (vp_in_nI (n := 0) (by decide) (by decide)) dL_lateralOf_8 rfl ?_
    refine bh_goto (tgt := 15) C dL_lateralOf_9 (by decide) ?_
    refine bh_iconst (v := 0) C dL_lateralOf_15 (by decide) ?_
    exact bh_zret C hQ dL_lateralOf_16 (vp_updL g (0 : Int32).toNatClampNeg r.toInt64) (v := 0) (w := (wh_hall cI cZ ad M ++ [wh_out cL o (vp_updL g (0 : Int32).toNatClampNeg r.toInt64)])) rfl rfl (Nat.le_of_ble_eq_true rfl) (Nat.le_of_ble_eq_true rfl) ⟨hco.symm, fun _ => by rw [wh_upd0]; rw [hr]⟩
set_option maxRecDepth 100000 in
set_option maxHeartbeats 4000000 in
theorem ct_L_checkIn (l : Launch) (hl : l.stackTraces = false) (D : va_G) (cI cZ cL : ClassId) (ad : Nat → Nat) (o : Nat) {K T : Nat} (M : MT) (x r0 : Int32) (g : Nat → Int64) (hI : MI K T M) (hK4 : K + 4 ≤ 2048) : bh_Wi l D (wh_tys cI cZ cL) yL_checkIn wsL_checkIn ({ frames := 9, cells := 1, slots := 6, locals := 157 } : Room) [.ref (ad 0), .int x, .int r0, .ref o] (wh_hall cI cZ ad M ++ [wh_out cL o g]) (fun (r : Int32) (g9 : Nat → Int64) => r = co_take M x r0 ∧ (co_take M x r0 = 0 → g9 0 = (nI (mq_bc M)).toInt64)) (fun g9 => (wh_hall cI cZ ad (mo_sel (co_take M x r0) (mo_bring (mo_take M x r0) (mq_bc M) 1) M) ++ [wh_out cL o g9])) 1 6 := by
  refine bh_ofWi (cc := cL_checkIn) (maxL := 5) (by decide +kernel) rfl (Nat.le_of_ble_eq_true rfl) ?_
  intro p e s m args below meth c A Q C hQ hE htab
  refine bh_eqlv (lv' := [(0, .ref (ad 0)), (1, .int x), (2, .int r0), (3, .ref o)]) rfl ?_
  refine bh_aload_n C dL_checkIn_0 rfl 3 rfl ?_
  refine bh_iconst (v := 0) C dL_checkIn_1 (by decide) ?_
  refine bh_aload_n C dL_checkIn_2 rfl 0 rfl ?_
  refine bh_iload_n C dL_checkIn_3 rfl 1 rfl ?_
  refine bh_iload_n C dL_checkIn_4 rfl 2 rfl ?_
  refine bh_wcalli (As := [.int x, .int r0]) C hE (ct_X0_checkIn l hl D cI cZ cL ad M x r0 hI hK4) (cwV 2 C.1.2.2.2.2 gL_checkIn_X0_checkIn rfl rfl rfl (by decide +kernel) ⟨Nat.le_of_ble_eq_true rfl, Nat.le_of_ble_eq_true rfl⟩) (ci := 0) rfl 0 rfl rfl rfl (Nat.le_of_ble_eq_true rfl) dL_checkIn_5 ⟨Nat.le_of_ble_eq_true rfl, Nat.le_of_ble_eq_true rfl⟩ (fun E hp => ?_) (fun r u hp => ?_)
  · rcases hp with ⟨rfl, hco⟩ | ⟨rfl, hco⟩
    · refine bh_catch C hE htab (E := xe_I) (name := xe_I) [] ⟨0, 10, 13, 21⟩ [⟨0, 10, 17, 15⟩] rfl (fun z hz => absurd hz List.not_mem_nil) (by decide) (by decide) (by decide +kernel) (by decide) (fun q9 => ?_)
      refine bh_astore (lv' := [(4, .ref q9), (0, .ref (ad 0)), (1, .int x), (2, .int r0), (3, .ref o)]) C dL_checkIn_13 (by decide) rfl ?_
      refine bh_iconst (v := 1) C dL_checkIn_15 (by decide) ?_
      exact bh_zret C hQ dL_checkIn_16 g (v := 1) (w := (wh_hall cI cZ ad M ++ [wh_out cL o g])) (by rw [mo_sel1 hco (by decide)]) rfl (Nat.le_of_ble_eq_true rfl) (Nat.le_of_ble_eq_true rfl) ⟨hco.symm, fun z => absurd (z.symm.trans hco) (by decide)⟩
    · refine bh_catch C hE htab (E := xe_S) (name := xe_S) [⟨0, 10, 13, 21⟩] ⟨0, 10, 17, 15⟩ [] rfl (fun z hz => by rw [List.mem_singleton.mp hz]; exact ⟨by decide, xe_I, by decide +kernel, by decide⟩) (by decide) (by decide) (by decide +kernel) (by decide) (fun q9 => ?_)
      refine bh_astore (lv' := [(4, .ref q9), (0, .ref (ad 0)), (1, .int x), (2, .int r0), (3, .ref o)]) C dL_checkIn_17 (by decide) rfl ?_
      refine bh_iconst (v := 2) C dL_checkIn_19 (by decide) ?_
      exact bh_zret C hQ dL_checkIn_20 g (v := 2) (w := (wh_hall cI cZ ad M ++ [wh_out cL o g])) (by rw [mo_sel1 hco (by decide)]) rfl (Nat.le_of_ble_eq_true rfl) (Nat.le_of_ble_eq_true rfl) ⟨hco.symm, fun z => absurd (z.symm.trans hco) (by decide)⟩
  · have hco := hp.1
    have hr := hp.2.2.2.2
    refine bh_i2l C dL_checkIn_8 rfl ?_
    refine bh_last (w' := (wh_hall cI cZ ad (mo_bring (mo_take M x r0) (mq_bc M) 1) ++ [wh_out cL o (vp_updL g (0 : Int32).toNatClampNeg r.toInt64)])) C 14 2 (f := g) rfl rfl (vp_in_nI (n := 0) (by decide) (by decide)) dL_checkIn_9 rfl ?_
    refine bh_goto (tgt := 21) C dL_checkIn_10 (by decide) ?_
    refine bh_iconst (v := 0) C dL_checkIn_21 (by decide) ?_
    exact bh_zret C hQ dL_checkIn_22 (vp_updL g (0 : Int32).toNatClampNeg r.toInt64) (v := 0) (w := (wh_hall cI cZ ad (mo_bring (mo_take M x r0) (mq_bc M) 1) ++ [wh_out cL o (vp_updL g (0 : Int32).toNatClampNeg r.toInt64)])) (by rw [mo_sel0 hco]) rfl (Nat.le_of_ble_eq_true rfl) (Nat.le_of_ble_eq_true rfl) ⟨hco.symm, fun _ => by rw [wh_upd0]; rw [hr]⟩
set_option maxRecDepth 100000 in
set_option maxHeartbeats 4000000 in
theorem ct_L_transfer (l : Launch) (hl : l.stackTraces = false) (D : va_G) (cI cZ cL : ClassId) (ad : Nat → Nat) (o : Nat) {K T : Nat} (M : MT) (x r0 : Int32) (g : Nat → Int64) (hI : MI K T M) (hK4 : K + 4 ≤ 2048) : bh_Wi l D (wh_tys cI cZ cL) yL_transfer wsL_transfer ({ frames := 9, cells := 1, slots := 6, locals := 157 } : Room) [.ref (ad 0), .int x, .int r0, .ref o] (wh_hall cI cZ ad M ++ [wh_out cL o g]) (fun (r : Int32) (g9 : Nat → Int64) => r = co_take M x r0 ∧ (co_take M x r0 = 0 → g9 0 = (nI (mq_bc M)).toInt64)) (fun g9 => (wh_hall cI cZ ad (mo_sel (co_take M x r0) (mo_route (mo_take M x r0) (mq_bc M)) M) ++ [wh_out cL o g9])) 1 6 := by
  refine bh_ofWi (cc := cL_transfer) (maxL := 5) (by decide +kernel) rfl (Nat.le_of_ble_eq_true rfl) ?_
  intro p e s m args below meth c A Q C hQ hE htab
  refine bh_eqlv (lv' := [(0, .ref (ad 0)), (1, .int x), (2, .int r0), (3, .ref o)]) rfl ?_
  refine bh_aload_n C dL_transfer_0 rfl 3 rfl ?_
  refine bh_iconst (v := 0) C dL_transfer_1 (by decide) ?_
  refine bh_aload_n C dL_transfer_2 rfl 0 rfl ?_
  refine bh_iload_n C dL_transfer_3 rfl 1 rfl ?_
  refine bh_iload_n C dL_transfer_4 rfl 2 rfl ?_
  refine bh_wcalli (As := [.int x, .int r0]) C hE (ct_X0_transfer l hl D cI cZ cL ad M x r0 hI hK4) (cwV 2 C.1.2.2.2.2 gL_transfer_X0_transfer rfl rfl rfl (by decide +kernel) ⟨Nat.le_of_ble_eq_true rfl, Nat.le_of_ble_eq_true rfl⟩) (ci := 0) rfl 0 rfl rfl rfl (Nat.le_of_ble_eq_true rfl) dL_transfer_5 ⟨Nat.le_of_ble_eq_true rfl, Nat.le_of_ble_eq_true rfl⟩ (fun E hp => ?_) (fun r u hp => ?_)
  · rcases hp with ⟨rfl, hco⟩ | ⟨rfl, hco⟩
    · refine bh_catch C hE htab (E := xe_I) (name := xe_I) [] ⟨0, 10, 13, 21⟩ [⟨0, 10, 17, 15⟩] rfl (fun z hz => absurd hz List.not_mem_nil) (by decide) (by decide) (by decide +kernel) (by decide) (fun q9 => ?_)
      refine bh_astore (lv' := [(4, .ref q9), (0, .ref (ad 0)), (1, .int x), (2, .int r0), (3, .ref o)]) C dL_transfer_13 (by decide) rfl ?_
      refine bh_iconst (v := 1) C dL_transfer_15 (by decide) ?_
      exact bh_zret C hQ dL_transfer_16 g (v := 1) (w := (wh_hall cI cZ ad M ++ [wh_out cL o g])) (by rw [mo_sel1 hco (by decide)]) rfl (Nat.le_of_ble_eq_true rfl) (Nat.le_of_ble_eq_true rfl) ⟨hco.symm, fun z => absurd (z.symm.trans hco) (by decide)⟩
    · refine bh_catch C hE htab (E := xe_S) (name := xe_S) [⟨0, 10, 13, 21⟩] ⟨0, 10, 17, 15⟩ [] rfl (fun z hz => by rw [List.mem_singleton.mp hz]; exact ⟨by decide, xe_I, by decide +kernel, by decide⟩) (by decide) (by decide) (by decide +kernel) (by decide) (fun q9 => ?_)
      refine bh_astore (lv' := [(4, .ref q9), (0, .ref (ad 0)), (1, .int x), (2, .int r0), (3, .ref o)]) C dL_transfer_17 (by decide) rfl ?_
      refine bh_iconst (v := 2) C dL_transfer_19 (by decide) ?_
      exact bh_zret C hQ dL_transfer_20 g (v := 2) (w := (wh_hall cI cZ ad M ++ [wh_out cL o g])) (by rw [mo_sel1 hco (by decide)]) rfl (Nat.le_of_ble_eq_true rfl) (Nat.le_of_ble_eq_true rfl) ⟨hco.symm, fun z => absurd (z.symm.trans hco) (by decide)⟩
  · have hco := hp.1
    have hr := hp.2.2.2.2
    refine bh_i2l C dL_transfer_8 rfl ?_
    refine bh_last (w' := (wh_hall cI cZ ad (mo_route (mo_take M x r0) (mq_bc M)) ++ [wh_out cL o (vp_updL g (0 : Int32).toNatClampNeg r.toInt64)])) C 14 2 (f := g) rfl rfl (vp_in_nI (n := 0) (by decide) (by decide)) dL_transfer_9 rfl ?_
    refine bh_goto (tgt := 21) C dL_transfer_10 (by decide) ?_
    refine bh_iconst (v := 0) C dL_transfer_21 (by decide) ?_
    exact bh_zret C hQ dL_transfer_22 (vp_updL g (0 : Int32).toNatClampNeg r.toInt64) (v := 0) (w := (wh_hall cI cZ ad (mo_route (mo_take M x r0) (mq_bc M)) ++ [wh_out cL o (vp_updL g (0 : Int32).toNatClampNeg r.toInt64)])) (by rw [mo_sel0 hco]) rfl (Nat.le_of_ble_eq_true rfl) (Nat.le_of_ble_eq_true rfl) ⟨hco.symm, fun _ => by rw [wh_upd0]; rw [hr]⟩
set_option maxRecDepth 100000 in
set_option maxHeartbeats 4000000 in
theorem ct_L_decide (l : Launch) (hl : l.stackTraces = false) (D : va_G) (cI cZ cL : ClassId) (ad : Nat → Nat) (o : Nat) {K T : Nat} (M : MT) (b z : Int32) (g : Nat → Int64) (hI : MI K T M) (hK4 : K + 4 ≤ 2048) : bh_Wi l D (wh_tys cI cZ cL) yL_decide wsL_decide ({ frames := 8, cells := 1, slots := 6, locals := 134 } : Room) [.ref (ad 0), .int b, .int z, .ref o] (wh_hall cI cZ ad M ++ [wh_out cL o g]) (fun (r : Int32) (g9 : Nat → Int64) => r = co_deci M b ∧ (co_deci M b = 0 → g9 0 = (mq_pl (mo_dec M b.toNatClampNeg z) b.toNatClampNeg).toInt64)) (fun g9 => (wh_hall cI cZ ad (mo_sel (co_deci M b) (mo_dec M b.toNatClampNeg z) M) ++ [wh_out cL o g9])) 1 6 := by
  refine bh_ofWi (cc := cL_decide) (maxL := 5) (by decide +kernel) rfl (Nat.le_of_ble_eq_true rfl) ?_
  intro p e s m args below meth c A Q C hQ hE htab
  refine bh_eqlv (lv' := [(0, .ref (ad 0)), (1, .int b), (2, .int z), (3, .ref o)]) rfl ?_
  refine bh_aload_n C dL_decide_0 rfl 3 rfl ?_
  refine bh_iconst (v := 0) C dL_decide_1 (by decide) ?_
  refine bh_aload_n C dL_decide_2 rfl 0 rfl ?_
  refine bh_iload_n C dL_decide_3 rfl 1 rfl ?_
  refine bh_iload_n C dL_decide_4 rfl 2 rfl ?_
  refine bh_wcalli (As := [.int b, .int z]) C hE (ct_X0_decide l hl D cI cZ cL ad M b z hI hK4) (cwV 2 C.1.2.2.2.2 gL_decide_X0_decide rfl rfl rfl (by decide +kernel) ⟨Nat.le_of_ble_eq_true rfl, Nat.le_of_ble_eq_true rfl⟩) (ci := 0) rfl 0 rfl rfl rfl (Nat.le_of_ble_eq_true rfl) dL_decide_5 ⟨Nat.le_of_ble_eq_true rfl, Nat.le_of_ble_eq_true rfl⟩ (fun E hp => ?_) (fun r u hp => ?_)
  · rcases hp with ⟨rfl, hco⟩ | ⟨rfl, hco⟩
    · refine bh_catch C hE htab (E := xe_I) (name := xe_I) [] ⟨0, 10, 13, 21⟩ [⟨0, 10, 17, 15⟩] rfl (fun z hz => absurd hz List.not_mem_nil) (by decide) (by decide) (by decide +kernel) (by decide) (fun q9 => ?_)
      refine bh_astore (lv' := [(4, .ref q9), (0, .ref (ad 0)), (1, .int b), (2, .int z), (3, .ref o)]) C dL_decide_13 (by decide) rfl ?_
      refine bh_iconst (v := 1) C dL_decide_15 (by decide) ?_
      exact bh_zret C hQ dL_decide_16 g (v := 1) (w := (wh_hall cI cZ ad M ++ [wh_out cL o g])) (by rw [mo_sel1 hco (by decide)]) rfl (Nat.le_of_ble_eq_true rfl) (Nat.le_of_ble_eq_true rfl) ⟨hco.symm, fun z => absurd (z.symm.trans hco) (by decide)⟩
    · refine bh_catch C hE htab (E := xe_S) (name := xe_S) [⟨0, 10, 13, 21⟩] ⟨0, 10, 17, 15⟩ [] rfl (fun z hz => by rw [List.mem_singleton.mp hz]; exact ⟨by decide, xe_I, by decide +kernel, by decide⟩) (by decide) (by decide) (by decide +kernel) (by decide) (fun q9 => ?_)
      refine bh_astore (lv' := [(4, .ref q9), (0, .ref (ad 0)), (1, .int b), (2, .int z), (3, .ref o)]) C dL_decide_17 (by decide) rfl ?_
      refine bh_iconst (v := 2) C dL_decide_19 (by decide) ?_
      exact bh_zret C hQ dL_decide_20 g (v := 2) (w := (wh_hall cI cZ ad M ++ [wh_out cL o g])) (by rw [mo_sel1 hco (by decide)]) rfl (Nat.le_of_ble_eq_true rfl) (Nat.le_of_ble_eq_true rfl) ⟨hco.symm, fun z => absurd (z.symm.trans hco) (by decide)⟩
  · have hco := hp.1
    have hr := hp.2
    refine bh_i2l C dL_decide_8 rfl ?_
    refine bh_last (w' := (wh_hall cI cZ ad (mo_dec M b.toNatClampNeg z) ++ [wh_out cL o (vp_updL g (0 : Int32).toNatClampNeg r.toInt64)])) C 14 2 (f := g) rfl rfl (vp_in_nI (n := 0) (by decide) (by decide)) dL_decide_9 rfl ?_
    refine bh_goto (tgt := 21) C dL_decide_10 (by decide) ?_
    refine bh_iconst (v := 0) C dL_decide_21 (by decide) ?_
    exact bh_zret C hQ dL_decide_22 (vp_updL g (0 : Int32).toNatClampNeg r.toInt64) (v := 0) (w := (wh_hall cI cZ ad (mo_dec M b.toNatClampNeg z) ++ [wh_out cL o (vp_updL g (0 : Int32).toNatClampNeg r.toInt64)])) (by rw [mo_sel0 hco]) rfl (Nat.le_of_ble_eq_true rfl) (Nat.le_of_ble_eq_true rfl) ⟨hco.symm, fun _ => by rw [wh_upd0]; rw [hr]⟩
set_option maxRecDepth 100000 in
set_option maxHeartbeats 4000000 in
theorem ct_L_letGo (l : Launch) (hl : l.stackTraces = false) (D : va_G) (cI cZ cL : ClassId) (ad : Nat → Nat) (o : Nat) {K T : Nat} (M : MT) (b : Int32) (g : Nat → Int64) (hI : MI K T M) (hK4 : K + 4 ≤ 2048) : bh_Wi l D (wh_tys cI cZ cL) yL_letGo wsL_letGo ({ frames := 8, cells := 1, slots := 6, locals := 133 } : Room) [.ref (ad 0), .int b, .ref o] (wh_hall cI cZ ad M ++ [wh_out cL o g]) (fun (r : Int32) (g9 : Nat → Int64) => r = co_place M b 4 ∧ (co_place M b 4 = 0 → g9 0 = (mq_pl (mo_route M b.toNatClampNeg) b.toNatClampNeg).toInt64)) (fun g9 => (wh_hall cI cZ ad (mo_sel (co_place M b 4) (mo_route M b.toNatClampNeg) M) ++ [wh_out cL o g9])) 1 6 := by
  refine bh_ofWi (cc := cL_letGo) (maxL := 4) (by decide +kernel) rfl (Nat.le_of_ble_eq_true rfl) ?_
  intro p e s m args below meth c A Q C hQ hE htab
  refine bh_eqlv (lv' := [(0, .ref (ad 0)), (1, .int b), (2, .ref o)]) rfl ?_
  refine bh_aload_n C dL_letGo_0 rfl 2 rfl ?_
  refine bh_iconst (v := 0) C dL_letGo_1 (by decide) ?_
  refine bh_aload_n C dL_letGo_2 rfl 0 rfl ?_
  refine bh_iload_n C dL_letGo_3 rfl 1 rfl ?_
  refine bh_wcalli (As := [.int b]) C hE (ct_X0_letGo l hl D cI cZ cL ad M b hI hK4) (cwV 1 C.1.2.2.2.2 gL_letGo_X0_letGo rfl rfl rfl (by decide +kernel) ⟨Nat.le_of_ble_eq_true rfl, Nat.le_of_ble_eq_true rfl⟩) (ci := 0) rfl 0 rfl rfl rfl (Nat.le_of_ble_eq_true rfl) dL_letGo_4 ⟨Nat.le_of_ble_eq_true rfl, Nat.le_of_ble_eq_true rfl⟩ (fun E hp => ?_) (fun r u hp => ?_)
  · rcases hp with ⟨rfl, hco⟩ | ⟨rfl, hco⟩
    · refine bh_catch C hE htab (E := xe_I) (name := xe_I) [] ⟨0, 9, 12, 21⟩ [⟨0, 9, 15, 15⟩] rfl (fun z hz => absurd hz List.not_mem_nil) (by decide) (by decide) (by decide +kernel) (by decide) (fun q9 => ?_)
      refine bh_astore_n (lv' := [(3, .ref q9), (0, .ref (ad 0)), (1, .int b), (2, .ref o)]) C dL_letGo_12 rfl (by decide) rfl ?_
      refine bh_iconst (v := 1) C dL_letGo_13 (by decide) ?_
      exact bh_zret C hQ dL_letGo_14 g (v := 1) (w := (wh_hall cI cZ ad M ++ [wh_out cL o g])) (by rw [mo_sel1 hco (by decide)]) rfl (Nat.le_of_ble_eq_true rfl) (Nat.le_of_ble_eq_true rfl) ⟨hco.symm, fun z => absurd (z.symm.trans hco) (by decide)⟩
    · refine bh_catch C hE htab (E := xe_S) (name := xe_S) [⟨0, 9, 12, 21⟩] ⟨0, 9, 15, 15⟩ [] rfl (fun z hz => by rw [List.mem_singleton.mp hz]; exact ⟨by decide, xe_I, by decide +kernel, by decide⟩) (by decide) (by decide) (by decide +kernel) (by decide) (fun q9 => ?_)
      refine bh_astore_n (lv' := [(3, .ref q9), (0, .ref (ad 0)), (1, .int b), (2, .ref o)]) C dL_letGo_15 rfl (by decide) rfl ?_
      refine bh_iconst (v := 2) C dL_letGo_16 (by decide) ?_
      exact bh_zret C hQ dL_letGo_17 g (v := 2) (w := (wh_hall cI cZ ad M ++ [wh_out cL o g])) (by rw [mo_sel1 hco (by decide)]) rfl (Nat.le_of_ble_eq_true rfl) (Nat.le_of_ble_eq_true rfl) ⟨hco.symm, fun z => absurd (z.symm.trans hco) (by decide)⟩
  · have hco := hp.1
    have hr := hp.2
    refine bh_i2l C dL_letGo_7 rfl ?_
    refine bh_last (w' := (wh_hall cI cZ ad (mo_route M b.toNatClampNeg) ++ [wh_out cL o (vp_updL g (0 : Int32).toNatClampNeg r.toInt64)])) C 14 2 (f := g) rfl rfl (vp_in_nI (n := 0) (by decide) (by decide)) dL_letGo_8 rfl ?_
    refine bh_goto (tgt := 18) C dL_letGo_9 (by decide) ?_
    refine bh_iconst (v := 0) C dL_letGo_18 (by decide) ?_
    exact bh_zret C hQ dL_letGo_19 (vp_updL g (0 : Int32).toNatClampNeg r.toInt64) (v := 0) (w := (wh_hall cI cZ ad (mo_route M b.toNatClampNeg) ++ [wh_out cL o (vp_updL g (0 : Int32).toNatClampNeg r.toInt64)])) (by rw [mo_sel0 hco]) rfl (Nat.le_of_ble_eq_true rfl) (Nat.le_of_ble_eq_true rfl) ⟨hco.symm, fun _ => by rw [wh_upd0]; rw [hr]⟩
set_option maxRecDepth 100000 in
set_option maxHeartbeats 4000000 in
theorem ct_L_load (l : Launch) (hl : l.stackTraces = false) (D : va_G) (cI cZ cL : ClassId) (ad : Nat → Nat) (o : Nat) {K T : Nat} (M : MT) (b : Int32) (g : Nat → Int64) (hI : MI K T M) (hK4 : K + 4 ≤ 2048) : bh_Wi l D (wh_tys cI cZ cL) yL_load wsL_load ({ frames := 8, cells := 1, slots := 6, locals := 133 } : Room) [.ref (ad 0), .int b, .ref o] (wh_hall cI cZ ad M ++ [wh_out cL o g]) (fun (r : Int32) (g9 : Nat → Int64) => r = co_place M b 7 ∧ (co_place M b 7 = 0 → g9 0 = (nI (mo_ld (mo_bring M b.toNatClampNeg 8) (mq_bf M b.toNatClampNeg))).toInt64)) (fun g9 => (wh_hall cI cZ ad (mo_sel (co_place M b 7) (mo_bring M b.toNatClampNeg 8) M) ++ [wh_out cL o g9])) 1 6 := by
  refine bh_ofWi (cc := cL_load) (maxL := 4) (by decide +kernel) rfl (Nat.le_of_ble_eq_true rfl) ?_
  intro p e s m args below meth c A Q C hQ hE htab
  refine bh_eqlv (lv' := [(0, .ref (ad 0)), (1, .int b), (2, .ref o)]) rfl ?_
  refine bh_aload_n C dL_load_0 rfl 2 rfl ?_
  refine bh_iconst (v := 0) C dL_load_1 (by decide) ?_
  refine bh_aload_n C dL_load_2 rfl 0 rfl ?_
  refine bh_iload_n C dL_load_3 rfl 1 rfl ?_
  refine bh_wcalli (As := [.int b]) C hE (ct_X0_load l hl D cI cZ cL ad M b hI hK4) (cwV 1 C.1.2.2.2.2 gL_load_X0_load rfl rfl rfl (by decide +kernel) ⟨Nat.le_of_ble_eq_true rfl, Nat.le_of_ble_eq_true rfl⟩) (ci := 0) rfl 0 rfl rfl rfl (Nat.le_of_ble_eq_true rfl) dL_load_4 ⟨Nat.le_of_ble_eq_true rfl, Nat.le_of_ble_eq_true rfl⟩ (fun E hp => ?_) (fun r u hp => ?_)
  · rcases hp with ⟨rfl, hco⟩ | ⟨rfl, hco⟩
    · refine bh_catch C hE htab (E := xe_I) (name := xe_I) [] ⟨0, 9, 12, 21⟩ [⟨0, 9, 15, 15⟩] rfl (fun z hz => absurd hz List.not_mem_nil) (by decide) (by decide) (by decide +kernel) (by decide) (fun q9 => ?_)
      refine bh_astore_n (lv' := [(3, .ref q9), (0, .ref (ad 0)), (1, .int b), (2, .ref o)]) C dL_load_12 rfl (by decide) rfl ?_
      refine bh_iconst (v := 1) C dL_load_13 (by decide) ?_
      exact bh_zret C hQ dL_load_14 g (v := 1) (w := (wh_hall cI cZ ad M ++ [wh_out cL o g])) (by rw [mo_sel1 hco (by decide)]) rfl (Nat.le_of_ble_eq_true rfl) (Nat.le_of_ble_eq_true rfl) ⟨hco.symm, fun z => absurd (z.symm.trans hco) (by decide)⟩
    · refine bh_catch C hE htab (E := xe_S) (name := xe_S) [⟨0, 9, 12, 21⟩] ⟨0, 9, 15, 15⟩ [] rfl (fun z hz => by rw [List.mem_singleton.mp hz]; exact ⟨by decide, xe_I, by decide +kernel, by decide⟩) (by decide) (by decide) (by decide +kernel) (by decide) (fun q9 => ?_)
      refine bh_astore_n (lv' := [(3, .ref q9), (0, .ref (ad 0)), (1, .int b), (2, .ref o)]) C dL_load_15 rfl (by decide) rfl ?_
      refine bh_iconst (v := 2) C dL_load_16 (by decide) ?_
      exact bh_zret C hQ dL_load_17 g (v := 2) (w := (wh_hall cI cZ ad M ++ [wh_out cL o g])) (by rw [mo_sel1 hco (by decide)]) rfl (Nat.le_of_ble_eq_true rfl) (Nat.le_of_ble_eq_true rfl) ⟨hco.symm, fun z => absurd (z.symm.trans hco) (by decide)⟩
  · have hco := hp.1
    have hr := hp.2
    refine bh_i2l C dL_load_7 rfl ?_
    refine bh_last (w' := (wh_hall cI cZ ad (mo_bring M b.toNatClampNeg 8) ++ [wh_out cL o (vp_updL g (0 : Int32).toNatClampNeg r.toInt64)])) C 14 2 (f := g) rfl rfl (vp_in_nI (n := 0) (by decide) (by decide)) dL_load_8 rfl ?_
    refine bh_goto (tgt := 18) C dL_load_9 (by decide) ?_
    refine bh_iconst (v := 0) C dL_load_18 (by decide) ?_
    exact bh_zret C hQ dL_load_19 (vp_updL g (0 : Int32).toNatClampNeg r.toInt64) (v := 0) (w := (wh_hall cI cZ ad (mo_bring M b.toNatClampNeg 8) ++ [wh_out cL o (vp_updL g (0 : Int32).toNatClampNeg r.toInt64)])) (by rw [mo_sel0 hco]) rfl (Nat.le_of_ble_eq_true rfl) (Nat.le_of_ble_eq_true rfl) ⟨hco.symm, fun _ => by rw [wh_upd0]; rw [hr]⟩
set_option maxRecDepth 100000 in
set_option maxHeartbeats 4000000 in
theorem ct_L_offload (l : Launch) (hl : l.stackTraces = false) (D : va_G) (cI cZ cL : ClassId) (ad : Nat → Nat) (o : Nat) {K T : Nat} (M : MT) (b : Int32) (g : Nat → Int64) (hI : MI K T M) (hK4 : K + 4 ≤ 2048) : bh_Wi l D (wh_tys cI cZ cL) yL_offload wsL_offload ({ frames := 8, cells := 1, slots := 6, locals := 133 } : Room) [.ref (ad 0), .int b, .ref o] (wh_hall cI cZ ad M ++ [wh_out cL o g]) (fun (r : Int32) (g9 : Nat → Int64) => r = co_place M b 8 ∧ (co_place M b 8 = 0 → g9 0 = (nI (mo_ld (mo_bring M b.toNatClampNeg 10) (mq_bf M b.toNatClampNeg))).toInt64)) (fun g9 => (wh_hall cI cZ ad (mo_sel (co_place M b 8) (mo_bring M b.toNatClampNeg 10) M) ++ [wh_out cL o g9])) 1 6 := by
  refine bh_ofWi (cc := cL_offload) (maxL := 4) (by decide +kernel) rfl (Nat.le_of_ble_eq_true rfl) ?_
  intro p e s m args below meth c A Q C hQ hE htab
  refine bh_eqlv (lv' := [(0, .ref (ad 0)), (1, .int b), (2, .ref o)]) rfl ?_
  refine bh_aload_n C dL_offload_0 rfl 2 rfl ?_
  refine bh_iconst (v := 0) C dL_offload_1 (by decide) ?_
  refine bh_aload_n C dL_offload_2 rfl 0 rfl ?_
  refine bh_iload_n C dL_offload_3 rfl 1 rfl ?_
  refine bh_wcalli (As := [.int b]) C hE (ct_X0_offload l hl D cI cZ cL ad M b hI hK4) (cwV 1 C.1.2.2.2.2 gL_offload_X0_offload rfl rfl rfl (by decide +kernel) ⟨Nat.le_of_ble_eq_true rfl, Nat.le_of_ble_eq_true rfl⟩) (ci := 0) rfl 0 rfl rfl rfl (Nat.le_of_ble_eq_true rfl) dL_offload_4 ⟨Nat.le_of_ble_eq_true rfl, Nat.le_of_ble_eq_true rfl⟩ (fun E hp => ?_) (fun r u hp => ?_)
  · rcases hp with ⟨rfl, hco⟩ | ⟨rfl, hco⟩
    · refine bh_catch C hE htab (E := xe_I) (name := xe_I) [] ⟨0, 9, 12, 21⟩ [⟨0, 9, 15, 15⟩] rfl (fun z hz => absurd hz List.not_mem_nil) (by decide) (by decide) (by decide +kernel) (by decide) (fun q9 => ?_)
      refine bh_astore_n (lv' := [(3, .ref q9), (0, .ref (ad 0)), (1, .int b), (2, .ref o)]) C dL_offload_12 rfl (by decide) rfl ?_
      refine bh_iconst (v := 1) C dL_offload_13 (by decide) ?_
      exact bh_zret C hQ dL_offload_14 g (v := 1) (w := (wh_hall cI cZ ad M ++ [wh_out cL o g])) (by rw [mo_sel1 hco (by decide)]) rfl (Nat.le_of_ble_eq_true rfl) (Nat.le_of_ble_eq_true rfl) ⟨hco.symm, fun z => absurd (z.symm.trans hco) (by decide)⟩
    · refine bh_catch C hE htab (E := xe_S) (name := xe_S) [⟨0, 9, 12, 21⟩] ⟨0, 9, 15, 15⟩ [] rfl (fun z hz => by rw [List.mem_singleton.mp hz]; exact ⟨by decide, xe_I, by decide +kernel, by decide⟩) (by decide) (by decide) (by decide +kernel) (by decide) (fun q9 => ?_)
      refine bh_astore_n (lv' := [(3, .ref q9), (0, .ref (ad 0)), (1, .int b), (2, .ref o)]) C dL_offload_15 rfl (by decide) rfl ?_
      refine bh_iconst (v := 2) C dL_offload_16 (by decide) ?_
      exact bh_zret C hQ dL_offload_17 g (v := 2) (w := (wh_hall cI cZ ad M ++ [wh_out cL o g])) (by rw [mo_sel1 hco (by decide)]) rfl (Nat.le_of_ble_eq_true rfl) (Nat.le_of_ble_eq_true rfl) ⟨hco.symm, fun z => absurd (z.symm.trans hco) (by decide)⟩
  · have hco := hp.1
    have hr := hp.2
    refine bh_i2l C dL_offload_7 rfl ?_
    refine bh_last (w' := (wh_hall cI cZ ad (mo_bring M b.toNatClampNeg 10) ++ [wh_out cL o (vp_updL g (0 : Int32).toNatClampNeg r.toInt64)])) C 14 2 (f := g) rfl rfl (vp_in_nI (n := 0) (by decide) (by decide)) dL_offload_8 rfl ?_
    refine bh_goto (tgt := 18) C dL_offload_9 (by decide) ?_
    refine bh_iconst (v := 0) C dL_offload_18 (by decide) ?_
    exact bh_zret C hQ dL_offload_19 (vp_updL g (0 : Int32).toNatClampNeg r.toInt64) (v := 0) (w := (wh_hall cI cZ ad (mo_bring M b.toNatClampNeg 10) ++ [wh_out cL o (vp_updL g (0 : Int32).toNatClampNeg r.toInt64)])) (by rw [mo_sel0 hco]) rfl (Nat.le_of_ble_eq_true rfl) (Nat.le_of_ble_eq_true rfl) ⟨hco.symm, fun _ => by rw [wh_upd0]; rw [hr]⟩
set_option maxRecDepth 100000 in
set_option maxHeartbeats 4000000 in
theorem ct_L_sendOn (l : Launch) (hl : l.stackTraces = false) (D : va_G) (cI cZ cL : ClassId) (ad : Nat → Nat) (o : Nat) {K T : Nat} (M : MT) (b x : Int32) (g : Nat → Int64) (hI : MI K T M) (hK4 : K + 4 ≤ 2048) : bh_Wi l D (wh_tys cI cZ cL) yL_sendOn wsL_sendOn ({ frames := 8, cells := 1, slots := 6, locals := 133 } : Room) [.ref (ad 0), .int b, .int x, .ref o] (wh_hall cI cZ ad M ++ [wh_out cL o g]) (fun (r : Int32) (g9 : Nat → Int64) => r = co_send M b x ∧ (co_send M b x = 0 → g9 0 = (mq_pl (mo_route (mo_snd M b.toNatClampNeg x) b.toNatClampNeg) b.toNatClampNeg).toInt64)) (fun g9 => (wh_hall cI cZ ad (mo_sel (co_send M b x) (mo_route (mo_snd M b.toNatClampNeg x) b.toNatClampNeg) M) ++ [wh_out cL o g9])) 1 6 := by
  refine bh_ofWi (cc := cL_sendOn) (maxL := 5) (by decide +kernel) rfl (Nat.le_of_ble_eq_true rfl) ?_
  intro p e s m args below meth c A Q C hQ hE htab
  refine bh_eqlv (lv' := [(0, .ref (ad 0)), (1, .int b), (2, .int x), (3, .ref o)]) rfl ?_
  refine bh_aload_n C dL_sendOn_0 rfl 3 rfl ?_
  refine bh_iconst (v := 0) C dL_sendOn_1 (by decide) ?_
  refine bh_aload_n C dL_sendOn_2 rfl 0 rfl ?_
  refine bh_iload_n C dL_sendOn_3 rfl 1 rfl ?_
  refine bh_iload_n C dL_sendOn_4 rfl 2 rfl ?_
  refine bh_wcalli (As := [.int b, .int x]) C hE (ct_X0_sendOn l hl D cI cZ cL ad M b x hI hK4) (cwV 2 C.1.2.2.2.2 gL_sendOn_X0_sendOn rfl rfl rfl (by decide +kernel) ⟨Nat.le_of_ble_eq_true rfl, Nat.le_of_ble_eq_true rfl⟩) (ci := 0) rfl 0 rfl rfl rfl (Nat.le_of_ble_eq_true rfl) dL_sendOn_5 ⟨Nat.le_of_ble_eq_true rfl, Nat.le_of_ble_eq_true rfl⟩ (fun E hp => ?_) (fun r u hp => ?_)
  · rcases hp with ⟨rfl, hco⟩ | ⟨rfl, hco⟩
    · refine bh_catch C hE htab (E := xe_I) (name := xe_I) [] ⟨0, 10, 13, 21⟩ [⟨0, 10, 17, 15⟩] rfl (fun z hz => absurd hz List.not_mem_nil) (by decide) (by decide) (by decide +kernel) (by decide) (fun q9 => ?_)
      refine bh_astore (lv' := [(4, .ref q9), (0, .ref (ad 0)), (1, .int b), (2, .int x), (3, .ref o)]) C dL_sendOn_13 (by decide) rfl ?_
      refine bh_iconst (v := 1) C dL_sendOn_15 (by decide) ?_
      exact bh_zret C hQ dL_sendOn_16 g (v := 1) (w := (wh_hall cI cZ ad M ++ [wh_out cL o g])) (by rw [mo_sel1 hco (by decide)]) rfl (Nat.le_of_ble_eq_true rfl) (Nat.le_of_ble_eq_true rfl) ⟨hco.symm, fun z => absurd (z.symm.trans hco) (by decide)⟩
    · refine bh_catch C hE htab (E := xe_S) (name := xe_S) [⟨0, 10, 13, 21⟩] ⟨0, 10, 17, 15⟩ [] rfl (fun z hz => by rw [List.mem_singleton.mp hz]; exact ⟨by decide, xe_I, by decide +kernel, by decide⟩) (by decide) (by decide) (by decide +kernel) (by decide) (fun q9 => ?_)
      refine bh_astore (lv' := [(4, .ref q9), (0, .ref (ad 0)), (1, .int b), (2, .int x), (3, .ref o)]) C dL_sendOn_17 (by decide) rfl ?_
      refine bh_iconst (v := 2) C dL_sendOn_19 (by decide) ?_
      exact bh_zret C hQ dL_sendOn_20 g (v := 2) (w := (wh_hall cI cZ ad M ++ [wh_out cL o g])) (by rw [mo_sel1 hco (by decide)]) rfl (Nat.le_of_ble_eq_true rfl) (Nat.le_of_ble_eq_true rfl) ⟨hco.symm, fun z => absurd (z.symm.trans hco) (by decide)⟩
  · have hco := hp.1
    have hr := hp.2
    refine bh_i2l C dL_sendOn_8 rfl ?_
    refine bh_last (w' := (wh_hall cI cZ ad (mo_route (mo_snd M b.toNatClampNeg x) b.toNatClampNeg) ++ [wh_out cL o (vp_updL g (0 : Int32).toNatClampNeg r.toInt64)])) C 14 2 (f := g) rfl rfl (vp_in_nI (n := 0) (by decide) (by decide)) dL_sendOn_9 rfl ?_
    refine bh_goto (tgt := 21) C dL_sendOn_10 (by decide) ?_
    refine bh_iconst (v := 0) C dL_sendOn_21 (by decide) ?_
    exact bh_zret C hQ dL_sendOn_22 (vp_updL g (0 : Int32).toNatClampNeg r.toInt64) (v := 0) (w := (wh_hall cI cZ ad (mo_route (mo_snd M b.toNatClampNeg x) b.toNatClampNeg) ++ [wh_out cL o (vp_updL g (0 : Int32).toNatClampNeg r.toInt64)])) (by rw [mo_sel0 hco]) rfl (Nat.le_of_ble_eq_true rfl) (Nat.le_of_ble_eq_true rfl) ⟨hco.symm, fun _ => by rw [wh_upd0]; rw [hr]⟩
set_option maxRecDepth 100000 in
set_option maxHeartbeats 4000000 in
theorem ct_L_placeOf (l : Launch) (hl : l.stackTraces = false) (D : va_G) (cI cZ cL : ClassId) (ad : Nat → Nat) (o : Nat) {K T : Nat} (M : MT) (b : Int32) (g : Nat → Int64) (hI : MI K T M) : bh_Wi l D (wh_tys cI cZ cL) yL_placeOf wsL_placeOf ({ frames := 8, cells := 1, slots := 6, locals := 132 } : Room) [.ref (ad 0), .int b, .ref o] (wh_hall cI cZ ad M ++ [wh_out cL o g]) (fun (r : Int32) (g9 : Nat → Int64) => r = co_in b (mq_bc M) ∧ (co_in b (mq_bc M) = 0 → g9 0 = (mq_pl M b.toNatClampNeg).toInt64)) (fun g9 => (wh_hall cI cZ ad M ++ [wh_out cL o g9])) 1 6 := by
  refine bh_ofWi (cc := cL_placeOf) (maxL := 4) (by decide +kernel) rfl (Nat.le_of_ble_eq_true rfl) ?_
  intro p e s m args below meth c A Q C hQ hE htab
  refine bh_eqlv (lv' := [(0, .ref (ad 0)), (1, .int b), (2, .ref o)]) rfl ?_
  refine bh_aload_n C dL_placeOf_0 rfl 2 rfl ?_
  refine bh_iconst (v := 0) C dL_placeOf_1 (by decide) ?_
  refine bh_aload_n C dL_placeOf_2 rfl 0 rfl ?_
  refine bh_iload_n C dL_placeOf_3 rfl 1 rfl ?_
  refine bh_wcalli (As := [.int b]) C hE (ct_X0_placeOf l hl D cI cZ cL ad M b hI) (cwV 1 C.1.2.2.2.2 gL_placeOf_X0_placeOf rfl rfl rfl (by decide +kernel) ⟨Nat.le_of_ble_eq_true rfl, Nat.le_of_ble_eq_true rfl⟩) (ci := 0) rfl 0 rfl rfl rfl (Nat.le_of_ble_eq_true rfl) dL_placeOf_4 ⟨Nat.le_of_ble_eq_true rfl, Nat.le_of_ble_eq_true rfl⟩ (fun E hp => ?_) (fun r u hp => ?_)
  · rcases hp with ⟨rfl, hco⟩ | ⟨rfl, hco⟩
    · refine bh_catch C hE htab (E := xe_I) (name := xe_I) [] ⟨0, 9, 12, 21⟩ [] rfl (fun z hz => absurd hz List.not_mem_nil) (by decide) (by decide) (by decide +kernel) (by decide) (fun q9 => ?_)
      refine bh_astore_n (lv' := [(3, .ref q9), (0, .ref (ad 0)), (1, .int b), (2, .ref o)]) C dL_placeOf_12 rfl (by decide) rfl ?_
      refine bh_iconst (v := 1) C dL_placeOf_13 (by decide) ?_
      exact bh_zret C hQ dL_placeOf_14 g (v := 1) (w := (wh_hall cI cZ ad M ++ [wh_out cL o g])) rfl rfl (Nat.le_of_ble_eq_true rfl) (Nat.le_of_ble_eq_true rfl) ⟨hco.symm, fun z => absurd (z.symm.trans hco) (by decide)⟩
    · exact absurd (co_in_2 hco) id
  · have hco := hp.1
    have hr := hp.2
    refine bh_i2l C dL_placeOf_7 rfl ?_
    refine bh_last (w' := (wh_hall cI cZ ad M ++ [wh_out cL o (vp_updL g (0 : Int32).toNatClampNeg r.toInt64)])) C 14 2 (f := g) rfl rfl (vp_in_nI (n := 0) (by decide) (by decide)) dL_placeOf_8 rfl ?_
    refine bh_goto (tgt := 15) C dL_placeOf_9 (by decide) ?_
    refine bh_iconst (v := 0) C dL_placeOf_15 (by decide) ?_
    exact bh_zret C hQ dL_placeOf_16 (vp_updL g (0 : Int32).toNatClampNeg r.toInt64) (v := 0) (w := (wh_hall cI cZ ad M ++ [wh_out cL o (vp_updL g (0 : Int32).toNatClampNeg r.toInt64)])) rfl rfl (Nat.le_of_ble_eq_true rfl) (Nat.le_of_ble_eq_true rfl) ⟨hco.symm, fun _ => by rw [wh_upd0]; rw [hr]⟩
set_option maxRecDepth 100000 in
set_option maxHeartbeats 4000000 in
theorem ct_L_placeByScans (l : Launch) (hl : l.stackTraces = false) (D : va_G) (cI cZ cL : ClassId) (ad : Nat → Nat) (o : Nat) {K T : Nat} (M : MT) (b t : Int32) (g : Nat → Int64) (hI : MI K T M) : bh_Wi l D (wh_tys cI cZ cL) yL_placeByScans wsL_placeByScans ({ frames := 8, cells := 1, slots := 6, locals := 134 } : Room) [.ref (ad 0), .int b, .int t, .ref o] (wh_hall cI cZ ad M ++ [wh_out cL o g]) (fun (r : Int32) (g9 : Nat → Int64) => r = co_pbs M b t ∧ (co_pbs M b t = 0 → g9 0 = (mo_pbs M b t (mq_sc M)).toInt64)) (fun g9 => (wh_hall cI cZ ad M ++ [wh_out cL o g9])) 1 6 := by
  refine bh_ofWi (cc := cL_placeByScans) (maxL := 5) (by decide +kernel) rfl (Nat.le_of_ble_eq_true rfl) ?_
  intro p e s m args below meth c A Q C hQ hE htab
  refine bh_eqlv (lv' := [(0, .ref (ad 0)), (1, .int b), (2, .int t), (3, .ref o)]) rfl ?_
  refine bh_aload_n C dL_placeByScans_0 rfl 3 rfl ?_
  refine bh_iconst (v := 0) C dL_placeByScans_1 (by decide) ?_
  refine bh_aload_n C dL_placeByScans_2 rfl 0 rfl ?_
  refine bh_iload_n C dL_placeByScans_3 rfl 1 rfl ?_
  refine bh_iload_n C dL_placeByScans_4 rfl 2 rfl ?_
  refine bh_wcalli (As := [.int b, .int t]) C hE (ct_X0_placeByScans l hl D cI cZ cL ad M b t hI) (cwV 2 C.1.2.2.2.2 gL_placeByScans_X0_placeByScans rfl rfl rfl (by decide +kernel) ⟨Nat.le_of_ble_eq_true rfl, Nat.le_of_ble_eq_true rfl⟩) (ci := 0) rfl 0 rfl rfl rfl (Nat.le_of_ble_eq_true rfl) dL_placeByScans_5 ⟨Nat.le_of_ble_eq_true rfl, Nat.le_of_ble_eq_true rfl⟩ (fun E hp => ?_) (fun r u hp => ?_)
  · rcases hp with ⟨rfl, hco⟩ | ⟨rfl, hco⟩
    · refine bh_catch C hE htab (E := xe_I) (name := xe_I) [] ⟨0, 10, 13, 21⟩ [⟨0, 10, 17, 13⟩] rfl (fun z hz => absurd hz List.not_mem_nil) (by decide) (by decide) (by decide +kernel) (by decide) (fun q9 => ?_)
      refine bh_astore (lv' := [(4, .ref q9), (0, .ref (ad 0)), (1, .int b), (2, .int t), (3, .ref o)]) C dL_placeByScans_13 (by decide) rfl ?_
      refine bh_iconst (v := 1) C dL_placeByScans_15 (by decide) ?_
      exact bh_zret C hQ dL_placeByScans_16 g (v := 1) (w := (wh_hall cI cZ ad M ++ [wh_out cL o g])) rfl rfl (Nat.le_of_ble_eq_true rfl) (Nat.le_of_ble_eq_true rfl) ⟨hco.symm, fun z => absurd (z.symm.trans hco) (by decide)⟩
    · refine bh_catch C hE htab (E := xe_A) (name := xe_A) [⟨0, 10, 13, 21⟩] ⟨0, 10, 17, 13⟩ [] rfl (fun z hz => by rw [List.mem_singleton.mp hz]; exact ⟨by decide, xe_I, by decide +kernel, by decide⟩) (by decide) (by decide) (by decide +kernel) (by decide) (fun q9 => ?_)
      refine bh_astore (lv' := [(4, .ref q9), (0, .ref (ad 0)), (1, .int b), (2, .int t), (3, .ref o)]) C dL_placeByScans_17 (by decide) rfl ?_
      refine bh_iconst (v := 2) C dL_placeByScans_19 (by decide) ?_
      exact bh_zret C hQ dL_placeByScans_20 g (v := 2) (w := (wh_hall cI cZ ad M ++ [wh_out cL o g])) rfl rfl (Nat.le_of_ble_eq_true rfl) (Nat.le_of_ble_eq_true rfl) ⟨hco.symm, fun z => absurd (z.symm.trans hco) (by decide)⟩
  · have hco := hp.1
    have hr := hp.2
    refine bh_i2l C dL_placeByScans_8 rfl ?_
    refine bh_last (w' := (wh_hall cI cZ ad M ++ [wh_out cL o (vp_updL g (0 : Int32).toNatClampNeg r.toInt64)])) C 14 2 (f := g) rfl rfl (vp_in_nI (n := 0) (by decide) (by decide)) dL_placeByScans_9 rfl ?_
    refine bh_goto (tgt := 21) C dL_placeByScans_10 (by decide) ?_
    refine bh_iconst (v := 0) C dL_placeByScans_21 (by decide) ?_
    exact bh_zret C hQ dL_placeByScans_22 (vp_updL g (0 : Int32).toNatClampNeg r.toInt64) (v := 0) (w := (wh_hall cI cZ ad M ++ [wh_out cL o (vp_updL g (0 : Int32).toNatClampNeg r.toInt64)])) rfl rfl (Nat.le_of_ble_eq_true rfl) (Nat.le_of_ble_eq_true rfl) ⟨hco.symm, fun _ => by rw [wh_upd0]; rw [hr]⟩
set_option maxRecDepth 100000 in
set_option maxHeartbeats 4000000 in
theorem ct_L_flightOf (l : Launch) (hl : l.stackTraces = false) (D : va_G) (cI cZ cL : ClassId) (ad : Nat → Nat) (o : Nat) {K T : Nat} (M : MT) (b : Int32) (g : Nat → Int64) (hI : MI K T M) : bh_Wi l D (wh_tys cI cZ cL) yL_flightOf wsL_flightOf ({ frames := 8, cells := 1, slots := 6, locals := 132 } : Room) [.ref (ad 0), .int b, .ref o] (wh_hall cI cZ ad M ++ [wh_out cL o g]) (fun (r : Int32) (g9 : Nat → Int64) => r = co_in b (mq_bc M) ∧ (co_in b (mq_bc M) = 0 → g9 0 = (mq_bf M b.toNatClampNeg).toInt64)) (fun g9 => (wh_hall cI cZ ad M ++ [wh_out cL o g9])) 1 6 := by
  refine bh_ofWi (cc := cL_flightOf) (maxL := 4) (by decide +kernel) rfl (Nat.le_of_ble_eq_true rfl) ?_
  intro p e s m args below meth c A Q C hQ hE htab
  refine bh_eqlv (lv' := [(0, .ref (ad 0)), (1, .int b), (2, .ref o)]) rfl ?_
  refine bh_aload_n C dL_flightOf_0 rfl 2 rfl ?_
  refine bh_iconst (v := 0) C dL_flightOf_1 (by decide) ?_
  refine bh_aload_n C dL_flightOf_2 rfl 0 rfl ?_
  refine bh_iload_n C dL_flightOf_3 rfl 1 rfl ?_
  refine bh_wcalli (As := [.int b]) C hE (ct_X0_flightOf l hl D cI cZ cL ad M b hI) (cwV 1 C.1.2.2.2.2 gL_flightOf_X0_flightOf rfl rfl rfl (by decide +kernel) ⟨Nat.le_of_ble_eq_true rfl, Nat.le_of_ble_eq_true rfl⟩) (ci := 0) rfl 0 rfl rfl rfl (Nat.le_of_ble_eq_true rfl) dL_flightOf_4 ⟨Nat.le_of_ble_eq_true rfl, Nat.le_of_ble_eq_true rfl⟩ (fun E hp => ?_) (fun r u hp => ?_)
  · rcases hp with ⟨rfl, hco⟩ | ⟨rfl, hco⟩
    · refine bh_catch C hE htab (E := xe_I) (name := xe_I) [] ⟨0, 9, 12, 21⟩ [] rfl (fun z hz => absurd hz List.not_mem_nil) (by decide) (by decide) (by decide +kernel) (by decide) (fun q9 => ?_)
      refine bh_astore_n (lv' := [(3, .ref q9), (0, .ref (ad 0)), (1, .int b), (2, .ref o)]) C dL_flightOf_12 rfl (by decide) rfl ?_
      refine bh_iconst (v := 1) C dL_flightOf_13 (by decide) ?_
      exact bh_zret C hQ dL_flightOf_14 g (v := 1) (w := (wh_hall cI cZ ad M ++ [wh_out cL o g])) rfl rfl (Nat.le_of_ble_eq_true rfl) (Nat.le_of_ble_eq_true rfl) ⟨hco.symm, fun z => absurd (z.symm.trans hco) (by decide)⟩
    · exact absurd (co_in_2 hco) id
  · have hco := hp.1
    have hr := hp.2
    refine bh_i2l C dL_flightOf_7 rfl ?_
    refine bh_last (w' := (wh_hall cI cZ ad M ++ [wh_out cL o (vp_updL g (0 : Int32).toNatClampNeg r.toInt64)])) C 14 2 (f := g) rfl rfl (vp_in_nI (n := 0) (by decide) (by decide)) dL_flightOf_8 rfl ?_
    refine bh_goto (tgt := 15) C dL_flightOf_9 (by decide) ?_
    refine bh_iconst (v := 0) C dL_flightOf_15 (by decide) ?_
    exact bh_zret C hQ dL_flightOf_16 (vp_updL g (0 : Int32).toNatClampNeg r.toInt64) (v := 0) (w := (wh_hall cI cZ ad M ++ [wh_out cL o (vp_updL g (0 : Int32).toNatClampNeg r.toInt64)])) rfl rfl (Nat.le_of_ble_eq_true rfl) (Nat.le_of_ble_eq_true rfl) ⟨hco.symm, fun _ => by rw [wh_upd0]; rw [hr]⟩
set_option maxRecDepth 100000 in
set_option maxHeartbeats 4000000 in
theorem ct_L_count (l : Launch) (hl : l.stackTraces = false) (D : va_G) (cI cZ cL : ClassId) (ad : Nat → Nat) (o : Nat) {K T : Nat} (M : MT) (x : Int32) (g : Nat → Int64) (hI : MI K T M) : bh_Wi l D (wh_tys cI cZ cL) yL_count wsL_count ({ frames := 7, cells := 1, slots := 6, locals := 111 } : Room) [.ref (ad 0), .int x, .ref o] (wh_hall cI cZ ad M ++ [wh_out cL o g]) (fun (r : Int32) (g9 : Nat → Int64) => r = co_count x ∧ (co_count x = 0 → g9 0 = (nI (mo_cn (fun j => decide (mq_pl M j = x)) (mq_bc M))).toInt64)) (fun g9 => (wh_hall cI cZ ad M ++ [wh_out cL o g9])) 1 6 := by
  refine bh_ofWi (cc := cL_count) (maxL := 4) (by decide +kernel) rfl (Nat.le_of_ble_eq_true rfl) ?_
  intro p e s m args below meth c A Q C hQ hE htab
  refine bh_eqlv (lv' := [(0, .ref (ad 0)), (1, .int x), (2, .ref o)]) rfl ?_
  refine bh_aload_n C dL_count_0 rfl 2 rfl ?_
  refine bh_iconst (v := 0) C dL_count_1 (by decide) ?_
  refine bh_aload_n C dL_count_2 rfl 0 rfl ?_
  refine bh_iload_n C dL_count_3 rfl 1 rfl ?_
  refine bh_wcalli (As := [.int x]) C hE (ct_X0_count l hl D cI cZ cL ad M x hI) (cwV 1 C.1.2.2.2.2 gL_count_X0_count rfl rfl rfl (by decide +kernel) ⟨Nat.le_of_ble_eq_true rfl, Nat.le_of_ble_eq_true rfl⟩) (ci := 0) rfl 0 rfl rfl rfl (Nat.le_of_ble_eq_true rfl) dL_count_4 ⟨Nat.le_of_ble_eq_true rfl, Nat.le_of_ble_eq_true rfl⟩ (fun E hp => ?_) (fun r u hp => ?_)
  · rcases hp with ⟨rfl, hco⟩ | ⟨rfl, hco⟩
    · refine bh_catch C hE htab (E := xe_A) (name := xe_A) [] ⟨0, 9, 12, 13⟩ [] rfl (fun z hz => absurd hz List.not_mem_nil) (by decide) (by decide) (by decide +kernel) (by decide) (fun q9 => ?_)
      refine bh_astore_n (lv' := [(3, .ref q9), (0, .ref (ad 0)), (1, .int x), (2, .ref o)]) C dL_count_12 rfl (by decide) rfl ?_
      refine bh_iconst (v := 1) C dL_count_13 (by decide) ?_
      exact bh_zret C hQ dL_count_14 g (v := 1) (w := (wh_hall cI cZ ad M ++ [wh_out cL o g])) rfl rfl (Nat.le_of_ble_eq_true rfl) (Nat.le_of_ble_eq_true rfl) ⟨hco.symm, fun z => absurd (z.symm.trans hco) (by decide)⟩
    · exact absurd (co_count_2 hco) id
  · have hco := hp.1
    have hr := hp.2
    refine bh_i2l C dL_count_7 rfl ?_
    refine bh_last (w' := (wh_hall cI cZ ad M ++ [wh_out cL o (vp_updL g (0 : Int32).toNatClampNeg r.toInt64)])) C 14 2 (f := g) rfl rfl (vp_in_nI (n := 0) (by decide) (by decide)) dL_count_8 rfl ?_
    refine bh_goto (tgt := 15) C dL_count_9 (by decide) ?_
    refine bh_iconst (v := 0) C dL_count_15 (by decide) ?_
    exact bh_zret C hQ dL_count_16 (vp_updL g (0 : Int32).toNatClampNeg r.toInt64) (v := 0) (w := (wh_hall cI cZ ad M ++ [wh_out cL o (vp_updL g (0 : Int32).toNatClampNeg r.toInt64)])) rfl rfl (Nat.le_of_ble_eq_true rfl) (Nat.le_of_ble_eq_true rfl) ⟨hco.symm, fun _ => by rw [wh_upd0]; rw [hr]⟩
set_option maxRecDepth 100000 in
set_option maxHeartbeats 4000000 in
theorem ct_L_atLateral (l : Launch) (hl : l.stackTraces = false) (D : va_G) (cI cZ cL : ClassId) (ad : Nat → Nat) (o : Nat) {K T : Nat} (M : MT) (x : Int32) (g : Nat → Int64) (hI : MI K T M) : bh_Wi l D (wh_tys cI cZ cL) yL_atLateral wsL_atLateral ({ frames := 7, cells := 1, slots := 6, locals := 113 } : Room) [.ref (ad 0), .int x, .ref o] (wh_hall cI cZ ad M ++ [wh_out cL o g]) (fun (r : Int32) (g9 : Nat → Int64) => r = co_in x 4 ∧ (co_in x 4 = 0 → g9 0 = (nI (mo_atl M x)).toInt64)) (fun g9 => (wh_hall cI cZ ad M ++ [wh_out cL o g9])) 1 6 := by
  refine bh_ofWi (cc := cL_atLateral) (maxL := 4) (by decide +kernel) rfl (Nat.le_of_ble_eq_true rfl) ?_
  intro p e s m args below meth c A Q C hQ hE htab
  refine bh_eqlv (lv' := [(0, .ref (ad 0)), (1, .int x), (2, .ref o)]) rfl ?_
  refine bh_aload_n C dL_atLateral_0 rfl 2 rfl ?_
  refine bh_iconst (v := 0) C dL_atLateral_1 (by decide) ?_
  refine bh_aload_n C dL_atLateral_2 rfl 0 rfl ?_
  refine bh_iload_n C dL_atLateral_3 rfl 1 rfl ?_
  refine bh_wcalli (As := [.int x]) C hE (ct_X0_atLateral l hl D cI cZ cL ad M x hI) (cwV 1 C.1.2.2.2.2 gL_atLateral_X0_atLateral rfl rfl rfl (by decide +kernel) ⟨Nat.le_of_ble_eq_true rfl, Nat.le_of_ble_eq_true rfl⟩) (ci := 0) rfl 0 rfl rfl rfl (Nat.le_of_ble_eq_true rfl) dL_atLateral_4 ⟨Nat.le_of_ble_eq_true rfl, Nat.le_of_ble_eq_true rfl⟩ (fun E hp => ?_) (fun r u hp => ?_)
  · rcases hp with ⟨rfl, hco⟩ | ⟨rfl, hco⟩
    · refine bh_catch C hE htab (E := xe_I) (name := xe_I) [] ⟨0, 9, 12, 21⟩ [] rfl (fun z hz => absurd hz List.not_mem_nil) (by decide) (by decide) (by decide +kernel) (by decide) (fun q9 => ?_)
      refine bh_astore_n (lv' := [(3, .ref q9), (0, .ref (ad 0)), (1, .int x), (2, .ref o)]) C dL_atLateral_12 rfl (by decide) rfl ?_
      refine bh_iconst (v := 1) C dL_atLateral_13 (by decide) ?_
      exact bh_zret C hQ dL_atLateral_14 g (v := 1) (w := (wh_hall cI cZ ad M ++ [wh_out cL o g])) rfl rfl (Nat.le_of_ble_eq_true rfl) (Nat.le_of_ble_eq_true rfl) ⟨hco.symm, fun z => absurd (z.symm.trans hco) (by decide)⟩
    · exact absurd (co_in_2 hco) id
  · have hco := hp.1
    have hr := hp.2
    refine bh_i2l C dL_atLateral_7 rfl ?_
    refine bh_last (w' := (wh_hall cI cZ ad M ++ [wh_out cL o (vp_updL g (0 : Int32).toNatClampNeg r.toInt64)])) C 14 2 (f := g) rfl rfl (vp_in_nI (n := 0) (by decide) (by decide)) dL_atLateral_8 rfl ?_
    refine bh_goto (tgt := 15) C dL_atLateral_9 (by decide) ?_
    refine bh_iconst (v := 0) C dL_atLateral_15 (by decide) ?_
    exact bh_zret C hQ dL_atLateral_16 (vp_updL g (0 : Int32).toNatClampNeg r.toInt64) (v := 0) (w := (wh_hall cI cZ ad M ++ [wh_out cL o (vp_updL g (0 : Int32).toNatClampNeg r.toInt64)])) rfl rfl (Nat.le_of_ble_eq_true rfl) (Nat.le_of_ble_eq_true rfl) ⟨hco.symm, fun _ => by rw [wh_upd0]; rw [hr]⟩
set_option maxRecDepth 100000 in
set_option maxHeartbeats 4000000 in
theorem ct_L_unmatched (l : Launch) (hl : l.stackTraces = false) (D : va_G) (cI cZ cL : ClassId) (ad : Nat → Nat) (o : Nat) {K T : Nat} (M : MT) (x : Int32) (g : Nat → Int64) (hI : MI K T M) : bh_Wi l D (wh_tys cI cZ cL) yL_unmatched wsL_unmatched ({ frames := 8, cells := 1, slots := 6, locals := 134 } : Room) [.ref (ad 0), .int x, .ref o] (wh_hall cI cZ ad M ++ [wh_out cL o g]) (fun (r : Int32) (g9 : Nat → Int64) => r = co_in x (mq_fc M) ∧ (co_in x (mq_fc M) = 0 → g9 0 = (nI (mo_unm M x)).toInt64)) (fun g9 => (wh_hall cI cZ ad M ++ [wh_out cL o g9])) 1 6 := by
  refine bh_ofWi (cc := cL_unmatched) (maxL := 4) (by decide +kernel) rfl (Nat.le_of_ble_eq_true rfl) ?_
  intro p e s m args below meth c A Q C hQ hE htab
  refine bh_eqlv (lv' := [(0, .ref (ad 0)), (1, .int x), (2, .ref o)]) rfl ?_
  refine bh_aload_n C dL_unmatched_0 rfl 2 rfl ?_
  refine bh_iconst (v := 0) C dL_unmatched_1 (by decide) ?_
  refine bh_aload_n C dL_unmatched_2 rfl 0 rfl ?_
  refine bh_iload_n C dL_unmatched_3 rfl 1 rfl ?_
  refine bh_wcalli (As := [.int x]) C hE (ct_X0_unmatched l hl D cI cZ cL ad M x hI) (cwV 1 C.1.2.2.2.2 gL_unmatched_X0_unmatched rfl rfl rfl (by decide +kernel) ⟨Nat.le_of_ble_eq_true rfl, Nat.le_of_ble_eq_true rfl⟩) (ci := 0) rfl 0 rfl rfl rfl (Nat.le_of_ble_eq_true rfl) dL_unmatched_4 ⟨Nat.le_of_ble_eq_true rfl, Nat.le_of_ble_eq_true rfl⟩ (fun E hp => ?_) (fun r u hp => ?_)
  · rcases hp with ⟨rfl, hco⟩ | ⟨rfl, hco⟩
    · refine bh_catch C hE htab (E := xe_I) (name := xe_I) [] ⟨0, 9, 12, 21⟩ [] rfl (fun z hz => absurd hz List.not_mem_nil) (by decide) (by decide) (by decide +kernel) (by decide) (fun q9 => ?_)
      refine bh_astore_n (lv' := [(3, .ref q9), (0, .ref (ad 0)), (1, .int x), (2, .ref o)]) C dL_unmatched_12 rfl (by decide) rfl ?_
      refine bh_iconst (v := 1) C dL_unmatched_13 (by decide) ?_
      exact bh_zret C hQ dL_unmatched_14 g (v := 1) (w := (wh_hall cI cZ ad M ++ [wh_out cL o g])) rfl rfl (Nat.le_of_ble_eq_true rfl) (Nat.le_of_ble_eq_true rfl) ⟨hco.symm, fun z => absurd (z.symm.trans hco) (by decide)⟩
    · exact absurd (co_in_2 hco) id
  · have hco := hp.1
    have hr := hp.2
    refine bh_i2l C dL_unmatched_7 rfl ?_
    refine bh_last (w' := (wh_hall cI cZ ad M ++ [wh_out cL o (vp_updL g (0 : Int32).toNatClampNeg r.toInt64)])) C 14 2 (f := g) rfl rfl (vp_in_nI (n := 0) (by decide) (by decide)) dL_unmatched_8 rfl ?_
    refine bh_goto (tgt := 15) C dL_unmatched_9 (by decide) ?_
    refine bh_iconst (v := 0) C dL_unmatched_15 (by decide) ?_
    exact bh_zret C hQ dL_unmatched_16 (vp_updL g (0 : Int32).toNatClampNeg r.toInt64) (v := 0) (w := (wh_hall cI cZ ad M ++ [wh_out cL o (vp_updL g (0 : Int32).toNatClampNeg r.toInt64)])) rfl rfl (Nat.le_of_ble_eq_true rfl) (Nat.le_of_ble_eq_true rfl) ⟨hco.symm, fun _ => by rw [wh_upd0]; rw [hr]⟩
set_option maxRecDepth 100000 in
set_option maxHeartbeats 4000000 in
theorem ct_L_untilClose (l : Launch) (hl : l.stackTraces = false) (D : va_G) (cI cZ cL : ClassId) (ad : Nat → Nat) (o : Nat) {K T : Nat} (M : MT) (x : Int32) (g : Nat → Int64) (hI : MI K T M) : bh_Wi l D (wh_tys cI cZ cL) yL_untilClose wsL_untilClose ({ frames := 8, cells := 1, slots := 6, locals := 132 } : Room) [.ref (ad 0), .int x, .ref o] (wh_hall cI cZ ad M ++ [wh_out cL o g]) (fun (r : Int32) (g9 : Nat → Int64) => r = co_in x (mq_fc M) ∧ (co_in x (mq_fc M) = 0 → g9 0 = ((if 0 < mq_dep M x.toNatClampNeg - 10 - nI (mq_now M) then mq_dep M x.toNatClampNeg - 10 - nI (mq_now M) else 0)).toInt64)) (fun g9 => (wh_hall cI cZ ad M ++ [wh_out cL o g9])) 1 6 := by
  refine bh_ofWi (cc := cL_untilClose) (maxL := 4) (by decide +kernel) rfl (Nat.le_of_ble_eq_true rfl) ?_
  intro p e s m args below meth c A Q C hQ hE htab
  refine bh_eqlv (lv' := [(0, .ref (ad 0)), (1, .int x), (2, .ref o)]) rfl ?_
  refine bh_aload_n C dL_untilClose_0 rfl 2 rfl ?_
  refine bh_iconst (v := 0) C dL_untilClose_1 (by decide) ?_
  refine bh_aload_n C dL_untilClose_2 rfl 0 rfl ?_
  refine bh_iload_n C dL_untilClose_3 rfl 1 rfl ?_
  refine bh_wcalli (As := [.int x]) C hE (ct_X0_untilClose l hl D cI cZ cL ad M x hI) (cwV 1 C.1.2.2.2.2 gL_untilClose_X0_untilClose rfl rfl rfl (by decide +kernel) ⟨Nat.le_of_ble_eq_true rfl, Nat.le_of_ble_eq_true rfl⟩) (ci := 0) rfl 0 rfl rfl rfl (Nat.le_of_ble_eq_true rfl) dL_untilClose_4 ⟨Nat.le_of_ble_eq_true rfl, Nat.le_of_ble_eq_true rfl⟩ (fun E hp => ?_) (fun r u hp => ?_)
  · rcases hp with ⟨rfl, hco⟩ | ⟨rfl, hco⟩
    · refine bh_catch C hE htab (E := xe_I) (name := xe_I) [] ⟨0, 9, 12, 21⟩ [] rfl (fun z hz => absurd hz List.not_mem_nil) (by decide) (by decide) (by decide +kernel) (by decide) (fun q9 => ?_)
      refine bh_astore_n (lv' := [(3, .ref q9), (0, .ref (ad 0)), (1, .int x), (2, .ref o)]) C dL_untilClose_12 rfl (by decide) rfl ?_
      refine bh_iconst (v := 1) C dL_untilClose_13 (by decide) ?_
      exact bh_zret C hQ dL_untilClose_14 g (v := 1) (w := (wh_hall cI cZ ad M ++ [wh_out cL o g])) rfl rfl (Nat.le_of_ble_eq_true rfl) (Nat.le_of_ble_eq_true rfl) ⟨hco.symm, fun z => absurd (z.symm.trans hco) (by decide)⟩
    · exact absurd (co_in_2 hco) id
  · have hco := hp.1
    have hr := hp.2
    refine bh_i2l C dL_untilClose_7 rfl ?_
    refine bh_last (w' := (wh_hall cI cZ ad M ++ [wh_out cL o (vp_updL g (0 : Int32).toNatClampNeg r.toInt64)])) C 14 2 (f := g) rfl rfl (vp_in_nI (n := 0) (by decide) (by decide)) dL_untilClose_8 rfl ?_
    refine bh_goto (tgt := 15) C dL_untilClose_9 (by decide) ?_
    refine bh_iconst (v := 0) C dL_untilClose_15 (by decide) ?_
    exact bh_zret C hQ dL_untilClose_16 (vp_updL g (0 : Int32).toNatClampNeg r.toInt64) (v := 0) (w := (wh_hall cI cZ ad M ++ [wh_out cL o (vp_updL g (0 : Int32).toNatClampNeg r.toInt64)])) rfl rfl (Nat.le_of_ble_eq_true rfl) (Nat.le_of_ble_eq_true rfl) ⟨hco.symm, fun _ => by rw [wh_upd0]; rw [hr]⟩
set_option maxRecDepth 100000 in
set_option maxHeartbeats 4000000 in
theorem ct_L_bagOfScan (l : Launch) (hl : l.stackTraces = false) (D : va_G) (cI cZ cL : ClassId) (ad : Nat → Nat) (o : Nat) {K T : Nat} (M : MT) (x : Int32) (g : Nat → Int64) (hI : MI K T M) : bh_Wi l D (wh_tys cI cZ cL) yL_bagOfScan wsL_bagOfScan ({ frames := 8, cells := 1, slots := 6, locals := 132 } : Room) [.ref (ad 0), .int x, .ref o] (wh_hall cI cZ ad M ++ [wh_out cL o g]) (fun (r : Int32) (g9 : Nat → Int64) => r = co_in x (mq_sc M) ∧ (co_in x (mq_sc M) = 0 → g9 0 = (mq_sb M x.toNatClampNeg).toInt64)) (fun g9 => (wh_hall cI cZ ad M ++ [wh_out cL o g9])) 1 6 := by
  refine bh_ofWi (cc := cL_bagOfScan) (maxL := 4) (by decide +kernel) rfl (Nat.le_of_ble_eq_true rfl) ?_
  intro p e s m args below meth c A Q C hQ hE htab
  refine bh_eqlv (lv' := [(0, .ref (ad 0)), (1, .int x), (2, .ref o)]) rfl ?_
  refine bh_aload_n C dL_bagOfScan_0 rfl 2 rfl ?_
  refine bh_iconst (v := 0) C dL_bagOfScan_1 (by decide) ?_
  refine bh_aload_n C dL_bagOfScan_2 rfl 0 rfl ?_
  refine bh_iload_n C dL_bagOfScan_3 rfl 1 rfl ?_
  refine bh_wcalli (As := [.int x]) C hE (ct_X0_bagOfScan l hl D cI cZ cL ad M x hI) (cwV 1 C.1.2.2.2.2 gL_bagOfScan_X0_bagOfScan rfl rfl rfl (by decide +kernel) ⟨Nat.le_of_ble_eq_true rfl, Nat.le_of_ble_eq_true rfl⟩) (ci := 0) rfl 0 rfl rfl rfl (Nat.le_of_ble_eq_true rfl) dL_bagOfScan_4 ⟨Nat.le_of_ble_eq_true rfl, Nat.le_of_ble_eq_true rfl⟩ (fun E hp => ?_) (fun r u hp => ?_)
  · rcases hp with ⟨rfl, hco⟩ | ⟨rfl, hco⟩
    · refine bh_catch C hE htab (E := xe_I) (name := xe_I) [] ⟨0, 9, 12, 21⟩ [] rfl (fun z hz => absurd hz List.not_mem_nil) (by decide) (by decide) (by decide +kernel) (by decide) (fun q9 => ?_)
      refine bh_astore_n (lv' := [(3, .ref q9), (0, .ref (ad 0)), (1, .int x), (2, .ref o)]) C dL_bagOfScan_12 rfl (by decide) rfl ?_
      refine bh_iconst (v := 1) C dL_bagOfScan_13 (by decide) ?_
      exact bh_zret C hQ dL_bagOfScan_14 g (v := 1) (w := (wh_hall cI cZ ad M ++ [wh_out cL o g])) rfl rfl (Nat.le_of_ble_eq_true rfl) (Nat.le_of_ble_eq_true rfl) ⟨hco.symm, fun z => absurd (z.symm.trans hco) (by decide)⟩
    · exact absurd (co_in_2 hco) id
  · have hco := hp.1
    have hr := hp.2
    refine bh_i2l C dL_bagOfScan_7 rfl ?_
    refine bh_last (w' := (wh_hall cI cZ ad M ++ [wh_out cL o (vp_updL g (0 : Int32).toNatClampNeg r.toInt64)])) C 14 2 (f := g) rfl rfl (vp_in_nI (n := 0) (by decide) (by decide)) dL_bagOfScan_8 rfl ?_
    refine bh_goto (tgt := 15) C dL_bagOfScan_9 (by decide) ?_
    refine bh_iconst (v := 0) C dL_bagOfScan_15 (by decide) ?_
    exact bh_zret C hQ dL_bagOfScan_16 (vp_updL g (0 : Int32).toNatClampNeg r.toInt64) (v := 0) (w := (wh_hall cI cZ ad M ++ [wh_out cL o (vp_updL g (0 : Int32).toNatClampNeg r.toInt64)])) rfl rfl (Nat.le_of_ble_eq_true rfl) (Nat.le_of_ble_eq_true rfl) ⟨hco.symm, fun _ => by rw [wh_upd0]; rw [hr]⟩
set_option maxRecDepth 100000 in
set_option maxHeartbeats 4000000 in
theorem ct_L_placeOfScan (l : Launch) (hl : l.stackTraces = false) (D : va_G) (cI cZ cL : ClassId) (ad : Nat → Nat) (o : Nat) {K T : Nat} (M : MT) (x : Int32) (g : Nat → Int64) (hI : MI K T M) : bh_Wi l D (wh_tys cI cZ cL) yL_placeOfScan wsL_placeOfScan ({ frames := 8, cells := 1, slots := 6, locals := 132 } : Room) [.ref (ad 0), .int x, .ref o] (wh_hall cI cZ ad M ++ [wh_out cL o g]) (fun (r : Int32) (g9 : Nat → Int64) => r = co_in x (mq_sc M) ∧ (co_in x (mq_sc M) = 0 → g9 0 = (mq_sp M x.toNatClampNeg).toInt64)) (fun g9 => (wh_hall cI cZ ad M ++ [wh_out cL o g9])) 1 6 := by
  refine bh_ofWi (cc := cL_placeOfScan) (maxL := 4) (by decide +kernel) rfl (Nat.le_of_ble_eq_true rfl) ?_
  intro p e s m args below meth c A Q C hQ hE htab
  refine bh_eqlv (lv' := [(0, .ref (ad 0)), (1, .int x), (2, .ref o)]) rfl ?_
  refine bh_aload_n C dL_placeOfScan_0 rfl 2 rfl ?_
  refine bh_iconst (v := 0) C dL_placeOfScan_1 (by decide) ?_
  refine bh_aload_n C dL_placeOfScan_2 rfl 0 rfl ?_
  refine bh_iload_n C dL_placeOfScan_3 rfl 1 rfl ?_
  refine bh_wcalli (As := [.int x]) C hE (ct_X0_placeOfScan l hl D cI cZ cL ad M x hI) (cwV 1 C.1.2.2.2.2 gL_placeOfScan_X0_placeOfScan rfl rfl rfl (by decide +kernel) ⟨Nat.le_of_ble_eq_true rfl, Nat.le_of_ble_eq_true rfl⟩) (ci := 0) rfl 0 rfl rfl rfl (Nat.le_of_ble_eq_true rfl) dL_placeOfScan_4 ⟨Nat.le_of_ble_eq_true rfl, Nat.le_of_ble_eq_true rfl⟩ (fun E hp => ?_) (fun r u hp => ?_)
  · rcases hp with ⟨rfl, hco⟩ | ⟨rfl, hco⟩
    · refine bh_catch C hE htab (E := xe_I) (name := xe_I) [] ⟨0, 9, 12, 21⟩ [] rfl (fun z hz => absurd hz List.not_mem_nil) (by decide) (by decide) (by decide +kernel) (by decide) (fun q9 => ?_)
      refine bh_astore_n (lv' := [(3, .ref q9), (0, .ref (ad 0)), (1, .int x), (2, .ref o)]) C dL_placeOfScan_12 rfl (by decide) rfl ?_
      refine bh_iconst (v := 1) C dL_placeOfScan_13 (by decide) ?_
      exact bh_zret C hQ dL_placeOfScan_14 g (v := 1) (w := (wh_hall cI cZ ad M ++ [wh_out cL o g])) rfl rfl (Nat.le_of_ble_eq_true rfl) (Nat.le_of_ble_eq_true rfl) ⟨hco.symm, fun z => absurd (z.symm.trans hco) (by decide)⟩
    · exact absurd (co_in_2 hco) id
  · have hco := hp.1
    have hr := hp.2
    refine bh_i2l C dL_placeOfScan_7 rfl ?_
    refine bh_last (w' := (wh_hall cI cZ ad M ++ [wh_out cL o (vp_updL g (0 : Int32).toNatClampNeg r.toInt64)])) C 14 2 (f := g) rfl rfl (vp_in_nI (n := 0) (by decide) (by decide)) dL_placeOfScan_8 rfl ?_
    refine bh_goto (tgt := 15) C dL_placeOfScan_9 (by decide) ?_
    refine bh_iconst (v := 0) C dL_placeOfScan_15 (by decide) ?_
    exact bh_zret C hQ dL_placeOfScan_16 (vp_updL g (0 : Int32).toNatClampNeg r.toInt64) (v := 0) (w := (wh_hall cI cZ ad M ++ [wh_out cL o (vp_updL g (0 : Int32).toNatClampNeg r.toInt64)])) rfl rfl (Nat.le_of_ble_eq_true rfl) (Nat.le_of_ble_eq_true rfl) ⟨hco.symm, fun _ => by rw [wh_upd0]; rw [hr]⟩
