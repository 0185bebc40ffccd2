section
variable {K T : Nat} {M : MT}
theorem MI_bcb (h : MI K T M) : mq_bc M < 2 ^ 31 := by
  have := MI_bc h
  omega
theorem MI_fcb (h : MI K T M) : mq_fc M < 2 ^ 31 := by
  have := MI_fc h
  omega
theorem MI_scb (h : MI K T M) : mq_sc M < 2 ^ 31 := by
  have := MI_sc h
  omega
theorem co_count0 {k : Nat} (h : k < 11) : co_count (nI (k + 1)) = 0 := by
  refine if_neg ?_
  intro z
  rcases z with z | z
  · have := (nI_ltI (a := k + 1) (b := 1) (by omega) (by decide)).mp z
    omega
  · have := (nI_ltI (a := 11) (b := k + 1) (by decide) (by omega)).mp z
    omega
theorem uc_ok (x : Int32) : ¬ (if 0 < x then x else 0) < 0 := by
  by_cases h : 0 < x
  · rw [if_pos h]
    exact fun z => absurd (Int32.lt_trans h z) (by decide)
  · rw [if_neg h]; decide
theorem lat_ge {x : Int32} (h : x = -1 ∨ vp_in x 4) : ¬ x < -1 := by
  rcases h with h | h
  · rw [h]; decide
  · obtain ⟨j, hj, rfl⟩ := vp_in_of h (by decide)
    rw [Int32.lt_iff_toInt_lt, nI_toInt (by omega), show (-1 : Int32).toInt = -1 from by decide]
    omega
theorem lat_le {x : Int32} (h : x = -1 ∨ vp_in x 4) : ¬ 3 < x := by
  rcases h with h | h
  · rw [h]; decide
  · obtain ⟨j, hj, rfl⟩ := vp_in_of h (by decide)
    exact fun z => by
      have := (nI_ltI (a := 3) (b := j) (by decide) (by omega)).mp z
      omega
theorem pl_ge {x : Int32} (h : vp_in x 12) (h0 : x ≠ 0) : ¬ x < 1 := by
  obtain ⟨j, hj, rfl⟩ := vp_in_of h (by decide)
  intro z
  have := (nI_ltI (a := j) (b := 1) (by omega) (by decide)).mp z
  exact h0 (by rw [show j = 0 by omega]; rfl)
theorem pl_le {x : Int32} (h : vp_in x 12) : ¬ 11 < x := by
  obtain ⟨j, hj, rfl⟩ := vp_in_of h (by decide)
  intro z
  have := (nI_ltI (a := 11) (b := j) (by decide) (by omega)).mp z
  omega
theorem vp_ge {x : Int32} {n : Nat} (h : vp_in x n) (hn : n < 2 ^ 31) : ¬ x < 0 := by
  obtain ⟨j, hj, rfl⟩ := vp_in_of h hn
  exact nI_pos (by omega)
theorem vp_lt {x : Int32} {n : Nat} (h : vp_in x n) (hn : n < 2 ^ 31) : ¬ nI n ≤ x := by
  obtain ⟨j, hj, rfl⟩ := vp_in_of h hn
  intro z
  have := (nI_leI hn (by omega)).mp z
  omega
theorem unm_le (M : MT) (x : Int32) : mo_unm M x ≤ mq_bc M := mo_cn_le _ _
theorem at5_le (h : PX K T M) : mo_cn (fun j => decide (mq_pl M j = 5)) (mq_bc M) ≤ 8 := by
  rw [cn_at h (by decide)]
  exact h.2.2.1
end
set_option maxRecDepth 100000 in
set_option maxHeartbeats 4000000 in
theorem ct_L_holds (l : Launch) (hl : l.stackTraces = false) (D : va_G) (cI cZ cL : ClassId) (ad : Nat → Nat) {K T : Nat} (M : MT)  (hP : PX K T M) : bh_Xi l D (wh_tys cI cZ cL) yL_holds wsL_holds ({ frames := 8, cells := 1, slots := 6, locals := 134 } : Room) [.ref (ad 0), .int (nI (mq_fc M))] (wh_hall cI cZ ad M) (fun r (_ : Unit) => r = 1) (fun _ => wh_hall cI cZ ad M) (fun _ => False) 1 6 := by
  refine bh_ofXi (cc := cL_holds) (maxL := 7) (by decide +kernel) rfl (Nat.le_of_ble_eq_true rfl) ?_
  intro p e s m args below meth c A Q C hQ hE hno
  refine bh_eqlv (lv' := [(0, .ref (ad 0)), (1, .int (nI (mq_fc M)))]) rfl ?_
  have hbc := MI_bc hP.1; have hfc := MI_fc hP.1; have hsc := MI_sc hP.1; have hnow := MI_now2 hP.1
  refine bh_iconst (v := 0) C dL_holds_0 (by decide) ?_
  refine bh_istore_n (lv' := [(2, .int 0), (0, .ref (ad 0)), (1, .int (nI (mq_fc M)))]) C dL_holds_1 rfl (by decide) rfl ?_
  refine bh_iconst (v := 1) C dL_holds_2 (by decide) ?_
  refine bh_istore_n (lv' := [(3, .int 1), (2, .int 0), (0, .ref (ad 0)), (1, .int (nI (mq_fc M)))]) C dL_holds_3 rfl (by decide) rfl ?_
  refine bh_iconst (v := 1) C dL_holds_4 (by decide) ?_
  refine bh_istore (lv' := [(4, .int 1), (3, .int 1), (2, .int 0), (0, .ref (ad 0)), (1, .int (nI (mq_fc M)))]) C dL_holds_5 (by decide) rfl ?_
  have loop1 : ∀ (n : Nat) (k : Nat), 12 ≤ k + n → k ≤ 11 → bh_W p l e ({ frames := 8, cells := 1, slots := 6, locals := 134 } : Room) s m args below meth c 7 D A 0 0 Q (wh_hall cI cZ ad M) ([(4, .int (nI (k + 1))), (0, .ref (ad 0)), (1, .int (nI (mq_fc M))), (2, .int (nI (mo_sum (fun i => mo_cn (fun j => decide (mq_pl M j = nI (i + 1))) (mq_bc M)) k))), (3, .int 1)]) 7 [] := by
    intro n
    induction n with
    | zero => intro k h1 h2; exact absurd h1 (by omega)
    | succ n ih =>
      intro k h1 h2
      refine bh_iload C dL_holds_7 0 rfl ?_
      refine bh_bipush (v := 11) C dL_holds_9 (by decide) ?_
      refine bh_icmp_gt (tgt := 29) C dL_holds_11 (by decide) (fun c_11 => ?_) (fun c_11 => ?_)
      · skip
        have c_11 := (nI_ltI (a := 11) (b := k + 1) (by decide) (by omega)).mp c_11
        have hkb : k = 11 := by omega
        subst hkb
        refine bh_lv (lv' := [(0, .ref (ad 0)), (1, .int (nI (mq_fc M))), (2, .int (nI (mo_sum (fun i => mo_cn (fun j => decide (mq_pl M j = nI (i + 1))) (mq_bc M)) 11))), (3, .int 1)]) [1, 2, 3, 4] rfl ?_
        refine bh_eqlv (lv' := [(0, .ref (ad 0)), (1, .int (nI (mq_fc M))), (2, .int (nI (mq_bc M))), (3, .int 1)]) (by rw [sum_places hP]) ?_
        refine bh_iconst (v := 0) C dL_holds_29 (by decide) ?_
        refine bh_istore (lv' := [(4, .int 0), (0, .ref (ad 0)), (1, .int (nI (mq_fc M))), (2, .int (nI (mq_bc M))), (3, .int 1)]) C dL_holds_30 (by decide) rfl ?_
        refine bh_iconst (v := 0) C dL_holds_32 (by decide) ?_
        refine bh_istore (lv' := [(5, .int 0), (4, .int 0), (0, .ref (ad 0)), (1, .int (nI (mq_fc M))), (2, .int (nI (mq_bc M))), (3, .int 1)]) C dL_holds_33 (by decide) rfl ?_
        have loop2 : ∀ (n : Nat) (k2 : Nat), 5 ≤ k2 + n → k2 ≤ 4 → bh_W p l e ({ frames := 8, cells := 1, slots := 6, locals := 134 } : Room) s m args below meth c 7 D A 0 0 Q (wh_hall cI cZ ad M) ([(5, .int (nI k2)), (0, .ref (ad 0)), (1, .int (nI (mq_fc M))), (2, .int (nI (mq_bc M))), (3, .int 1), (4, .int (nI (mo_sum (fun i => mo_atl M (nI i)) k2)))]) 35 [] := by
          intro n
          induction n with
          | zero => intro k2 h1 h2; exact absurd h1 (by omega)
          | succ n ih =>
            intro k2 h1 h2
            refine bh_iload C dL_holds_35 0 rfl ?_
            refine bh_iconst (v := 4) C dL_holds_37 (by decide) ?_
            refine bh_icmp_ge (tgt := 58) C dL_holds_38 (by decide) (fun c_38 => ?_) (fun c_38 => ?_)
            · skip
              have c_38 := bh_le (a := 4) (by decide) (by omega) c_38
              have hkb : k2 = 4 := by omega
              subst hkb
              refine bh_lv (lv' := [(0, .ref (ad 0)), (1, .int (nI (mq_fc M))), (2, .int (nI (mq_bc M))), (3, .int 1), (4, .int (nI (mo_sum (fun i => mo_atl M (nI i)) 4)))]) [1, 2, 3, 4, 5] rfl ?_
              refine bh_eqlv (lv' := [(0, .ref (ad 0)), (1, .int (nI (mq_fc M))), (2, .int (nI (mq_bc M))), (3, .int 1), (4, .int (nI (mo_cn (fun j => decide (mq_pl M j = 7)) (mq_bc M))))]) (by rw [sum_laterals hP]) ?_
              refine bh_iconst (v := 0) C dL_holds_58 (by decide) ?_
              refine bh_istore (lv' := [(5, .int 0), (0, .ref (ad 0)), (1, .int (nI (mq_fc M))), (2, .int (nI (mq_bc M))), (3, .int 1), (4, .int (nI (mo_cn (fun j => decide (mq_pl M j = 7)) (mq_bc M))))]) C dL_holds_59 (by decide) rfl ?_
              refine bh_iconst (v := 0) C dL_holds_61 (by decide) ?_
              refine bh_istore (lv' := [(6, .int 0), (5, .int 0), (0, .ref (ad 0)), (1, .int (nI (mq_fc M))), (2, .int (nI (mq_bc M))), (3, .int 1), (4, .int (nI (mo_cn (fun j => decide (mq_pl M j = 7)) (mq_bc M))))]) C dL_holds_62 (by decide) rfl ?_
              have loop3 : ∀ (n : Nat) (k3 : Nat), mq_fc M + 1 ≤ k3 + n → k3 ≤ mq_fc M → bh_W p l e ({ frames := 8, cells := 1, slots := 6, locals := 134 } : Room) s m args below meth c 7 D A 0 0 Q (wh_hall cI cZ ad M) ([(6, .int (nI k3)), (5, .int (nI (mo_sum (fun i => mo_unm M (nI i)) k3))), (0, .ref (ad 0)), (1, .int (nI (mq_fc M))), (2, .int (nI (mq_bc M))), (3, .int 1), (4, .int (nI (mo_cn (fun j => decide (mq_pl M j = 7)) (mq_bc M))))]) 64 [] := by
                intro n
                induction n with
                | zero => intro k3 h1 h2; exact absurd h1 (by omega)
                | succ n ih =>
                  intro k3 h1 h2
                  refine bh_iload C dL_holds_64 0 rfl ?_
                  refine bh_iload_n C dL_holds_66 rfl 3 rfl ?_
                  refine bh_icmp_ge (tgt := 135) C dL_holds_67 (by decide) (fun c_67 => ?_) (fun c_67 => ?_)
                  · skip
                    have c_67 := bh_le (by omega) (by omega) c_67
                    have hkb : k3 = mq_fc M := by omega
                    subst hkb
                    refine bh_lv (lv' := [(0, .ref (ad 0)), (1, .int (nI (mq_fc M))), (2, .int (nI (mq_bc M))), (3, .int 1), (4, .int (nI (mo_cn (fun j => decide (mq_pl M j = 7)) (mq_bc M)))), (5, .int (nI (mo_sum (fun i => mo_unm M (nI i)) (mq_fc M))))]) [2, 3, 4, 5, 6, 1] rfl ?_
                    refine bh_iconst (v := 0) C dL_holds_135 (by decide) ?_
                    refine bh_istore (lv' := [(6, .int 0), (0, .ref (ad 0)), (1, .int (nI (mq_fc M))), (2, .int (nI (mq_bc M))), (3, .int 1), (4, .int (nI (mo_cn (fun j => decide (mq_pl M j = 7)) (mq_bc M)))), (5, .int (nI (mo_sum (fun i => mo_unm M (nI i)) (mq_fc M))))]) C dL_holds_136 (by decide) rfl ?_
                    have loop4 : ∀ (n : Nat) (k4 : Nat), mq_bc M + 1 ≤ k4 + n → k4 ≤ mq_bc M → bh_W p l e ({ frames := 8, cells := 1, slots := 6, locals := 134 } : Room) s m args below meth c 7 D A 0 0 Q (wh_hall cI cZ ad M) ([(6, .int (nI k4)), (0, .ref (ad 0)), (1, .int (nI (mq_fc M))), (2, .int (nI (mq_bc M))), (3, .int 1), (4, .int (nI (mo_cn (fun j => decide (mq_pl M j = 7)) (mq_bc M)))), (5, .int (nI (mo_sum (fun i => mo_unm M (nI i)) (mq_fc M))))]) 138 [] := by
                      intro n
                      induction n with
                      | zero => intro k4 h1 h2; exact absurd h1 (by omega)
                      | succ n ih =>
                        intro k4 h1 h2
                        refine bh_iload C dL_holds_138 0 rfl ?_
                        refine bh_aload_n C dL_holds_140 rfl 1 rfl ?_
                        refine bh_calli_0 (As := []) C (ct_X0_bags l D cI cZ cL ad M) (cwV 0 C.1.2.2.2.2 gL_holds_X0_bags rfl rfl rfl (by decide +kernel) ⟨Nat.le_of_ble_eq_true rfl, Nat.le_of_ble_eq_true rfl⟩) (ci := 0) rfl 0 rfl rfl rfl (Nat.le_of_ble_eq_true rfl) dL_holds_141 ⟨Nat.le_of_ble_eq_true rfl, Nat.le_of_ble_eq_true rfl⟩ (fun r_141 u_141 hp_141 => ?_)
                        subst hp_141
                        refine bh_icmp_ge (tgt := 222) C dL_holds_144 (by decide) (fun c_144 => ?_) (fun c_144 => ?_)
                        · skip
                          have c_144 := bh_le (by omega) (by omega) c_144
                          refine bh_iload_n C dL_holds_222 rfl 4 rfl ?_
                          refine bh_if_eq (tgt := 281) C dL_holds_223 (by decide) (fun c_223 => absurd c_223 (by decide)) (fun c_223 => ?_)
                          refine bh_iload_n C dL_holds_226 rfl 3 rfl ?_
                          refine bh_aload_n C dL_holds_227 rfl 1 rfl ?_
                          refine bh_calli_0 (As := []) C (ct_X0_bags l D cI cZ cL ad M) (cwV 0 C.1.2.2.2.2 gL_holds_X0_bags rfl rfl rfl (by decide +kernel) ⟨Nat.le_of_ble_eq_true rfl, Nat.le_of_ble_eq_true rfl⟩) (ci := 0) rfl 0 rfl rfl rfl (Nat.le_of_ble_eq_true rfl) dL_holds_228 ⟨Nat.le_of_ble_eq_true rfl, Nat.le_of_ble_eq_true rfl⟩ (fun r_228 u_228 hp_228 => ?_)
                          subst hp_228
                          refine bh_icmp_ne (tgt := 281) C dL_holds_231 (by decide) (fun c_231 => absurd rfl c_231) (fun c_231 => ?_)
                          refine bh_aload_n C dL_holds_234 rfl 1 rfl ?_
                          refine bh_iconst (v := 5) C dL_holds_235 (by decide) ?_
                          refine bh_ycalli (As := [.int 5]) C hE (ct_X0_count l hl D cI cZ cL ad M 5 hP.1) (cwV 1 C.1.2.2.2.2 gL_holds_X0_count rfl rfl rfl (by decide +kernel) ⟨Nat.le_of_ble_eq_true rfl, Nat.le_of_ble_eq_true rfl⟩) (ci := 0) rfl 0 rfl rfl rfl (Nat.le_of_ble_eq_true rfl) dL_holds_236 ⟨Nat.le_of_ble_eq_true rfl, Nat.le_of_ble_eq_true rfl⟩ (fun E h9 => no_px (show co_count 5 = 0 by decide +kernel) h9) (fun r_236 u_236 hp_236 => ?_)
                          obtain ⟨-, rfl⟩ := hp_236
                          refine bh_bipush (v := 8) C dL_holds_239 (by decide) ?_
                          have hc5 := at5_le hP
                          refine bh_icmp_gt (tgt := 281) C dL_holds_241 (by decide) (fun c_241 => absurd ((nI_ltI (a := 8) (by decide) (by omega)).mp c_241) (Nat.not_lt.mpr (at5_le hP))) (fun c_241 => ?_)
                          refine bh_iload C dL_holds_244 5 rfl ?_
                          refine bh_aload_n C dL_holds_246 rfl 1 rfl ?_
                          refine bh_bipush (v := 7) C dL_holds_247 (by decide) ?_
                          refine bh_ycalli (As := [.int 7]) C hE (ct_X0_count l hl D cI cZ cL ad M 7 hP.1) (cwV 1 C.1.2.2.2.2 gL_holds_X0_count rfl rfl rfl (by decide +kernel) ⟨Nat.le_of_ble_eq_true rfl, Nat.le_of_ble_eq_true rfl⟩) (ci := 0) rfl 0 rfl rfl rfl (Nat.le_of_ble_eq_true rfl) dL_holds_249 ⟨Nat.le_of_ble_eq_true rfl, Nat.le_of_ble_eq_true rfl⟩ (fun E h9 => no_px (show co_count 7 = 0 by decide +kernel) h9) (fun r_249 u_249 hp_249 => ?_)
                          obtain ⟨-, rfl⟩ := hp_249
                          refine bh_icmp_ne (tgt := 281) C dL_holds_252 (by decide) (fun c_252 => absurd rfl c_252) (fun c_252 => ?_)
                          refine bh_iload C dL_holds_255 6 rfl ?_
                          refine bh_aload_n C dL_holds_257 rfl 1 rfl ?_
                          refine bh_bipush (v := 8) C dL_holds_258 (by decide) ?_
                          refine bh_ycalli (As := [.int 8]) C hE (ct_X0_count l hl D cI cZ cL ad M 8 hP.1) (cwV 1 C.1.2.2.2.2 gL_holds_X0_count rfl rfl rfl (by decide +kernel) ⟨Nat.le_of_ble_eq_true rfl, Nat.le_of_ble_eq_true rfl⟩) (ci := 0) rfl 0 rfl rfl rfl (Nat.le_of_ble_eq_true rfl) dL_holds_260 ⟨Nat.le_of_ble_eq_true rfl, Nat.le_of_ble_eq_true rfl⟩ (fun E h9 => no_px (show co_count 8 = 0 by decide +kernel) h9) (fun r_260 u_260 hp_260 => ?_)
                          obtain ⟨-, rfl⟩ := hp_260
                          have hu8 := sum_unm hP
                          have hc8 := mo_cn_le (fun j => decide (mq_pl M j = 8)) (mq_bc M)
                          refine bh_icmp_gt (tgt := 281) C dL_holds_263 (by decide) (fun c_263 => absurd ((nI_ltI (by omega) (by omega)).mp c_263) (Nat.not_lt.mpr hu8)) (fun c_263 => ?_)
                          refine bh_aload_n C dL_holds_266 rfl 1 rfl ?_
                          refine bh_calli_0 (As := []) C (ct_X0_scans l D cI cZ cL ad M) (cwV 0 C.1.2.2.2.2 gL_holds_X0_scans rfl rfl rfl (by decide +kernel) ⟨Nat.le_of_ble_eq_true rfl, Nat.le_of_ble_eq_true rfl⟩) (ci := 0) rfl 0 rfl rfl rfl (Nat.le_of_ble_eq_true rfl) dL_holds_267 ⟨Nat.le_of_ble_eq_true rfl, Nat.le_of_ble_eq_true rfl⟩ (fun r_267 u_267 hp_267 => ?_)
                          subst hp_267
                          refine bh_aload_n C dL_holds_270 rfl 1 rfl ?_
                          refine bh_calli_0 (As := []) C (ct_X0_bags l D cI cZ cL ad M) (cwV 0 C.1.2.2.2.2 gL_holds_X0_bags rfl rfl rfl (by decide +kernel) ⟨Nat.le_of_ble_eq_true rfl, Nat.le_of_ble_eq_true rfl⟩) (ci := 0) rfl 0 rfl rfl rfl (Nat.le_of_ble_eq_true rfl) dL_holds_271 ⟨Nat.le_of_ble_eq_true rfl, Nat.le_of_ble_eq_true rfl⟩ (fun r_271 u_271 hp_271 => ?_)
                          subst hp_271
                          refine bh_icmp_lt (tgt := 281) C dL_holds_274 (by decide) (fun c_274 => absurd ((nI_ltI (by omega) (by omega)).mp c_274) (Nat.not_lt.mpr hP.2.2.2.1)) (fun c_274 => ?_)
                          refine bh_iconst (v := 1) C dL_holds_277 (by decide) ?_
                          refine bh_goto (tgt := 282) C dL_holds_278 (by decide) ?_
                          exact bh_xzret C hQ dL_holds_282 () (v := 1) (w := wh_hall cI cZ ad M) rfl rfl (Nat.le_of_ble_eq_true rfl) (Nat.le_of_ble_eq_true rfl) rfl
                        · skip
                          have c_144 := bh_nle2 (by omega) (by omega) c_144
                          have hb4 := hP.2.2.2.2.2 k4 c_144
                          have hpl := MI_pl hP.1 k4
                          refine bh_iload_n C dL_holds_147 rfl 4 rfl ?_
                          refine bh_if_eq (tgt := 222) C dL_holds_148 (by decide) (fun c_148 => absurd c_148 (by decide)) (fun c_148 => ?_)
                          refine bh_aload_n C dL_holds_151 rfl 1 rfl ?_
                          refine bh_iload C dL_holds_152 0 rfl ?_
                          refine bh_ycalli (As := [.int (nI k4)]) C hE (ct_X0_placeOf l hl D cI cZ cL ad M (nI k4) hP.1) (cwV 1 C.1.2.2.2.2 gL_holds_X0_placeOf rfl rfl rfl (by decide +kernel) ⟨Nat.le_of_ble_eq_true rfl, Nat.le_of_ble_eq_true rfl⟩) (ci := 0) rfl 0 rfl rfl rfl (Nat.le_of_ble_eq_true rfl) dL_holds_154 ⟨Nat.le_of_ble_eq_true rfl, Nat.le_of_ble_eq_true rfl⟩ (fun E h9 => no_px (co_in0 (vp_in_nI (n := k4) (N := mq_bc M) (by omega) (MI_bcb hP.1))) h9) (fun r_154 u_154 hp_154 => ?_)
                          obtain ⟨-, rfl⟩ := hp_154
                          refine bh_topi (congrArg (mq_pl M) (nI_clamp (n := k4) (by omega))) ?_
                          refine bh_iconst (v := 1) C dL_holds_157 (by decide) ?_
                          refine bh_icmp_lt (tgt := 214) C dL_holds_158 (by decide) (fun c_158 => absurd c_158 (pl_ge hpl hb4.2.1)) (fun c_158 => ?_)
                          refine bh_aload_n C dL_holds_161 rfl 1 rfl ?_
                          refine bh_iload C dL_holds_162 0 rfl ?_
                          refine bh_ycalli (As := [.int (nI k4)]) C hE (ct_X0_placeOf l hl D cI cZ cL ad M (nI k4) hP.1) (cwV 1 C.1.2.2.2.2 gL_holds_X0_placeOf rfl rfl rfl (by decide +kernel) ⟨Nat.le_of_ble_eq_true rfl, Nat.le_of_ble_eq_true rfl⟩) (ci := 0) rfl 0 rfl rfl rfl (Nat.le_of_ble_eq_true rfl) dL_holds_164 ⟨Nat.le_of_ble_eq_true rfl, Nat.le_of_ble_eq_true rfl⟩ (fun E h9 => no_px (co_in0 (vp_in_nI (n := k4) (N := mq_bc M) (by omega) (MI_bcb hP.1))) h9) (fun r_164 u_164 hp_164 => ?_)
                          obtain ⟨-, rfl⟩ := hp_164
                          refine bh_topi (congrArg (mq_pl M) (nI_clamp (n := k4) (by omega))) ?_
                          refine bh_bipush (v := 11) C dL_holds_167 (by decide) ?_
                          refine bh_icmp_gt (tgt := 214) C dL_holds_169 (by decide) (fun c_169 => absurd c_169 (pl_le hpl)) (fun c_169 => ?_)
                          refine bh_aload_n C dL_holds_172 rfl 1 rfl ?_
                          refine bh_iload C dL_holds_173 0 rfl ?_
                          refine bh_aload_n C dL_holds_175 rfl 1 rfl ?_
                          refine bh_calli_0 (As := []) C (ct_X0_time l D cI cZ cL ad M) (cwV 0 C.1.2.2.2.2 gL_holds_X0_time rfl rfl rfl (by decide +kernel) ⟨Nat.le_of_ble_eq_true rfl, Nat.le_of_ble_eq_true rfl⟩) (ci := 0) rfl 0 rfl rfl rfl (Nat.le_of_ble_eq_true rfl) dL_holds_176 ⟨Nat.le_of_ble_eq_true rfl, Nat.le_of_ble_eq_true rfl⟩ (fun r_176 u_176 hp_176 => ?_)
                          subst hp_176
                          refine bh_ycalli (As := [.int (nI k4), .int (nI (mq_now M))]) C hE (ct_X0_placeByScans l hl D cI cZ cL ad M (nI k4) (nI (mq_now M)) hP.1) (cwV 2 C.1.2.2.2.2 gL_holds_X0_placeByScans rfl rfl rfl (by decide +kernel) ⟨Nat.le_of_ble_eq_true rfl, Nat.le_of_ble_eq_true rfl⟩) (ci := 0) rfl 0 rfl rfl rfl (Nat.le_of_ble_eq_true rfl) dL_holds_179 ⟨Nat.le_of_ble_eq_true rfl, Nat.le_of_ble_eq_true rfl⟩ (fun E h9 => no_px (co_pbs0 (vp_in_nI c_144 (MI_bcb hP.1)) (nI_pos (by omega)) (Int32.le_refl _)) h9) (fun r_179 u_179 hp_179 => ?_)
                          obtain ⟨-, rfl⟩ := hp_179
                          refine bh_topi (pbs_now hP c_144) ?_
                          refine bh_aload_n C dL_holds_182 rfl 1 rfl ?_
                          refine bh_iload C dL_holds_183 0 rfl ?_
                          refine bh_ycalli (As := [.int (nI k4)]) C hE (ct_X0_placeOf l hl D cI cZ cL ad M (nI k4) hP.1) (cwV 1 C.1.2.2.2.2 gL_holds_X0_placeOf rfl rfl rfl (by decide +kernel) ⟨Nat.le_of_ble_eq_true rfl, Nat.le_of_ble_eq_true rfl⟩) (ci := 0) rfl 0 rfl rfl rfl (Nat.le_of_ble_eq_true rfl) dL_holds_185 ⟨Nat.le_of_ble_eq_true rfl, Nat.le_of_ble_eq_true rfl⟩ (fun E h9 => no_px (co_in0 (vp_in_nI (n := k4) (N := mq_bc M) (by omega) (MI_bcb hP.1))) h9) (fun r_185 u_185 hp_185 => ?_)
                          obtain ⟨-, rfl⟩ := hp_185
                          refine bh_topi (congrArg (mq_pl M) (nI_clamp (n := k4) (by omega))) ?_
                          refine bh_icmp_ne (tgt := 214) C dL_holds_188 (by decide) (fun c_188 => absurd rfl c_188) (fun c_188 => ?_)
                          refine bh_aload_n C dL_holds_191 rfl 1 rfl ?_
                          refine bh_iload C dL_holds_192 0 rfl ?_
                          refine bh_ycalli (As := [.int (nI k4)]) C hE (ct_X0_flightOf l hl D cI cZ cL ad M (nI k4) hP.1) (cwV 1 C.1.2.2.2.2 gL_holds_X0_flightOf rfl rfl rfl (by decide +kernel) ⟨Nat.le_of_ble_eq_true rfl, Nat.le_of_ble_eq_true rfl⟩) (ci := 0) rfl 0 rfl rfl rfl (Nat.le_of_ble_eq_true rfl) dL_holds_194 ⟨Nat.le_of_ble_eq_true rfl, Nat.le_of_ble_eq_true rfl⟩ (fun E h9 => no_px (co_in0 (vp_in_nI (n := k4) (N := mq_bc M) (by omega) (MI_bcb hP.1))) h9) (fun r_194 u_194 hp_194 => ?_)
                          obtain ⟨-, rfl⟩ := hp_194
                          refine bh_topi (congrArg (mq_bf M) (nI_clamp (n := k4) (by omega))) ?_
                          refine bh_if_lt (tgt := 214) C dL_holds_197 (by decide) (fun c_197 => absurd c_197 (vp_ge hb4.1 (by omega))) (fun c_197 => ?_)
                          refine bh_aload_n C dL_holds_200 rfl 1 rfl ?_
                          refine bh_iload C dL_holds_201 0 rfl ?_
                          refine bh_ycalli (As := [.int (nI k4)]) C hE (ct_X0_flightOf l hl D cI cZ cL ad M (nI k4) hP.1) (cwV 1 C.1.2.2.2.2 gL_holds_X0_flightOf rfl rfl rfl (by decide +kernel) ⟨Nat.le_of_ble_eq_true rfl, Nat.le_of_ble_eq_true rfl⟩) (ci := 0) rfl 0 rfl rfl rfl (Nat.le_of_ble_eq_true rfl) dL_holds_203 ⟨Nat.le_of_ble_eq_true rfl, Nat.le_of_ble_eq_true rfl⟩ (fun E h9 => no_px (co_in0 (vp_in_nI (n := k4) (N := mq_bc M) (by omega) (MI_bcb hP.1))) h9) (fun r_203 u_203 hp_203 => ?_)
                          obtain ⟨-, rfl⟩ := hp_203
                          refine bh_topi (congrArg (mq_bf M) (nI_clamp (n := k4) (by omega))) ?_
                          refine bh_iload_n C dL_holds_206 rfl 2 rfl ?_
                          refine bh_icmp_ge (tgt := 214) C dL_holds_207 (by decide) (fun c_207 => absurd c_207 (vp_lt hb4.1 (by omega))) (fun c_207 => ?_)
                          refine bh_iconst (v := 1) C dL_holds_210 (by decide) ?_
                          refine bh_goto (tgt := 215) C dL_holds_211 (by decide) ?_
                          refine bh_istore_n (lv' := [(3, .int 1), (6, .int (nI k4)), (0, .ref (ad 0)), (1, .int (nI (mq_fc M))), (2, .int (nI (mq_bc M))), (4, .int (nI (mo_cn (fun j => decide (mq_pl M j = 7)) (mq_bc M)))), (5, .int (nI (mo_sum (fun i => mo_unm M (nI i)) (mq_fc M))))]) C dL_holds_215 rfl (by decide) rfl ?_
                          refine bh_iinc (v := (nI (k4 + 1))) (lv' := [(6, .int (nI (k4 + 1))), (3, .int 1), (0, .ref (ad 0)), (1, .int (nI (mq_fc M))), (2, .int (nI (mq_bc M))), (4, .int (nI (mo_cn (fun j => decide (mq_pl M j = 7)) (mq_bc M)))), (5, .int (nI (mo_sum (fun i => mo_unm M (nI i)) (mq_fc M))))]) C dL_holds_216 (k := 1) rfl (nI_1 _) (by decide) rfl ?_
                          refine bh_goto (tgt := 138) C dL_holds_219 (by decide) ?_
                          exact bh_lv [0, 2, 3, 4, 1, 5, 6] rfl (ih (k4 + 1) (by omega) (by omega))
                    exact bh_lv [0, 1, 2, 3, 4, 5, 6] rfl (loop4 (mq_bc M + 1) 0 (by omega) (by omega))
                  · skip
                    have c_67 := bh_nle2 (by omega) (by omega) c_67
                    have hlat := hP.2.1 k3 c_67
                    have hun := unm_le M (nI k3)
                    refine bh_iload_n C dL_holds_70 rfl 5 rfl ?_
                    refine bh_if_eq (tgt := 135) C dL_holds_71 (by decide) (fun c_71 => absurd c_71 (by decide)) (fun c_71 => ?_)
                    refine bh_aload_n C dL_holds_74 rfl 2 rfl ?_
                    refine bh_iload C dL_holds_75 0 rfl ?_
                    refine bh_ycalli (As := [.int (nI k3)]) C hE (ct_X0_lateralOf l hl D cI cZ cL ad M (nI k3) hP.1) (cwV 1 C.1.2.2.2.2 gL_holds_X0_lateralOf rfl rfl rfl (by decide +kernel) ⟨Nat.le_of_ble_eq_true rfl, Nat.le_of_ble_eq_true rfl⟩) (ci := 0) rfl 0 rfl rfl rfl (Nat.le_of_ble_eq_true rfl) dL_holds_77 ⟨Nat.le_of_ble_eq_true rfl, Nat.le_of_ble_eq_true rfl⟩ (fun E h9 => no_px (co_in0 (vp_in_nI (n := k3) (N := mq_fc M) (by omega) (MI_fcb hP.1))) h9) (fun r_77 u_77 hp_77 => ?_)
                    obtain ⟨-, rfl⟩ := hp_77
                    refine bh_topi (congrArg (mq_lat M) (nI_clamp (n := k3) (by omega))) ?_
                    refine bh_iconst (v := (-1)) C dL_holds_80 (by decide) ?_
                    refine bh_icmp_lt (tgt := 116) C dL_holds_81 (by decide) (fun c_81 => absurd c_81 (lat_ge hlat)) (fun c_81 => ?_)
                    refine bh_aload_n C dL_holds_84 rfl 2 rfl ?_
                    refine bh_iload C dL_holds_85 0 rfl ?_
                    refine bh_ycalli (As := [.int (nI k3)]) C hE (ct_X0_lateralOf l hl D cI cZ cL ad M (nI k3) hP.1) (cwV 1 C.1.2.2.2.2 gL_holds_X0_lateralOf rfl rfl rfl (by decide +kernel) ⟨Nat.le_of_ble_eq_true rfl, Nat.le_of_ble_eq_true rfl⟩) (ci := 0) rfl 0 rfl rfl rfl (Nat.le_of_ble_eq_true rfl) dL_holds_87 ⟨Nat.le_of_ble_eq_true rfl, Nat.le_of_ble_eq_true rfl⟩ (fun E h9 => no_px (co_in0 (vp_in_nI (n := k3) (N := mq_fc M) (by omega) (MI_fcb hP.1))) h9) (fun r_87 u_87 hp_87 => ?_)
                    obtain ⟨-, rfl⟩ := hp_87
                    refine bh_topi (congrArg (mq_lat M) (nI_clamp (n := k3) (by omega))) ?_
                    refine bh_iconst (v := 3) C dL_holds_90 (by decide) ?_
                    refine bh_icmp_gt (tgt := 116) C dL_holds_91 (by decide) (fun c_91 => absurd c_91 (lat_le hlat)) (fun c_91 => ?_)
                    refine bh_aload_n C dL_holds_94 rfl 2 rfl ?_
                    refine bh_iload C dL_holds_95 0 rfl ?_
                    refine bh_ycalli (As := [.int (nI k3)]) C hE (ct_X0_unmatched l hl D cI cZ cL ad M (nI k3) hP.1) (cwV 1 C.1.2.2.2.2 gL_holds_X0_unmatched rfl rfl rfl (by decide +kernel) ⟨Nat.le_of_ble_eq_true rfl, Nat.le_of_ble_eq_true rfl⟩) (ci := 0) rfl 0 rfl rfl rfl (Nat.le_of_ble_eq_true rfl) dL_holds_97 ⟨Nat.le_of_ble_eq_true rfl, Nat.le_of_ble_eq_true rfl⟩ (fun E h9 => no_px (co_in0 (vp_in_nI (n := k3) (N := mq_fc M) (by omega) (MI_fcb hP.1))) h9) (fun r_97 u_97 hp_97 => ?_)
                    obtain ⟨-, rfl⟩ := hp_97
                    refine bh_if_lt (tgt := 116) C dL_holds_100 (by decide) (fun c_100 => absurd c_100 (nI_pos (by omega))) (fun c_100 => ?_)
                    refine bh_aload_n C dL_holds_103 rfl 2 rfl ?_
                    refine bh_iload C dL_holds_104 0 rfl ?_
                    refine bh_ycalli (As := [.int (nI k3)]) C hE (ct_X0_untilClose l hl D cI cZ cL ad M (nI k3) hP.1) (cwV 1 C.1.2.2.2.2 gL_holds_X0_untilClose rfl rfl rfl (by decide +kernel) ⟨Nat.le_of_ble_eq_true rfl, Nat.le_of_ble_eq_true rfl⟩) (ci := 0) rfl 0 rfl rfl rfl (Nat.le_of_ble_eq_true rfl) dL_holds_106 ⟨Nat.le_of_ble_eq_true rfl, Nat.le_of_ble_eq_true rfl⟩ (fun E h9 => no_px (co_in0 (vp_in_nI (n := k3) (N := mq_fc M) (by omega) (MI_fcb hP.1))) h9) (fun r_106 u_106 hp_106 => ?_)
                    obtain ⟨-, rfl⟩ := hp_106
                    refine bh_if_lt (tgt := 116) C dL_holds_109 (by decide) (fun c_109 => absurd c_109 (uc_ok _)) (fun c_109 => ?_)
                    refine bh_iconst (v := 1) C dL_holds_112 (by decide) ?_
                    refine bh_goto (tgt := 117) C dL_holds_113 (by decide) ?_
                    refine bh_istore_n (lv' := [(3, .int 1), (6, .int (nI k3)), (5, .int (nI (mo_sum (fun i => mo_unm M (nI i)) k3))), (0, .ref (ad 0)), (1, .int (nI (mq_fc M))), (2, .int (nI (mq_bc M))), (4, .int (nI (mo_cn (fun j => decide (mq_pl M j = 7)) (mq_bc M))))]) C dL_holds_117 rfl (by decide) rfl ?_
                    refine bh_iload C dL_holds_118 2 rfl ?_
                    refine bh_aload_n C dL_holds_120 rfl 3 rfl ?_
                    refine bh_iload C dL_holds_121 1 rfl ?_
                    refine bh_ycalli (As := [.int (nI k3)]) C hE (ct_X0_unmatched l hl D cI cZ cL ad M (nI k3) hP.1) (cwV 1 C.1.2.2.2.2 gL_holds_X0_unmatched rfl rfl rfl (by decide +kernel) ⟨Nat.le_of_ble_eq_true rfl, Nat.le_of_ble_eq_true rfl⟩) (ci := 0) rfl 0 rfl rfl rfl (Nat.le_of_ble_eq_true rfl) dL_holds_123 ⟨Nat.le_of_ble_eq_true rfl, Nat.le_of_ble_eq_true rfl⟩ (fun E h9 => no_px (co_in0 (vp_in_nI (n := k3) (N := mq_fc M) (by omega) (MI_fcb hP.1))) h9) (fun r_123 u_123 hp_123 => ?_)
                    obtain ⟨-, rfl⟩ := hp_123
                    refine bh_iadd C dL_holds_126 ?_
                    refine bh_topi (nI_add _ _) ?_
                    refine bh_istore (lv' := [(5, .int (nI ((mo_sum (fun i => mo_unm M (nI i)) k3) + (mo_unm M (nI k3))))), (3, .int 1), (6, .int (nI k3)), (0, .ref (ad 0)), (1, .int (nI (mq_fc M))), (2, .int (nI (mq_bc M))), (4, .int (nI (mo_cn (fun j => decide (mq_pl M j = 7)) (mq_bc M))))]) C dL_holds_127 (by decide) rfl ?_
                    refine bh_iinc (v := (nI (k3 + 1))) (lv' := [(6, .int (nI (k3 + 1))), (5, .int (nI ((mo_sum (fun i => mo_unm M (nI i)) k3) + (mo_unm M (nI k3))))), (3, .int 1), (0, .ref (ad 0)), (1, .int (nI (mq_fc M))), (2, .int (nI (mq_bc M))), (4, .int (nI (mo_cn (fun j => decide (mq_pl M j = 7)) (mq_bc M))))]) C dL_holds_129 (k := 2) rfl (nI_1 _) (by decide) rfl ?_
                    refine bh_goto (tgt := 64) C dL_holds_132 (by decide) ?_
                    exact bh_lv [0, 1, 3, 4, 5, 2, 6] rfl (ih (k3 + 1) (by omega) (by omega))
              exact bh_lv [0, 1, 2, 3, 4, 5, 6] rfl (loop3 (mq_fc M + 1) 0 (by omega) (by omega))
            · skip
              have c_38 := bh_nle2 (a := 4) (by decide) (by omega) c_38
              refine bh_iload C dL_holds_41 5 rfl ?_
              refine bh_aload_n C dL_holds_43 rfl 1 rfl ?_
              refine bh_iload C dL_holds_44 0 rfl ?_
              refine bh_ycalli (As := [.int (nI k2)]) C hE (ct_X0_atLateral l hl D cI cZ cL ad M (nI k2) hP.1) (cwV 1 C.1.2.2.2.2 gL_holds_X0_atLateral rfl rfl rfl (by decide +kernel) ⟨Nat.le_of_ble_eq_true rfl, Nat.le_of_ble_eq_true rfl⟩) (ci := 0) rfl 0 rfl rfl rfl (Nat.le_of_ble_eq_true rfl) dL_holds_46 ⟨Nat.le_of_ble_eq_true rfl, Nat.le_of_ble_eq_true rfl⟩ (fun E h9 => no_px (co_in0 (vp_in_nI (n := k2) (by omega) (by decide))) h9) (fun r_46 u_46 hp_46 => ?_)
              obtain ⟨-, rfl⟩ := hp_46
              refine bh_iadd C dL_holds_49 ?_
              refine bh_topi (nI_add _ _) ?_
              refine bh_istore (lv' := [(4, .int (nI ((mo_sum (fun i => mo_atl M (nI i)) k2) + (mo_atl M (nI k2))))), (5, .int (nI k2)), (0, .ref (ad 0)), (1, .int (nI (mq_fc M))), (2, .int (nI (mq_bc M))), (3, .int 1)]) C dL_holds_50 (by decide) rfl ?_
              refine bh_iinc (v := (nI (k2 + 1))) (lv' := [(5, .int (nI (k2 + 1))), (4, .int (nI ((mo_sum (fun i => mo_atl M (nI i)) k2) + (mo_atl M (nI k2))))), (0, .ref (ad 0)), (1, .int (nI (mq_fc M))), (2, .int (nI (mq_bc M))), (3, .int 1)]) C dL_holds_52 (k := 1) rfl (nI_1 _) (by decide) rfl ?_
              refine bh_goto (tgt := 35) C dL_holds_55 (by decide) ?_
              exact bh_lv [0, 2, 3, 4, 5, 1] rfl (ih (k2 + 1) (by omega) (by omega))
        exact bh_lv [0, 2, 3, 4, 5, 1] rfl (loop2 5 0 (by omega) (by omega))
      · skip
        have c_11 : ¬ 11 < k + 1 := fun q => c_11 ((nI_ltI (a := 11) (b := k + 1) (by decide) (by omega)).mpr q)
        refine bh_iload_n C dL_holds_14 rfl 3 rfl ?_
        refine bh_aload_n C dL_holds_15 rfl 1 rfl ?_
        refine bh_iload C dL_holds_16 0 rfl ?_
        refine bh_ycalli (As := [.int (nI (k + 1))]) C hE (ct_X0_count l hl D cI cZ cL ad M (nI (k + 1)) hP.1) (cwV 1 C.1.2.2.2.2 gL_holds_X0_count rfl rfl rfl (by decide +kernel) ⟨Nat.le_of_ble_eq_true rfl, Nat.le_of_ble_eq_true rfl⟩) (ci := 0) rfl 0 rfl rfl rfl (Nat.le_of_ble_eq_true rfl) dL_holds_18 ⟨Nat.le_of_ble_eq_true rfl, Nat.le_of_ble_eq_true rfl⟩ (fun E h9 => no_px (co_count0 (k := k) (by omega)) h9) (fun r_18 u_18 hp_18 => ?_)
        obtain ⟨-, rfl⟩ := hp_18
        refine bh_iadd C dL_holds_21 ?_
        refine bh_topi (nI_add _ _) ?_
        refine bh_istore_n (lv' := [(2, .int (nI ((mo_sum (fun i => mo_cn (fun j => decide (mq_pl M j = nI (i + 1))) (mq_bc M)) k) + (mo_cn (fun j => decide (mq_pl M j = (nI (k + 1)))) (mq_bc M))))), (4, .int (nI (k + 1))), (0, .ref (ad 0)), (1, .int (nI (mq_fc M))), (3, .int 1)]) C dL_holds_22 rfl (by decide) rfl ?_
        refine bh_iinc (v := (nI ((k + 1) + 1))) (lv' := [(4, .int (nI ((k + 1) + 1))), (2, .int (nI ((mo_sum (fun i => mo_cn (fun j => decide (mq_pl M j = nI (i + 1))) (mq_bc M)) k) + (mo_cn (fun j => decide (mq_pl M j = (nI (k + 1)))) (mq_bc M))))), (0, .ref (ad 0)), (1, .int (nI (mq_fc M))), (3, .int 1)]) C dL_holds_23 (k := 1) rfl (nI_1 _) (by decide) rfl ?_
        refine bh_goto (tgt := 7) C dL_holds_26 (by decide) ?_
        exact bh_lv [0, 2, 3, 1, 4] rfl (ih (k + 1) (by omega) (by omega))
  exact bh_lv [0, 3, 4, 2, 1] rfl (loop1 12 0 (by omega) (by omega))
set_option maxRecDepth 100000 in
set_option maxHeartbeats 4000000 in
theorem ct_L_scanned (l : Launch) (hl : l.stackTraces = false) (D : va_G) (cI cZ cL : ClassId) (ad : Nat → Nat) {K T : Nat} (M : MT) (a0 k : Nat) (q0 : Int32) (hI : MI K T M) (hs : SC a0 M k q0) (hk : k < mq_bc M) : bh_Xi l D (wh_tys cI cZ cL) yL_scanned wsL_scanned ({ frames := 8, cells := 1, slots := 6, locals := 132 } : Room) [.ref (ad 0), .int (nI a0), .int (nI k), .int q0] (wh_hall cI cZ ad M) (fun r (_ : Unit) => r = 1) (fun _ => wh_hall cI cZ ad M) (fun _ => False) 1 6 := by
  refine bh_ofXi (cc := cL_scanned) (maxL := 4) (by decide +kernel) rfl (Nat.le_of_ble_eq_true rfl) ?_
  intro p e s m args below meth c A Q C hQ hE hno
  refine bh_eqlv (lv' := [(0, .ref (ad 0)), (1, .int (nI a0)), (2, .int (nI k)), (3, .int q0)]) rfl ?_
  have hP := And.intro hI trivial
  have hbc := MI_bc hI; have hsc := MI_sc hI; have hs1 := hs.1
  refine bh_aload_n C dL_scanned_0 rfl 0 rfl ?_
  refine bh_calli_0 (As := []) C (ct_X0_scans l D cI cZ cL ad M) (cwV 0 C.1.2.2.2.2 gL_scanned_X0_scans rfl rfl rfl (by decide +kernel) ⟨Nat.le_of_ble_eq_true rfl, Nat.le_of_ble_eq_true rfl⟩) (ci := 0) rfl 0 rfl rfl rfl (Nat.le_of_ble_eq_true rfl) dL_scanned_1 ⟨Nat.le_of_ble_eq_true rfl, Nat.le_of_ble_eq_true rfl⟩ (fun r_1 u_1 hp_1 => ?_)
  subst hp_1
  refine bh_iload_n C dL_scanned_4 rfl 1 rfl ?_
  refine bh_iconst (v := 1) C dL_scanned_5 (by decide) ?_
  refine bh_iadd C dL_scanned_6 ?_
  refine bh_topi (nI_1 _) ?_
  refine bh_icmp_ne (tgt := 41) C dL_scanned_7 (by decide) (fun c_7 => absurd (congrArg nI hs.1) c_7) (fun c_7 => ?_)
  refine bh_aload_n C dL_scanned_10 rfl 0 rfl ?_
  refine bh_iload_n C dL_scanned_11 rfl 1 rfl ?_
  refine bh_ycalli (As := [.int (nI a0)]) C hE (ct_X0_bagOfScan l hl D cI cZ cL ad M (nI a0) hP.1) (cwV 1 C.1.2.2.2.2 gL_scanned_X0_bagOfScan rfl rfl rfl (by decide +kernel) ⟨Nat.le_of_ble_eq_true rfl, Nat.le_of_ble_eq_true rfl⟩) (ci := 0) rfl 0 rfl rfl rfl (Nat.le_of_ble_eq_true rfl) dL_scanned_12 ⟨Nat.le_of_ble_eq_true rfl, Nat.le_of_ble_eq_true rfl⟩ (fun E h9 => no_px (co_in0 (vp_in_nI (n := a0) (N := mq_sc M) (by rw [hs.1]; omega) (MI_scb hP.1))) h9) (fun r_12 u_12 hp_12 => ?_)
  obtain ⟨-, rfl⟩ := hp_12
  refine bh_topi (congrArg (mq_sb M) (nI_clamp (n := a0) (by omega))) ?_
  refine bh_iload_n C dL_scanned_15 rfl 2 rfl ?_
  refine bh_icmp_ne (tgt := 41) C dL_scanned_16 (by decide) (fun c_16 => absurd hs.2.1 c_16) (fun c_16 => ?_)
  refine bh_aload_n C dL_scanned_19 rfl 0 rfl ?_
  refine bh_iload_n C dL_scanned_20 rfl 1 rfl ?_
  refine bh_ycalli (As := [.int (nI a0)]) C hE (ct_X0_placeOfScan l hl D cI cZ cL ad M (nI a0) hP.1) (cwV 1 C.1.2.2.2.2 gL_scanned_X0_placeOfScan rfl rfl rfl (by decide +kernel) ⟨Nat.le_of_ble_eq_true rfl, Nat.le_of_ble_eq_true rfl⟩) (ci := 0) rfl 0 rfl rfl rfl (Nat.le_of_ble_eq_true rfl) dL_scanned_21 ⟨Nat.le_of_ble_eq_true rfl, Nat.le_of_ble_eq_true rfl⟩ (fun E h9 => no_px (co_in0 (vp_in_nI (n := a0) (N := mq_sc M) (by rw [hs.1]; omega) (MI_scb hP.1))) h9) (fun r_21 u_21 hp_21 => ?_)
  obtain ⟨-, rfl⟩ := hp_21
  refine bh_topi (congrArg (mq_sp M) (nI_clamp (n := a0) (by omega))) ?_
  refine bh_iload_n C dL_scanned_24 rfl 3 rfl ?_
  refine bh_icmp_ne (tgt := 41) C dL_scanned_25 (by decide) (fun c_25 => absurd hs.2.2.1 c_25) (fun c_25 => ?_)
  refine bh_aload_n C dL_scanned_28 rfl 0 rfl ?_
  refine bh_iload_n C dL_scanned_29 rfl 2 rfl ?_
  refine bh_ycalli (As := [.int (nI k)]) C hE (ct_X0_placeOf l hl D cI cZ cL ad M (nI k) hP.1) (cwV 1 C.1.2.2.2.2 gL_scanned_X0_placeOf rfl rfl rfl (by decide +kernel) ⟨Nat.le_of_ble_eq_true rfl, Nat.le_of_ble_eq_true rfl⟩) (ci := 0) rfl 0 rfl rfl rfl (Nat.le_of_ble_eq_true rfl) dL_scanned_30 ⟨Nat.le_of_ble_eq_true rfl, Nat.le_of_ble_eq_true rfl⟩ (fun E h9 => no_px (co_in0 (vp_in_nI (n := k) (N := mq_bc M) hk (MI_bcb hP.1))) h9) (fun r_30 u_30 hp_30 => ?_)
  obtain ⟨-, rfl⟩ := hp_30
  refine bh_topi (congrArg (mq_pl M) (nI_clamp (n := k) (by omega))) ?_
  refine bh_iload_n C dL_scanned_33 rfl 3 rfl ?_
  refine bh_icmp_ne (tgt := 41) C dL_scanned_34 (by decide) (fun c_34 => absurd hs.2.2.2 c_34) (fun c_34 => ?_)
  refine bh_iconst (v := 1) C dL_scanned_37 (by decide) ?_
  refine bh_goto (tgt := 42) C dL_scanned_38 (by decide) ?_
  exact bh_xzret C hQ dL_scanned_42 () (v := 1) (w := wh_hall cI cZ ad M) rfl rfl (Nat.le_of_ble_eq_true rfl) (Nat.le_of_ble_eq_true rfl) rfl
