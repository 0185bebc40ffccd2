section
variable {K T : Nat} {M : MT}
/-- places, by their number -/
theorem pl_cases {x : Int32} (h : vp_in x 12) (h0 : x ≠ 0) (h3 : ¬ 3 < x) : x = 1 ∨ x = 2 ∨ x = 3 := by
  obtain ⟨j, hj, rfl⟩ := vp_in_of h (by decide)
  have h3 : ¬ 3 < j := fun q => h3 ((nI_ltI (a := 3) (by decide) (by omega)).mpr q)
  have h0 : j ≠ 0 := fun q => h0 (by rw [q]; rfl)
  rcases (show j = 1 ∨ j = 2 ∨ j = 3 by omega) with q | q | q <;> rw [q] <;> decide +kernel
theorem pl_last {x : Int32} (h : vp_in x 12) (h9 : ¬ x ≤ 9) : x = 10 ∨ x = 11 := by
  obtain ⟨j, hj, rfl⟩ := vp_in_of h (by decide)
  have h9 : ¬ j ≤ 9 := fun q => h9 ((nI_leI (b := 9) (by omega) (by decide)).mpr q)
  rcases (show j = 10 ∨ j = 11 by omega) with q | q <;> rw [q] <;> decide +kernel
theorem pl_n3 {x : Int32} (h : vp_in x 12) : ¬ x = -3 := by
  obtain ⟨j, hj, rfl⟩ := vp_in_of h (by decide)
  exact fun z => nI_pos (n := j) (by omega) (by rw [z]; decide)
theorem route_4 {k : Nat} (h : mq_pl M k = 4) : mo_route M k = mo_bring M k (mo_way M (mq_bf M k)) := mo_route_b (by rw [h]; decide)
/-- behind a move of one bag -/
def WK (K T : Nat) (M N : MT) : Prop := PX (K + 4) T N ∧ KP M N
theorem WK_bring (h : PX K T M) {k : Nat} (hk : k < mq_bc M) {q : Int32} (hg : GO M k q) (hK : K + 4 ≤ 2048) : WK K T M (mo_bring M k q) := ⟨PX_bring h hk hg hK, KP_bring _ _ _⟩
theorem WK_rf (h : PX K T M) (hK : K + 4 ≤ 2048) : WK K T M M := ⟨PX_mono h (by omega) hK (Nat.le_refl _) (MI_T h.1), KP.rf M⟩
theorem WK_snd (h : PX K T M) {k : Nat} (hk : k < mq_bc M) {x q : Int32} (hx : vp_in x (mq_fc M)) (h3 : mq_pl M k = 10 ∨ mq_pl M k = 11) (hg : GO (mo_snd M k x) k q) (hK : K + 4 ≤ 2048) : WK K T M (mo_bring (mo_snd M k x) k q) := ⟨PX_bring (PX_snd h hk hx h3) hk hg hK, ⟨rfl, rfl, rfl⟩⟩
theorem bf_snd (M : MT) (k : Nat) (x q : Int32) : mq_bf (mo_bring (mo_snd M k x) k q) k = x := bh_upd_same _ _ _
theorem ld8_le (h : PX K T M) {k : Nat} (hk : k < mq_bc M) : ¬ nI (mo_cn (fun j => decide (mq_pl (mo_bring M k 8) j = 8)) (mq_bc (mo_bring M k 8))) < nI (mo_ld (mo_bring M k 8) (mq_bf M k)) := by
  have h1 := ld_le (mo_bring M k 8) (mq_bf M k)
  have h2 : mo_cn (fun j => decide (mq_pl (mo_bring M k 8) j = 8)) (mq_bc (mo_bring M k 8)) ≤ mq_bc M := mo_cn_le _ _
  have hb := MI_bc h.1
  intro z
  have := (nI_ltI (by omega) (by omega)).mp z
  omega
theorem ld8_ge (h : PX K T M) {k : Nat} (hk : k < mq_bc M) : ¬ nI (mo_ld (mo_bring M k 8) (mq_bf M k)) < 1 := by
  have h1 := ld_le (mo_bring M k 8) (mq_bf M k)
  have h2 : mo_cn (fun j => decide (mq_pl (mo_bring M k 8) j = 8)) (mq_bc (mo_bring M k 8)) ≤ mq_bc M := mo_cn_le _ _
  have h3 := ld_ge (M := M) hk
  have hb := MI_bc h.1
  intro z
  have := (nI_ltI (b := 1) (by omega) (by decide)).mp z
  omega
theorem ldn_ge (h : PX K T M) (N : MT) (hN : mq_bc N = mq_bc M) (f : Int32) : ¬ nI (mo_ld N f) < 0 := by
  have h1 : mo_ld N f ≤ mq_bc N := mo_cn_le _ _
  have hb := MI_bc h.1
  exact nI_pos (by omega)
end
set_option maxRecDepth 100000 in
set_option maxHeartbeats 4000000 in
theorem ct_L_works (l : Launch) (hl : l.stackTraces = false) (D : va_G) (cI cZ cL : ClassId) (ad : Nat → Nat) {K T : Nat} (M : MT) (v : Int32) (hP : PX K T M) (hK4 : K + 4 ≤ 2048) (hb0 : 0 < mq_bc M) (hf0 : 0 < mq_fc M) : bh_Wi l D (wh_tys cI cZ cL) yL_works wsL_works ({ frames := 9, cells := 2, slots := 12, locals := 157 } : Room) [.ref (ad 0), .int v, .int (nI (mq_fc M))] (wh_hall cI cZ ad M) (fun r (u : MT) => r = 1 ∧ WK K T M u) (fun u => wh_hall cI cZ ad u) 2 12 := by
  refine bh_ofYi (cc := cL_works) (maxL := 8) (by decide +kernel) rfl (Nat.le_of_ble_eq_true rfl) ?_
  intro p e s m args below meth c A Q C hQ hE
  refine bh_eqlv (lv' := [(0, .ref (ad 0)), (1, .int v), (2, .int (nI (mq_fc M)))]) rfl ?_
  have hbc := MI_bc hP.1; have hfc := MI_fc hP.1; have hsc := MI_sc hP.1; have hnow := MI_now2 hP.1
  refine bh_iload_n C dL_works_0 rfl 1 rfl ?_
  refine bh_iconst (v := 5) C dL_works_1 (by decide) ?_
  refine bh_ishr C dL_works_2 ?_
  refine bh_aload_n C dL_works_3 rfl 0 rfl ?_
  refine bh_calli_0 (As := []) C (ct_X0_bags l D cI cZ cL ad M) (cwV 0 C.1.2.2.2.2 gL_works_X0_bags rfl rfl rfl (by decide +kernel) ⟨Nat.le_of_ble_eq_true rfl, Nat.le_of_ble_eq_true rfl⟩) (ci := 0) rfl 0 rfl rfl rfl (Nat.le_of_ble_eq_true rfl) dL_works_4 ⟨Nat.le_of_ble_eq_true rfl, Nat.le_of_ble_eq_true rfl⟩ (fun r_4 u_4 hp_4 => ?_)
  subst hp_4
  obtain ⟨k, hk, ek⟩ := lo_low_in (v >>> (5 &&& 31)) (n := mq_bc M) hb0 (by omega)
  refine bh_calli_N (As := [.int (v >>> (5 &&& 31)), .int (nI (mq_bc M))]) C (ct_L_low l D cI cZ cL (v >>> (5 &&& 31)) (nI (mq_bc M)) (lo_low_ne hb0 (by omega))) ⟨callB_of 2 C.1.2.2.2.2 ggL_works_L_low rfl rfl rfl (C.1.2.2.2.2 _ (by decide +kernel)) (C.1.2.2.2.2 _ (by decide +kernel)) (by decide +kernel) ⟨Nat.le_of_ble_eq_true rfl, Nat.le_of_ble_eq_true rfl⟩, C.1.2.2.2.2 _ (by decide +kernel)⟩ rfl rfl (Nat.le_of_ble_eq_true rfl) dL_works_7 ⟨Nat.le_of_ble_eq_true rfl, Nat.le_of_ble_eq_true rfl⟩ (fun r_7 u_7 hp_7 => ?_)
  subst hp_7
  refine bh_topi ek ?_
  refine bh_istore_n (lv' := [(3, .int (nI k)), (0, .ref (ad 0)), (1, .int v), (2, .int (nI (mq_fc M)))]) C dL_works_10 rfl (by decide) rfl ?_
  refine bh_aload_n C dL_works_11 rfl 1 rfl ?_
  refine bh_iload_n C dL_works_12 rfl 0 rfl ?_
  refine bh_ycalli (As := [.int (nI k)]) C hE (ct_X0_placeOf l hl D cI cZ cL ad M (nI k) hP.1) (cwV 1 C.1.2.2.2.2 gL_works_X0_placeOf rfl rfl rfl (by decide +kernel) ⟨Nat.le_of_ble_eq_true rfl, Nat.le_of_ble_eq_true rfl⟩) (ci := 0) rfl 0 rfl rfl rfl (Nat.le_of_ble_eq_true rfl) dL_works_13 ⟨Nat.le_of_ble_eq_true rfl, Nat.le_of_ble_eq_true rfl⟩ (fun E h9 => no_px (co_in0 (vp_in_nI (n := k) (N := mq_bc M) hk (MI_bcb hP.1))) h9) (fun r_13 u_13 hp_13 => ?_)
  obtain ⟨-, rfl⟩ := hp_13
  refine bh_topi (congrArg (mq_pl M) (nI_clamp (n := k) (by omega))) ?_
  have hk9 : (nI k).toNatClampNeg = k := nI_clamp (by omega)
  have hpl := MI_pl hP.1 k
  have hbk := hP.2.2.2.2.2 k hk
  refine bh_istore (lv' := [(4, .int (mq_pl M k)), (3, .int (nI k)), (0, .ref (ad 0)), (1, .int v), (2, .int (nI (mq_fc M)))]) C dL_works_16 (by decide) rfl ?_
  refine bh_aload_n C dL_works_18 rfl 2 rfl ?_
  refine bh_calli_0 (As := []) C (ct_X0_scans l D cI cZ cL ad M) (cwV 0 C.1.2.2.2.2 gL_works_X0_scans rfl rfl rfl (by decide +kernel) ⟨Nat.le_of_ble_eq_true rfl, Nat.le_of_ble_eq_true rfl⟩) (ci := 0) rfl 0 rfl rfl rfl (Nat.le_of_ble_eq_true rfl) dL_works_19 ⟨Nat.le_of_ble_eq_true rfl, Nat.le_of_ble_eq_true rfl⟩ (fun r_19 u_19 hp_19 => ?_)
  subst hp_19
  refine bh_istore (lv' := [(5, .int (nI (mq_sc M))), (4, .int (mq_pl M k)), (3, .int (nI k)), (0, .ref (ad 0)), (1, .int v), (2, .int (nI (mq_fc M)))]) C dL_works_22 (by decide) rfl ?_
  refine bh_iload C dL_works_24 1 rfl ?_
  refine bh_iconst (v := 3) C dL_works_26 (by decide) ?_
  refine bh_icmp_gt (tgt := 140) C dL_works_27 (by decide) (fun c_27 => ?_) (fun c_27 => ?_)
  · skip
    refine bh_iload C dL_works_140 1 rfl ?_
    refine bh_iconst (v := 4) C dL_works_142 (by decide) ?_
    refine bh_icmp_ne (tgt := 159) C dL_works_143 (by decide) (fun c_143 => ?_) (fun c_143 => ?_)
    · skip
      refine bh_iload C dL_works_159 1 rfl ?_
      refine bh_bipush (v := 7) C dL_works_161 (by decide) ?_
      refine bh_icmp_ne (tgt := 208) C dL_works_163 (by decide) (fun c_163 => ?_) (fun c_163 => ?_)
      · skip
        refine bh_iload C dL_works_208 1 rfl ?_
        refine bh_bipush (v := 8) C dL_works_210 (by decide) ?_
        refine bh_icmp_ne (tgt := 249) C dL_works_212 (by decide) (fun c_212 => ?_) (fun c_212 => ?_)
        · skip
          refine bh_iload C dL_works_249 1 rfl ?_
          refine bh_bipush (v := 9) C dL_works_251 (by decide) ?_
          refine bh_icmp_le (tgt := 337) C dL_works_253 (by decide) (fun c_253 => ?_) (fun c_253 => ?_)
          · skip
            refine bh_iconst (v := 1) C dL_works_337 (by decide) ?_
            exact bh_zret C hQ dL_works_338 M (v := 1) (w := wh_hall cI cZ ad M) rfl rfl (Nat.le_of_ble_eq_true rfl) (Nat.le_of_ble_eq_true rfl) ⟨rfl, WK_rf hP hK4⟩
          · skip
            have h3 := pl_last hpl c_253
            refine bh_iload_n C dL_works_256 rfl 4 rfl ?_
            refine bh_bipush (v := 9) C dL_works_257 (by decide) ?_
            refine bh_ishr C dL_works_259 ?_
            refine bh_iload_n C dL_works_260 rfl 5 rfl ?_
            obtain ⟨f, hf, ef⟩ := lo_low_in (v >>> (9 &&& 31)) (n := mq_fc M) hf0 (by omega)
            refine bh_calli_N (As := [.int (v >>> (9 &&& 31)), .int (nI (mq_fc M))]) C (ct_L_low l D cI cZ cL (v >>> (9 &&& 31)) (nI (mq_fc M)) (lo_low_ne hf0 (by omega))) ⟨callB_of 2 C.1.2.2.2.2 ggL_works_L_low rfl rfl rfl (C.1.2.2.2.2 _ (by decide +kernel)) (C.1.2.2.2.2 _ (by decide +kernel)) (by decide +kernel) ⟨Nat.le_of_ble_eq_true rfl, Nat.le_of_ble_eq_true rfl⟩, C.1.2.2.2.2 _ (by decide +kernel)⟩ rfl rfl (Nat.le_of_ble_eq_true rfl) dL_works_261 ⟨Nat.le_of_ble_eq_true rfl, Nat.le_of_ble_eq_true rfl⟩ (fun r_261 u_261 hp_261 => ?_)
            subst hp_261
            refine bh_topi ef ?_
            refine bh_istore (lv' := [(6, .int (nI f)), (5, .int (nI (mq_sc M))), (4, .int (mq_pl M k)), (3, .int (nI k)), (0, .ref (ad 0)), (1, .int v), (2, .int (nI (mq_fc M)))]) C dL_works_264 (by decide) rfl ?_
            refine bh_aload_n C dL_works_266 rfl 4 rfl ?_
            refine bh_iload_n C dL_works_267 rfl 3 rfl ?_
            refine bh_iload C dL_works_268 0 rfl ?_
            have hvf : vp_in (nI f) (mq_fc M) := vp_in_nI hf (by omega)
            refine bh_calli_Z (As := [.ref (ad 0), .int (nI k), .int (nI f)]) C hE (ct_L_sendOn l hl D cI cZ cL ad M k (nI f) hP.1 hK4 hk hvf h3) (vx_cwSW 3 C.1.2.2.2.2 gL_works_L_sendOn rfl rfl rfl (by decide +kernel) ⟨Nat.le_of_ble_eq_true rfl, Nat.le_of_ble_eq_true rfl⟩) rfl rfl (Nat.le_of_ble_eq_true rfl) dL_works_270 ⟨Nat.le_of_ble_eq_true rfl, Nat.le_of_ble_eq_true rfl⟩ (fun r u hp => ?_)
            rcases hp with ⟨rfl, hg⟩ | ⟨rfl, rfl⟩
            · have hW := WK_snd hP hk hvf h3 hg hK4
              refine bh_istore (lv' := [(7, .int r), (6, .int (nI f)), (5, .int (nI (mq_sc M))), (4, .int (mq_pl M k)), (3, .int (nI k)), (0, .ref (ad 0)), (1, .int v), (2, .int (nI (mq_fc M)))]) C dL_works_273 (by decide) rfl ?_
              refine bh_iload C dL_works_275 0 rfl ?_
              refine bh_bipush (v := (-3)) C dL_works_277 (by decide) ?_
              refine bh_icmp_ne (tgt := 309) C dL_works_279 (by decide) (fun c_279 => ?_) (fun c_279 => absurd c_279 (pl_n3 hg.2.1))
              refine bh_aload_n C dL_works_309 rfl 5 rfl ?_
              refine bh_iload C dL_works_310 2 rfl ?_
              refine bh_iload_n C dL_works_312 rfl 4 rfl ?_
              refine bh_iload C dL_works_313 0 rfl ?_
              refine bh_calli_X (As := [.ref (ad 0), .int (nI (mq_sc M)), .int (nI k), .int r]) C hE (ct_L_scanned l hl D cI cZ cL ad (mo_bring (mo_snd M k (nI f)) k r) (mq_sc M) k r hW.1.1 (SC_bring (mo_snd M k (nI f)) k r) hk) ⟨callB_of 4 C.1.2.2.2.2 ggL_works_L_scanned rfl rfl rfl (C.1.2.2.2.2 _ (by decide +kernel)) (C.1.2.2.2.2 _ (by decide +kernel)) (by decide +kernel) ⟨Nat.le_of_ble_eq_true rfl, Nat.le_of_ble_eq_true rfl⟩, C.1.2.2.2.2 _ (by decide +kernel)⟩ rfl rfl (Nat.le_of_ble_eq_true rfl) dL_works_315 ⟨Nat.le_of_ble_eq_true rfl, Nat.le_of_ble_eq_true rfl⟩ (fun _ h9 => h9) (fun r_315 u_315 hp_315 => ?_)
              subst hp_315
              refine bh_if_eq (tgt := 335) C dL_works_318 (by decide) (fun c_318 => absurd c_318 (by decide)) (fun c_318 => ?_)
              refine bh_aload_n C dL_works_321 rfl 5 rfl ?_
              refine bh_iload_n C dL_works_322 rfl 4 rfl ?_
              refine bh_ycalli (As := [.int (nI k)]) C hE (ct_X0_flightOf l hl D cI cZ cL ad (mo_bring (mo_snd M k (nI f)) k r) (nI k) hW.1.1) (cwV 1 C.1.2.2.2.2 gL_works_X0_flightOf rfl rfl rfl (by decide +kernel) ⟨Nat.le_of_ble_eq_true rfl, Nat.le_of_ble_eq_true rfl⟩) (ci := 0) rfl 0 rfl rfl rfl (Nat.le_of_ble_eq_true rfl) dL_works_323 ⟨Nat.le_of_ble_eq_true rfl, Nat.le_of_ble_eq_true rfl⟩ (fun E h9 => no_px (co_in0 (vp_in_nI (n := k) (N := mq_bc (mo_bring (mo_snd M k (nI f)) k r)) hk (MI_bcb hW.1.1))) h9) (fun r_323 u_323 hp_323 => ?_)
              obtain ⟨-, rfl⟩ := hp_323
              refine bh_topi (congrArg (mq_bf (mo_bring (mo_snd M k (nI f)) k r)) (nI_clamp (n := k) (by omega))) ?_
              refine bh_iload C dL_works_326 1 rfl ?_
              refine bh_icmp_ne (tgt := 335) C dL_works_328 (by decide) (fun c_328 => absurd (bf_snd M k (nI f) r) c_328) (fun c_328 => ?_)
              refine bh_iconst (v := 1) C dL_works_331 (by decide) ?_
              refine bh_goto (tgt := 336) C dL_works_332 (by decide) ?_
              exact bh_zret C hQ dL_works_336 (mo_bring (mo_snd M k (nI f)) k r) (v := 1) (w := wh_hall cI cZ ad (mo_bring (mo_snd M k (nI f)) k r)) rfl rfl (Nat.le_of_ble_eq_true rfl) (Nat.le_of_ble_eq_true rfl) ⟨rfl, hW⟩
            · skip
              refine bh_istore (lv' := [(7, .int (-3)), (6, .int (nI f)), (5, .int (nI (mq_sc M))), (4, .int (mq_pl M k)), (3, .int (nI k)), (0, .ref (ad 0)), (1, .int v), (2, .int (nI (mq_fc M)))]) C dL_works_273 (by decide) rfl ?_
              refine bh_iload C dL_works_275 0 rfl ?_
              refine bh_bipush (v := (-3)) C dL_works_277 (by decide) ?_
              refine bh_icmp_ne (tgt := 309) C dL_works_279 (by decide) (fun c_279 => absurd c_279 (by decide)) (fun c_279 => ?_)
              refine bh_aload_n C dL_works_282 rfl 5 rfl ?_
              refine bh_calli_0 (As := []) C (ct_X0_scans l D cI cZ cL ad M) (cwV 0 C.1.2.2.2.2 gL_works_X0_scans rfl rfl rfl (by decide +kernel) ⟨Nat.le_of_ble_eq_true rfl, Nat.le_of_ble_eq_true rfl⟩) (ci := 0) rfl 0 rfl rfl rfl (Nat.le_of_ble_eq_true rfl) dL_works_283 ⟨Nat.le_of_ble_eq_true rfl, Nat.le_of_ble_eq_true rfl⟩ (fun r_283 u_283 hp_283 => ?_)
              subst hp_283
              refine bh_iload C dL_works_286 2 rfl ?_
              refine bh_icmp_ne (tgt := 305) C dL_works_288 (by decide) (fun c_288 => absurd rfl c_288) (fun c_288 => ?_)
              refine bh_aload_n C dL_works_291 rfl 5 rfl ?_
              refine bh_iload_n C dL_works_292 rfl 4 rfl ?_
              refine bh_ycalli (As := [.int (nI k)]) C hE (ct_X0_placeOf l hl D cI cZ cL ad M (nI k) hP.1) (cwV 1 C.1.2.2.2.2 gL_works_X0_placeOf rfl rfl rfl (by decide +kernel) ⟨Nat.le_of_ble_eq_true rfl, Nat.le_of_ble_eq_true rfl⟩) (ci := 0) rfl 0 rfl rfl rfl (Nat.le_of_ble_eq_true rfl) dL_works_293 ⟨Nat.le_of_ble_eq_true rfl, Nat.le_of_ble_eq_true rfl⟩ (fun E h9 => no_px (co_in0 (vp_in_nI (n := k) (N := mq_bc M) hk (MI_bcb hP.1))) h9) (fun r_293 u_293 hp_293 => ?_)
              obtain ⟨-, rfl⟩ := hp_293
              refine bh_topi (congrArg (mq_pl M) (nI_clamp (n := k) (by omega))) ?_
              refine bh_iload C dL_works_296 3 rfl ?_
              refine bh_icmp_ne (tgt := 305) C dL_works_298 (by decide) (fun c_298 => absurd rfl c_298) (fun c_298 => ?_)
              refine bh_iconst (v := 1) C dL_works_301 (by decide) ?_
              refine bh_goto (tgt := 336) C dL_works_302 (by decide) ?_
              exact bh_zret C hQ dL_works_336 M (v := 1) (w := wh_hall cI cZ ad M) rfl rfl (Nat.le_of_ble_eq_true rfl) (Nat.le_of_ble_eq_true rfl) ⟨rfl, WK_rf hP hK4⟩
        · skip
          refine bh_iload_n C dL_works_215 rfl 4 rfl ?_
          refine bh_iconst (v := 4) C dL_works_216 (by decide) ?_
          refine bh_calli_N (As := [.int v, .int 4]) C (ct_L_low l D cI cZ cL v 4 (by decide)) ⟨callB_of 2 C.1.2.2.2.2 ggL_works_L_low rfl rfl rfl (C.1.2.2.2.2 _ (by decide +kernel)) (C.1.2.2.2.2 _ (by decide +kernel)) (by decide +kernel) ⟨Nat.le_of_ble_eq_true rfl, Nat.le_of_ble_eq_true rfl⟩, C.1.2.2.2.2 _ (by decide +kernel)⟩ rfl rfl (Nat.le_of_ble_eq_true rfl) dL_works_217 ⟨Nat.le_of_ble_eq_true rfl, Nat.le_of_ble_eq_true rfl⟩ (fun r_217 u_217 hp_217 => ?_)
          subst hp_217
          refine bh_if_ne (tgt := 249) C dL_works_220 (by decide) (fun c_220 => ?_) (fun c_220 => ?_)
          · skip
            refine bh_iload C dL_works_249 1 rfl ?_
            refine bh_bipush (v := 9) C dL_works_251 (by decide) ?_
            refine bh_icmp_le (tgt := 337) C dL_works_253 (by decide) (fun c_253 => ?_) (fun c_253 => ?_)
            · skip
              refine bh_iconst (v := 1) C dL_works_337 (by decide) ?_
              exact bh_zret C hQ dL_works_338 M (v := 1) (w := wh_hall cI cZ ad M) rfl rfl (Nat.le_of_ble_eq_true rfl) (Nat.le_of_ble_eq_true rfl) ⟨rfl, WK_rf hP hK4⟩
            · skip
              have h3 := pl_last hpl c_253
              refine bh_iload_n C dL_works_256 rfl 4 rfl ?_
              refine bh_bipush (v := 9) C dL_works_257 (by decide) ?_
              refine bh_ishr C dL_works_259 ?_
              refine bh_iload_n C dL_works_260 rfl 5 rfl ?_
              obtain ⟨f, hf, ef⟩ := lo_low_in (v >>> (9 &&& 31)) (n := mq_fc M) hf0 (by omega)
              refine bh_calli_N (As := [.int (v >>> (9 &&& 31)), .int (nI (mq_fc M))]) C (ct_L_low l D cI cZ cL (v >>> (9 &&& 31)) (nI (mq_fc M)) (lo_low_ne hf0 (by omega))) ⟨callB_of 2 C.1.2.2.2.2 ggL_works_L_low rfl rfl rfl (C.1.2.2.2.2 _ (by decide +kernel)) (C.1.2.2.2.2 _ (by decide +kernel)) (by decide +kernel) ⟨Nat.le_of_ble_eq_true rfl, Nat.le_of_ble_eq_true rfl⟩, C.1.2.2.2.2 _ (by decide +kernel)⟩ rfl rfl (Nat.le_of_ble_eq_true rfl) dL_works_261 ⟨Nat.le_of_ble_eq_true rfl, Nat.le_of_ble_eq_true rfl⟩ (fun r_261 u_261 hp_261 => ?_)
              subst hp_261
              refine bh_topi ef ?_
              refine bh_istore (lv' := [(6, .int (nI f)), (5, .int (nI (mq_sc M))), (4, .int (mq_pl M k)), (3, .int (nI k)), (0, .ref (ad 0)), (1, .int v), (2, .int (nI (mq_fc M)))]) C dL_works_264 (by decide) rfl ?_
              refine bh_aload_n C dL_works_266 rfl 4 rfl ?_
              refine bh_iload_n C dL_works_267 rfl 3 rfl ?_
              refine bh_iload C dL_works_268 0 rfl ?_
              have hvf : vp_in (nI f) (mq_fc M) := vp_in_nI hf (by omega)
              refine bh_calli_Z (As := [.ref (ad 0), .int (nI k), .int (nI f)]) C hE (ct_L_sendOn l hl D cI cZ cL ad M k (nI f) hP.1 hK4 hk hvf h3) (vx_cwSW 3 C.1.2.2.2.2 gL_works_L_sendOn rfl rfl rfl (by decide +kernel) ⟨Nat.le_of_ble_eq_true rfl, Nat.le_of_ble_eq_true rfl⟩) rfl rfl (Nat.le_of_ble_eq_true rfl) dL_works_270 ⟨Nat.le_of_ble_eq_true rfl, Nat.le_of_ble_eq_true rfl⟩ (fun r u hp => ?_)
              rcases hp with ⟨rfl, hg⟩ | ⟨rfl, rfl⟩
              · have hW := WK_snd hP hk hvf h3 hg hK4
                refine bh_istore (lv' := [(7, .int r), (6, .int (nI f)), (5, .int (nI (mq_sc M))), (4, .int (mq_pl M k)), (3, .int (nI k)), (0, .ref (ad 0)), (1, .int v), (2, .int (nI (mq_fc M)))]) C dL_works_273 (by decide) rfl ?_
                refine bh_iload C dL_works_275 0 rfl ?_
                refine bh_bipush (v := (-3)) C dL_works_277 (by decide) ?_
                refine bh_icmp_ne (tgt := 309) C dL_works_279 (by decide) (fun c_279 => ?_) (fun c_279 => absurd c_279 (pl_n3 hg.2.1))
                refine bh_aload_n C dL_works_309 rfl 5 rfl ?_
                refine bh_iload C dL_works_310 2 rfl ?_
                refine bh_iload_n C dL_works_312 rfl 4 rfl ?_
                refine bh_iload C dL_works_313 0 rfl ?_
                refine bh_calli_X (As := [.ref (ad 0), .int (nI (mq_sc M)), .int (nI k), .int r]) C hE (ct_L_scanned l hl D cI cZ cL ad (mo_bring (mo_snd M k (nI f)) k r) (mq_sc M) k r hW.1.1 (SC_bring (mo_snd M k (nI f)) k r) hk) ⟨callB_of 4 C.1.2.2.2.2 ggL_works_L_scanned rfl rfl rfl (C.1.2.2.2.2 _ (by decide +kernel)) (C.1.2.2.2.2 _ (by decide +kernel)) (by decide +kernel) ⟨Nat.le_of_ble_eq_true rfl, Nat.le_of_ble_eq_true rfl⟩, C.1.2.2.2.2 _ (by decide +kernel)⟩ rfl rfl (Nat.le_of_ble_eq_true rfl) dL_works_315 ⟨Nat.le_of_ble_eq_true rfl, Nat.le_of_ble_eq_true rfl⟩ (fun _ h9 => h9) (fun r_315 u_315 hp_315 => ?_)
                subst hp_315
                refine bh_if_eq (tgt := 335) C dL_works_318 (by decide) (fun c_318 => absurd c_318 (by decide)) (fun c_318 => ?_)
                refine bh_aload_n C dL_works_321 rfl 5 rfl ?_
                refine bh_iload_n C dL_works_322 rfl 4 rfl ?_
                refine bh_ycalli (As := [.int (nI k)]) C hE (ct_X0_flightOf l hl D cI cZ cL ad (mo_bring (mo_snd M k (nI f)) k r) (nI k) hW.1.1) (cwV 1 C.1.2.2.2.2 gL_works_X0_flightOf rfl rfl rfl (by decide +kernel) ⟨Nat.le_of_ble_eq_true rfl, Nat.le_of_ble_eq_true rfl⟩) (ci := 0) rfl 0 rfl rfl rfl (Nat.le_of_ble_eq_true rfl) dL_works_323 ⟨Nat.le_of_ble_eq_true rfl, Nat.le_of_ble_eq_true rfl⟩ (fun E h9 => no_px (co_in0 (vp_in_nI (n := k) (N := mq_bc (mo_bring (mo_snd M k (nI f)) k r)) hk (MI_bcb hW.1.1))) h9) (fun r_323 u_323 hp_323 => ?_)
                obtain ⟨-, rfl⟩ := hp_323
                refine bh_topi (congrArg (mq_bf (mo_bring (mo_snd M k (nI f)) k r)) (nI_clamp (n := k) (by omega))) ?_
                refine bh_iload C dL_works_326 1 rfl ?_
                refine bh_icmp_ne (tgt := 335) C dL_works_328 (by decide) (fun c_328 => absurd (bf_snd M k (nI f) r) c_328) (fun c_328 => ?_)
                refine bh_iconst (v := 1) C dL_works_331 (by decide) ?_
                refine bh_goto (tgt := 336) C dL_works_332 (by decide) ?_
                exact bh_zret C hQ dL_works_336 (mo_bring (mo_snd M k (nI f)) k r) (v := 1) (w := wh_hall cI cZ ad (mo_bring (mo_snd M k (nI f)) k r)) rfl rfl (Nat.le_of_ble_eq_true rfl) (Nat.le_of_ble_eq_true rfl) ⟨rfl, hW⟩
              · skip
                refine bh_istore (lv' := [(7, .int (-3)), (6, .int (nI f)), (5, .int (nI (mq_sc M))), (4, .int (mq_pl M k)), (3, .int (nI k)), (0, .ref (ad 0)), (1, .int v), (2, .int (nI (mq_fc M)))]) C dL_works_273 (by decide) rfl ?_
                refine bh_iload C dL_works_275 0 rfl ?_
                refine bh_bipush (v := (-3)) C dL_works_277 (by decide) ?_
                refine bh_icmp_ne (tgt := 309) C dL_works_279 (by decide) (fun c_279 => absurd c_279 (by decide)) (fun c_279 => ?_)
                refine bh_aload_n C dL_works_282 rfl 5 rfl ?_
                refine bh_calli_0 (As := []) C (ct_X0_scans l D cI cZ cL ad M) (cwV 0 C.1.2.2.2.2 gL_works_X0_scans rfl rfl rfl (by decide +kernel) ⟨Nat.le_of_ble_eq_true rfl, Nat.le_of_ble_eq_true rfl⟩) (ci := 0) rfl 0 rfl rfl rfl (Nat.le_of_ble_eq_true rfl) dL_works_283 ⟨Nat.le_of_ble_eq_true rfl, Nat.le_of_ble_eq_true rfl⟩ (fun r_283 u_283 hp_283 => ?_)
                subst hp_283
                refine bh_iload C dL_works_286 2 rfl ?_
                refine bh_icmp_ne (tgt := 305) C dL_works_288 (by decide) (fun c_288 => absurd rfl c_288) (fun c_288 => ?_)
                refine bh_aload_n C dL_works_291 rfl 5 rfl ?_
                refine bh_iload_n C dL_works_292 rfl 4 rfl ?_
                refine bh_ycalli (As := [.int (nI k)]) C hE (ct_X0_placeOf l hl D cI cZ cL ad M (nI k) hP.1) (cwV 1 C.1.2.2.2.2 gL_works_X0_placeOf rfl rfl rfl (by decide +kernel) ⟨Nat.le_of_ble_eq_true rfl, Nat.le_of_ble_eq_true rfl⟩) (ci := 0) rfl 0 rfl rfl rfl (Nat.le_of_ble_eq_true rfl) dL_works_293 ⟨Nat.le_of_ble_eq_true rfl, Nat.le_of_ble_eq_true rfl⟩ (fun E h9 => no_px (co_in0 (vp_in_nI (n := k) (N := mq_bc M) hk (MI_bcb hP.1))) h9) (fun r_293 u_293 hp_293 => ?_)
                obtain ⟨-, rfl⟩ := hp_293
                refine bh_topi (congrArg (mq_pl M) (nI_clamp (n := k) (by omega))) ?_
                refine bh_iload C dL_works_296 3 rfl ?_
                refine bh_icmp_ne (tgt := 305) C dL_works_298 (by decide) (fun c_298 => absurd rfl c_298) (fun c_298 => ?_)
                refine bh_iconst (v := 1) C dL_works_301 (by decide) ?_
                refine bh_goto (tgt := 336) C dL_works_302 (by decide) ?_
                exact bh_zret C hQ dL_works_336 M (v := 1) (w := wh_hall cI cZ ad M) rfl rfl (Nat.le_of_ble_eq_true rfl) (Nat.le_of_ble_eq_true rfl) ⟨rfl, WK_rf hP hK4⟩
          · skip
            refine bh_aload_n C dL_works_223 rfl 3 rfl ?_
            refine bh_iload_n C dL_works_224 rfl 2 rfl ?_
            refine bh_ycalli (As := [.int (nI k)]) C hE (ct_X0_offload l hl D cI cZ cL ad M (nI k) hP.1 hK4) (cwV 1 C.1.2.2.2.2 gL_works_X0_offload rfl rfl rfl (by decide +kernel) ⟨Nat.le_of_ble_eq_true rfl, Nat.le_of_ble_eq_true rfl⟩) (ci := 0) rfl 0 rfl rfl rfl (Nat.le_of_ble_eq_true rfl) dL_works_225 ⟨Nat.le_of_ble_eq_true rfl, Nat.le_of_ble_eq_true rfl⟩ (fun E h9 => no_px (co_place0 (q := 8) (vp_in_nI hk (MI_bcb hP.1)) (by rw [hk9]; exact c_212)) h9) (fun r u hp => ?_)
            have hr : r = nI (mo_ld (mo_bring M k 10) (mq_bf M k)) := by rw [hp.2, hk9]
            subst hr
            have hg : GO M k 10 := GO_lit (by decide)
            have hW := WK_bring hP hk hg hK4
            refine bh_eqw (w' := wh_hall cI cZ ad (mo_bring M k 10)) (by rw [hk9]) ?_
            refine bh_if_lt (tgt := 247) C dL_works_228 (by decide) (fun c_228 => absurd c_228 (ldn_ge hP (mo_bring M k 10) rfl (mq_bf M k))) (fun c_228 => ?_)
            refine bh_aload_n C dL_works_231 rfl 3 rfl ?_
            refine bh_iload C dL_works_232 0 rfl ?_
            refine bh_iload_n C dL_works_234 rfl 2 rfl ?_
            refine bh_bipush (v := 10) C dL_works_235 (by decide) ?_
            refine bh_calli_X (As := [.ref (ad 0), .int (nI (mq_sc M)), .int (nI k), .int 10]) C hE (ct_L_scanned l hl D cI cZ cL ad (mo_bring M k 10) (mq_sc M) k 10 hW.1.1 (SC_bring _ _ _) hk) ⟨callB_of 4 C.1.2.2.2.2 ggL_works_L_scanned rfl rfl rfl (C.1.2.2.2.2 _ (by decide +kernel)) (C.1.2.2.2.2 _ (by decide +kernel)) (by decide +kernel) ⟨Nat.le_of_ble_eq_true rfl, Nat.le_of_ble_eq_true rfl⟩, C.1.2.2.2.2 _ (by decide +kernel)⟩ rfl rfl (Nat.le_of_ble_eq_true rfl) dL_works_237 ⟨Nat.le_of_ble_eq_true rfl, Nat.le_of_ble_eq_true rfl⟩ (fun _ h9 => h9) (fun r_237 u_237 hp_237 => ?_)
            subst hp_237
            refine bh_if_eq (tgt := 247) C dL_works_240 (by decide) (fun c_240 => absurd c_240 (by decide)) (fun c_240 => ?_)
            refine bh_iconst (v := 1) C dL_works_243 (by decide) ?_
            refine bh_goto (tgt := 248) C dL_works_244 (by decide) ?_
            exact bh_zret C hQ dL_works_248 (mo_bring M k 10) (v := 1) (w := wh_hall cI cZ ad (mo_bring M k 10)) rfl rfl (Nat.le_of_ble_eq_true rfl) (Nat.le_of_ble_eq_true rfl) ⟨rfl, hW⟩
      · skip
        refine bh_aload_n C dL_works_166 rfl 3 rfl ?_
        refine bh_iload_n C dL_works_167 rfl 2 rfl ?_
        refine bh_ycalli (As := [.int (nI k)]) C hE (ct_X0_load l hl D cI cZ cL ad M (nI k) hP.1 hK4) (cwV 1 C.1.2.2.2.2 gL_works_X0_load rfl rfl rfl (by decide +kernel) ⟨Nat.le_of_ble_eq_true rfl, Nat.le_of_ble_eq_true rfl⟩) (ci := 0) rfl 0 rfl rfl rfl (Nat.le_of_ble_eq_true rfl) dL_works_168 ⟨Nat.le_of_ble_eq_true rfl, Nat.le_of_ble_eq_true rfl⟩ (fun E h9 => no_px (co_place0 (q := 7) (vp_in_nI hk (MI_bcb hP.1)) (by rw [hk9]; exact c_163)) h9) (fun r u hp => ?_)
        have hr : r = nI (mo_ld (mo_bring M k 8) (mq_bf M k)) := by rw [hp.2, hk9]
        subst hr
        have hg : GO M k 8 := GO_lit (by decide)
        have hW := WK_bring hP hk hg hK4
        refine bh_eqw (w' := wh_hall cI cZ ad (mo_bring M k 8)) (by rw [hk9]) ?_
        refine bh_istore (lv' := [(6, .int (nI (mo_ld (mo_bring M k 8) (mq_bf M k)))), (5, .int (nI (mq_sc M))), (4, .int (mq_pl M k)), (3, .int (nI k)), (0, .ref (ad 0)), (1, .int v), (2, .int (nI (mq_fc M)))]) C dL_works_171 (by decide) rfl ?_
        refine bh_iload C dL_works_173 0 rfl ?_
        refine bh_iconst (v := 1) C dL_works_175 (by decide) ?_
        refine bh_icmp_lt (tgt := 206) C dL_works_176 (by decide) (fun c_176 => absurd c_176 (ld8_ge hP hk)) (fun c_176 => ?_)
        refine bh_iload C dL_works_179 0 rfl ?_
        refine bh_aload_n C dL_works_181 rfl 4 rfl ?_
        refine bh_bipush (v := 8) C dL_works_182 (by decide) ?_
        refine bh_ycalli (As := [.int 8]) C hE (ct_X0_count l hl D cI cZ cL ad (mo_bring M k 8) 8 hW.1.1) (cwV 1 C.1.2.2.2.2 gL_works_X0_count rfl rfl rfl (by decide +kernel) ⟨Nat.le_of_ble_eq_true rfl, Nat.le_of_ble_eq_true rfl⟩) (ci := 0) rfl 0 rfl rfl rfl (Nat.le_of_ble_eq_true rfl) dL_works_184 ⟨Nat.le_of_ble_eq_true rfl, Nat.le_of_ble_eq_true rfl⟩ (fun E h9 => no_px (show co_count 8 = 0 by decide +kernel) h9) (fun r_184 u_184 hp_184 => ?_)
        obtain ⟨-, rfl⟩ := hp_184
        refine bh_icmp_gt (tgt := 206) C dL_works_187 (by decide) (fun c_187 => absurd c_187 (ld8_le hP hk)) (fun c_187 => ?_)
        refine bh_aload_n C dL_works_190 rfl 4 rfl ?_
        refine bh_iload C dL_works_191 1 rfl ?_
        refine bh_iload_n C dL_works_193 rfl 3 rfl ?_
        refine bh_bipush (v := 8) C dL_works_194 (by decide) ?_
        refine bh_calli_X (As := [.ref (ad 0), .int (nI (mq_sc M)), .int (nI k), .int 8]) C hE (ct_L_scanned l hl D cI cZ cL ad (mo_bring M k 8) (mq_sc M) k 8 hW.1.1 (SC_bring _ _ _) hk) ⟨callB_of 4 C.1.2.2.2.2 ggL_works_L_scanned rfl rfl rfl (C.1.2.2.2.2 _ (by decide +kernel)) (C.1.2.2.2.2 _ (by decide +kernel)) (by decide +kernel) ⟨Nat.le_of_ble_eq_true rfl, Nat.le_of_ble_eq_true rfl⟩, C.1.2.2.2.2 _ (by decide +kernel)⟩ rfl rfl (Nat.le_of_ble_eq_true rfl) dL_works_196 ⟨Nat.le_of_ble_eq_true rfl, Nat.le_of_ble_eq_true rfl⟩ (fun _ h9 => h9) (fun r_196 u_196 hp_196 => ?_)
        subst hp_196
        refine bh_if_eq (tgt := 206) C dL_works_199 (by decide) (fun c_199 => absurd c_199 (by decide)) (fun c_199 => ?_)
        refine bh_iconst (v := 1) C dL_works_202 (by decide) ?_
        refine bh_goto (tgt := 207) C dL_works_203 (by decide) ?_
        exact bh_zret C hQ dL_works_207 (mo_bring M k 8) (v := 1) (w := wh_hall cI cZ ad (mo_bring M k 8)) rfl rfl (Nat.le_of_ble_eq_true rfl) (Nat.le_of_ble_eq_true rfl) ⟨rfl, hW⟩
    · skip
      refine bh_aload_n C dL_works_146 rfl 3 rfl ?_
      refine bh_iload C dL_works_147 0 rfl ?_
      refine bh_iload_n C dL_works_149 rfl 2 rfl ?_
      refine bh_aload_n C dL_works_150 rfl 3 rfl ?_
      refine bh_iload_n C dL_works_151 rfl 2 rfl ?_
      refine bh_ycalli (As := [.int (nI k)]) C hE (ct_X0_letGo l hl D cI cZ cL ad M (nI k) hP.1 hK4) (cwV 1 C.1.2.2.2.2 gL_works_X0_letGo rfl rfl rfl (by decide +kernel) ⟨Nat.le_of_ble_eq_true rfl, Nat.le_of_ble_eq_true rfl⟩) (ci := 0) rfl 0 rfl rfl rfl (Nat.le_of_ble_eq_true rfl) dL_works_152 ⟨Nat.le_of_ble_eq_true rfl, Nat.le_of_ble_eq_true rfl⟩ (fun E h9 => no_px (co_place0 (vp_in_nI hk (MI_bcb hP.1)) (by rw [hk9]; exact c_143)) h9) (fun r u hp => ?_)
      have e1 := route_4 c_143
      obtain ⟨r9, hr9⟩ : ∃ q, q = mo_way M (mq_bf M k) := ⟨_, rfl⟩
      rw [← hr9] at e1
      have hr : r = r9 := by rw [hp.2, hk9, e1]; exact bh_upd_same _ _ _
      subst hr
      have hg : GO M k r := by rw [hr9]; exact GO_way _ _
      have hW := WK_bring hP hk hg hK4
      refine bh_eqw (w' := wh_hall cI cZ ad (mo_bring M k r)) (by rw [hk9, e1]) ?_
      refine bh_calli_X (As := [.ref (ad 0), .int (nI (mq_sc M)), .int (nI k), .int r]) C hE (ct_L_scanned l hl D cI cZ cL ad (mo_bring M k r) (mq_sc M) k r hW.1.1 (SC_bring _ _ _) hk) ⟨callB_of 4 C.1.2.2.2.2 ggL_works_L_scanned rfl rfl rfl (C.1.2.2.2.2 _ (by decide +kernel)) (C.1.2.2.2.2 _ (by decide +kernel)) (by decide +kernel) ⟨Nat.le_of_ble_eq_true rfl, Nat.le_of_ble_eq_true rfl⟩, C.1.2.2.2.2 _ (by decide +kernel)⟩ rfl rfl (Nat.le_of_ble_eq_true rfl) dL_works_155 ⟨Nat.le_of_ble_eq_true rfl, Nat.le_of_ble_eq_true rfl⟩ (fun _ h9 => h9) (fun r_155 u_155 hp_155 => ?_)
      subst hp_155
      exact bh_zret C hQ dL_works_158 (mo_bring M k r) (v := 1) (w := wh_hall cI cZ ad (mo_bring M k r)) rfl rfl (Nat.le_of_ble_eq_true rfl) (Nat.le_of_ble_eq_true rfl) ⟨rfl, hW⟩
  · skip
    have h3 := pl_cases hpl hbk.2.1 c_27
    refine bh_iload_n C dL_works_30 rfl 4 rfl ?_
    refine bh_iconst (v := 3) C dL_works_31 (by decide) ?_
    refine bh_calli_N (As := [.int v, .int 3]) C (ct_L_low l D cI cZ cL v 3 (by decide)) ⟨callB_of 2 C.1.2.2.2.2 ggL_works_L_low rfl rfl rfl (C.1.2.2.2.2 _ (by decide +kernel)) (C.1.2.2.2.2 _ (by decide +kernel)) (by decide +kernel) ⟨Nat.le_of_ble_eq_true rfl, Nat.le_of_ble_eq_true rfl⟩, C.1.2.2.2.2 _ (by decide +kernel)⟩ rfl rfl (Nat.le_of_ble_eq_true rfl) dL_works_32 ⟨Nat.le_of_ble_eq_true rfl, Nat.le_of_ble_eq_true rfl⟩ (fun r_32 u_32 hp_32 => ?_)
    subst hp_32
    refine bh_if_le (tgt := 42) C dL_works_35 (by decide) (fun c_35 => ?_) (fun c_35 => ?_)
    · skip
      refine bh_iconst (v := 0) C dL_works_42 (by decide) ?_
      refine bh_istore (lv' := [(6, .int 0), (5, .int (nI (mq_sc M))), (4, .int (mq_pl M k)), (3, .int (nI k)), (0, .ref (ad 0)), (1, .int v), (2, .int (nI (mq_fc M)))]) C dL_works_43 (by decide) rfl ?_
      refine bh_aload_n C dL_works_45 rfl 4 rfl ?_
      refine bh_iload_n C dL_works_46 rfl 3 rfl ?_
      refine bh_iload C dL_works_47 0 rfl ?_
      refine bh_calli_Z (As := [.ref (ad 0), .int (nI k), .int 0]) C hE (ct_L_decide l hl D cI cZ cL ad M k 0 hP.1 hK4 hk h3) (vx_cwSW 3 C.1.2.2.2.2 gL_works_L_decide rfl rfl rfl (by decide +kernel) ⟨Nat.le_of_ble_eq_true rfl, Nat.le_of_ble_eq_true rfl⟩) rfl rfl (Nat.le_of_ble_eq_true rfl) dL_works_49 ⟨Nat.le_of_ble_eq_true rfl, Nat.le_of_ble_eq_true rfl⟩ (fun r u hp => ?_)
      rcases hp with ⟨rfl, hg, h0, h1⟩ | ⟨rfl, rfl⟩
      · have hW := WK_bring hP hk hg hK4
        refine bh_istore (lv' := [(7, .int r), (6, .int 0), (5, .int (nI (mq_sc M))), (4, .int (mq_pl M k)), (3, .int (nI k)), (0, .ref (ad 0)), (1, .int v), (2, .int (nI (mq_fc M)))]) C dL_works_52 (by decide) rfl ?_
        refine bh_iload C dL_works_54 0 rfl ?_
        refine bh_bipush (v := (-3)) C dL_works_56 (by decide) ?_
        refine bh_icmp_ne (tgt := 78) C dL_works_58 (by decide) (fun c_58 => ?_) (fun c_58 => absurd (c_58) (pl_n3 hg.2.1))
        refine bh_aload_n C dL_works_78 rfl 5 rfl ?_
        refine bh_iload C dL_works_79 2 rfl ?_
        refine bh_iload_n C dL_works_81 rfl 4 rfl ?_
        refine bh_iload C dL_works_82 0 rfl ?_
        refine bh_calli_X (As := [.ref (ad 0), .int (nI (mq_sc M)), .int (nI k), .int r]) C hE (ct_L_scanned l hl D cI cZ cL ad (mo_bring M k r) (mq_sc M) k r hW.1.1 (SC_bring _ _ _) hk) ⟨callB_of 4 C.1.2.2.2.2 ggL_works_L_scanned rfl rfl rfl (C.1.2.2.2.2 _ (by decide +kernel)) (C.1.2.2.2.2 _ (by decide +kernel)) (by decide +kernel) ⟨Nat.le_of_ble_eq_true rfl, Nat.le_of_ble_eq_true rfl⟩, C.1.2.2.2.2 _ (by decide +kernel)⟩ rfl rfl (Nat.le_of_ble_eq_true rfl) dL_works_84 ⟨Nat.le_of_ble_eq_true rfl, Nat.le_of_ble_eq_true rfl⟩ (fun _ h9 => h9) (fun r_84 u_84 hp_84 => ?_)
        subst hp_84
        refine bh_if_eq (tgt := 138) C dL_works_87 (by decide) (fun c_87 => absurd c_87 (by decide)) (fun c_87 => ?_)
        refine bh_iload C dL_works_90 1 rfl ?_
        refine bh_if_eq (tgt := 125) C dL_works_92 (by decide) (fun c_92 => ?_) (fun c_92 => absurd c_92 (by decide))
        refine bh_iload C dL_works_125 0 rfl ?_
        refine bh_iload C dL_works_127 3 rfl ?_
        refine bh_iconst (v := 1) C dL_works_129 (by decide) ?_
        refine bh_iadd C dL_works_130 ?_
        refine bh_icmp_ne (tgt := 138) C dL_works_131 (by decide) (fun c_131 => absurd (h0 rfl) c_131) (fun c_131 => ?_)
        refine bh_iconst (v := 1) C dL_works_134 (by decide) ?_
        refine bh_goto (tgt := 139) C dL_works_135 (by decide) ?_
        exact bh_zret C hQ dL_works_139 (mo_bring M k r) (v := 1) (w := wh_hall cI cZ ad (mo_bring M k r)) rfl rfl (Nat.le_of_ble_eq_true rfl) (Nat.le_of_ble_eq_true rfl) ⟨rfl, hW⟩
      · skip
        refine bh_istore (lv' := [(7, .int (-3)), (6, .int 0), (5, .int (nI (mq_sc M))), (4, .int (mq_pl M k)), (3, .int (nI k)), (0, .ref (ad 0)), (1, .int v), (2, .int (nI (mq_fc M)))]) C dL_works_52 (by decide) rfl ?_
        refine bh_iload C dL_works_54 0 rfl ?_
        refine bh_bipush (v := (-3)) C dL_works_56 (by decide) ?_
        refine bh_icmp_ne (tgt := 78) C dL_works_58 (by decide) (fun c_58 => absurd c_58 (by decide)) (fun c_58 => ?_)
        refine bh_aload_n C dL_works_61 rfl 5 rfl ?_
        refine bh_calli_0 (As := []) C (ct_X0_scans l D cI cZ cL ad M) (cwV 0 C.1.2.2.2.2 gL_works_X0_scans rfl rfl rfl (by decide +kernel) ⟨Nat.le_of_ble_eq_true rfl, Nat.le_of_ble_eq_true rfl⟩) (ci := 0) rfl 0 rfl rfl rfl (Nat.le_of_ble_eq_true rfl) dL_works_62 ⟨Nat.le_of_ble_eq_true rfl, Nat.le_of_ble_eq_true rfl⟩ (fun r_62 u_62 hp_62 => ?_)
        subst hp_62
        refine bh_iload C dL_works_65 2 rfl ?_
        refine bh_icmp_ne (tgt := 74) C dL_works_67 (by decide) (fun c_67 => absurd rfl c_67) (fun c_67 => ?_)
        refine bh_iconst (v := 1) C dL_works_70 (by decide) ?_
        refine bh_goto (tgt := 139) C dL_works_71 (by decide) ?_
        exact bh_zret C hQ dL_works_139 M (v := 1) (w := wh_hall cI cZ ad M) rfl rfl (Nat.le_of_ble_eq_true rfl) (Nat.le_of_ble_eq_true rfl) ⟨rfl, WK_rf hP hK4⟩
    · skip
      refine bh_iconst (v := 1) C dL_works_38 (by decide) ?_
      refine bh_goto (tgt := 43) C dL_works_39 (by decide) ?_
      refine bh_istore (lv' := [(6, .int 1), (5, .int (nI (mq_sc M))), (4, .int (mq_pl M k)), (3, .int (nI k)), (0, .ref (ad 0)), (1, .int v), (2, .int (nI (mq_fc M)))]) C dL_works_43 (by decide) rfl ?_
      refine bh_aload_n C dL_works_45 rfl 4 rfl ?_
      refine bh_iload_n C dL_works_46 rfl 3 rfl ?_
      refine bh_iload C dL_works_47 0 rfl ?_
      refine bh_calli_Z (As := [.ref (ad 0), .int (nI k), .int 1]) C hE (ct_L_decide l hl D cI cZ cL ad M k 1 hP.1 hK4 hk h3) (vx_cwSW 3 C.1.2.2.2.2 gL_works_L_decide rfl rfl rfl (by decide +kernel) ⟨Nat.le_of_ble_eq_true rfl, Nat.le_of_ble_eq_true rfl⟩) rfl rfl (Nat.le_of_ble_eq_true rfl) dL_works_49 ⟨Nat.le_of_ble_eq_true rfl, Nat.le_of_ble_eq_true rfl⟩ (fun r u hp => ?_)
      rcases hp with ⟨rfl, hg, h0, h1⟩ | ⟨rfl, rfl⟩
      · have hW := WK_bring hP hk hg hK4
        refine bh_istore (lv' := [(7, .int r), (6, .int 1), (5, .int (nI (mq_sc M))), (4, .int (mq_pl M k)), (3, .int (nI k)), (0, .ref (ad 0)), (1, .int v), (2, .int (nI (mq_fc M)))]) C dL_works_52 (by decide) rfl ?_
        refine bh_iload C dL_works_54 0 rfl ?_
        refine bh_bipush (v := (-3)) C dL_works_56 (by decide) ?_
        refine bh_icmp_ne (tgt := 78) C dL_works_58 (by decide) (fun c_58 => ?_) (fun c_58 => absurd (c_58) (pl_n3 hg.2.1))
        refine bh_aload_n C dL_works_78 rfl 5 rfl ?_
        refine bh_iload C dL_works_79 2 rfl ?_
        refine bh_iload_n C dL_works_81 rfl 4 rfl ?_
        refine bh_iload C dL_works_82 0 rfl ?_
        refine bh_calli_X (As := [.ref (ad 0), .int (nI (mq_sc M)), .int (nI k), .int r]) C hE (ct_L_scanned l hl D cI cZ cL ad (mo_bring M k r) (mq_sc M) k r hW.1.1 (SC_bring _ _ _) hk) ⟨callB_of 4 C.1.2.2.2.2 ggL_works_L_scanned rfl rfl rfl (C.1.2.2.2.2 _ (by decide +kernel)) (C.1.2.2.2.2 _ (by decide +kernel)) (by decide +kernel) ⟨Nat.le_of_ble_eq_true rfl, Nat.le_of_ble_eq_true rfl⟩, C.1.2.2.2.2 _ (by decide +kernel)⟩ rfl rfl (Nat.le_of_ble_eq_true rfl) dL_works_84 ⟨Nat.le_of_ble_eq_true rfl, Nat.le_of_ble_eq_true rfl⟩ (fun _ h9 => h9) (fun r_84 u_84 hp_84 => ?_)
        subst hp_84
        refine bh_if_eq (tgt := 138) C dL_works_87 (by decide) (fun c_87 => absurd c_87 (by decide)) (fun c_87 => ?_)
        refine bh_iload C dL_works_90 1 rfl ?_
        refine bh_if_eq (tgt := 125) C dL_works_92 (by decide) (fun c_92 => absurd c_92 (by decide)) (fun c_92 => ?_)
        refine bh_iload C dL_works_95 0 rfl ?_
        refine bh_iconst (v := 5) C dL_works_97 (by decide) ?_
        refine bh_icmp_eq (tgt := 134) C dL_works_98 (by decide) (fun c_98 => ?_) (fun c_98 => ?_)
        · skip
          refine bh_iconst (v := 1) C dL_works_134 (by decide) ?_
          refine bh_goto (tgt := 139) C dL_works_135 (by decide) ?_
          exact bh_zret C hQ dL_works_139 (mo_bring M k r) (v := 1) (w := wh_hall cI cZ ad (mo_bring M k r)) rfl rfl (Nat.le_of_ble_eq_true rfl) (Nat.le_of_ble_eq_true rfl) ⟨rfl, hW⟩
        · skip
          refine bh_iload C dL_works_101 0 rfl ?_
          refine bh_bipush (v := 6) C dL_works_103 (by decide) ?_
          refine bh_icmp_eq (tgt := 134) C dL_works_105 (by decide) (fun c_105 => ?_) (fun c_105 => ?_)
          · skip
            refine bh_iconst (v := 1) C dL_works_134 (by decide) ?_
            refine bh_goto (tgt := 139) C dL_works_135 (by decide) ?_
            exact bh_zret C hQ dL_works_139 (mo_bring M k r) (v := 1) (w := wh_hall cI cZ ad (mo_bring M k r)) rfl rfl (Nat.le_of_ble_eq_true rfl) (Nat.le_of_ble_eq_true rfl) ⟨rfl, hW⟩
          · skip
            refine bh_iload C dL_works_108 0 rfl ?_
            refine bh_bipush (v := 7) C dL_works_110 (by decide) ?_
            refine bh_icmp_eq (tgt := 134) C dL_works_112 (by decide) (fun c_112 => ?_) (fun c_112 => ?_)
            · skip
              refine bh_iconst (v := 1) C dL_works_134 (by decide) ?_
              refine bh_goto (tgt := 139) C dL_works_135 (by decide) ?_
              exact bh_zret C hQ dL_works_139 (mo_bring M k r) (v := 1) (w := wh_hall cI cZ ad (mo_bring M k r)) rfl rfl (Nat.le_of_ble_eq_true rfl) (Nat.le_of_ble_eq_true rfl) ⟨rfl, hW⟩
            · skip
              refine bh_iload C dL_works_115 0 rfl ?_
              refine bh_bipush (v := 11) C dL_works_117 (by decide) ?_
              refine bh_icmp_ne (tgt := 138) C dL_works_119 (by decide) (fun c_119 => (h1 (by decide)).elim (fun q => absurd q c_98) (fun q => q.elim (fun q => absurd q c_105) (fun q => q.elim (fun q => absurd q c_112) (fun q => absurd q c_119)))) (fun c_119 => ?_)
              refine bh_goto (tgt := 134) C dL_works_122 (by decide) ?_
              refine bh_iconst (v := 1) C dL_works_134 (by decide) ?_
              refine bh_goto (tgt := 139) C dL_works_135 (by decide) ?_
              exact bh_zret C hQ dL_works_139 (mo_bring M k r) (v := 1) (w := wh_hall cI cZ ad (mo_bring M k r)) rfl rfl (Nat.le_of_ble_eq_true rfl) (Nat.le_of_ble_eq_true rfl) ⟨rfl, hW⟩
      · skip
        refine bh_istore (lv' := [(7, .int (-3)), (6, .int 1), (5, .int (nI (mq_sc M))), (4, .int (mq_pl M k)), (3, .int (nI k)), (0, .ref (ad 0)), (1, .int v), (2, .int (nI (mq_fc M)))]) C dL_works_52 (by decide) rfl ?_
        refine bh_iload C dL_works_54 0 rfl ?_
        refine bh_bipush (v := (-3)) C dL_works_56 (by decide) ?_
        refine bh_icmp_ne (tgt := 78) C dL_works_58 (by decide) (fun c_58 => absurd c_58 (by decide)) (fun c_58 => ?_)
        refine bh_aload_n C dL_works_61 rfl 5 rfl ?_
        refine bh_calli_0 (As := []) C (ct_X0_scans l D cI cZ cL ad M) (cwV 0 C.1.2.2.2.2 gL_works_X0_scans rfl rfl rfl (by decide +kernel) ⟨Nat.le_of_ble_eq_true rfl, Nat.le_of_ble_eq_true rfl⟩) (ci := 0) rfl 0 rfl rfl rfl (Nat.le_of_ble_eq_true rfl) dL_works_62 ⟨Nat.le_of_ble_eq_true rfl, Nat.le_of_ble_eq_true rfl⟩ (fun r_62 u_62 hp_62 => ?_)
        subst hp_62
        refine bh_iload C dL_works_65 2 rfl ?_
        refine bh_icmp_ne (tgt := 74) C dL_works_67 (by decide) (fun c_67 => absurd rfl c_67) (fun c_67 => ?_)
        refine bh_iconst (v := 1) C dL_works_70 (by decide) ?_
        refine bh_goto (tgt := 139) C dL_works_71 (by decide) ?_
        exact bh_zret C hQ dL_works_139 M (v := 1) (w := wh_hall cI cZ ad M) rfl rfl (Nat.le_of_ble_eq_true rfl) (Nat.le_of_ble_eq_true rfl) ⟨rfl, WK_rf hP hK4⟩
