set_option maxRecDepth 100000 in
set_option maxHeartbeats 4000000 in
theorem law_addFlight {p : Program} {e : Env} {s : State} {m : MethodId} {below : List Frame} {meth : Method} {c : Code} {l : Launch} (hl : l.stackTraces = false) {D : va_G} {cI cZ cL : ClassId} {A : Nat → Prop} {rt : Option FieldType} {b L : Nat} {xs : Nat → Int32} {ad bd : Nat → Nat} {o : Nat} {Q : State → Prop} (C : bh_C p s m #[.ref b] meth c cL_law 7 wsL_law RL D (wh_tys cI cZ cL) A rt) (hE : xe_E A s s.heap) (hX : va_X b L xs s s.heap) (hbl : b < s.heap.size) (hbA : ¬ A b) (hL : L ≤ 1536) {i : Nat} (hi : 3 * i + 2 < L) {M : MT} {thr : Int32} {g : Nat → Int64} (hI : MI (4 * i) (200 * i) M)
    (kont : ∀ (M9 : MT) (t9 : Int32) (g9 : Nat → Int64), MI (4 * i + 4) (200 * i + 200) M9 → bh_W p l e room_1 s m #[.ref b] below meth c 7 D A (26 + i + 1) (12900 + 6 * i + 6) Q (wh_modl cI bd M9 t9 ++ (wh_hall cI cZ ad M9 ++ [wh_out cL o g9])) [(4, .int (nI (3 * i))), (3, .ref o), (2, .ref (bd 0)), (1, .ref (ad 0)), (0, .ref b)] 1414 []) :
    bh_W p l e room_1 s m #[.ref b] below meth c 7 D A (26 + i) (12900 + 6 * i) Q (wh_modl cI bd M thr ++ (wh_hall cI cZ ad M ++ [wh_out cL o g])) [(4, .int (nI (3 * i))), (3, .ref o), (2, .ref (bd 0)), (1, .ref (ad 0)), (0, .ref b)] 144 [] := by
  have hK4 : 4 * i + 4 ≤ 2048 := by omega
  have hT : 200 * i + 200 ≤ 102400 := by omega
  refine bh_aload_n C dL_law_144 rfl 3 rfl ?_
  refine bh_aload_n C dL_law_145 rfl 4 rfl ?_
  refine bh_iload C dL_law_146 0 rfl ?_
  refine bh_iconst (v := 1) C dL_law_148 (by decide) ?_
  refine bh_iadd C dL_law_149 ?_
  refine bh_topi (show nI (3 * i) + 1 = nI (3 * i + 1) from nI_add _ 1) ?_
  refine bh_sld C hX hbl hbA (vp_in_nI (n := 3 * i + 1) (by omega) (by omega)) (congrArg xs (nI_clamp (n := 3 * i + 1) (by omega))) dL_law_150 ?_
  refine bh_aload_n C dL_law_151 rfl 1 rfl ?_
  refine bh_calli_W (As := [.ref (ad 0), .int (xs (3 * i + 1)), .ref o]) C hE (ct_L_addFlight l hl D cI cZ cL ad o M (xs (3 * i + 1)) g hI) (vx_cwSW 3 C.1.2.2.2.2 gL_law_L_addFlight rfl rfl rfl (by decide +kernel) ⟨Nat.le_of_ble_eq_true rfl, Nat.le_of_ble_eq_true rfl⟩) rfl rfl (Nat.le_of_ble_eq_true rfl) dL_law_152 ⟨(show 26 + i + 1 ≤ 1065 by omega), (show 12900 + 6 * i + 6 ≤ 21124 by omega)⟩ (fun r g1 hp => ?_)
  obtain ⟨rfl, hg⟩ := hp
  refine bh_istore (lv' := [(5, .int (co_add M (xs (3 * i + 1)))), (4, .int (nI (3 * i))), (3, .ref o), (2, .ref (bd 0)), (1, .ref (ad 0)), (0, .ref b)]) C dL_law_155 (by decide) rfl ?_
  refine bh_aload_n C dL_law_157 rfl 3 rfl ?_
  refine bh_aload_n C dL_law_158 rfl 5 rfl ?_
  refine bh_iload C dL_law_159 1 rfl ?_
  refine bh_iconst (v := 1) C dL_law_161 (by decide) ?_
  refine bh_iadd C dL_law_162 ?_
  refine bh_topi (show nI (3 * i) + 1 = nI (3 * i + 1) from nI_add _ 1) ?_
  refine bh_sld C hX hbl hbA (vp_in_nI (n := 3 * i + 1) (by omega) (by omega)) (congrArg xs (nI_clamp (n := 3 * i + 1) (by omega))) dL_law_163 ?_
  refine bh_calli_L (As := [.int (xs (3 * i + 1))]) C (ct_X1_addFlight l D cI cZ cL bd M thr (xs (3 * i + 1)) hI) (cwV 1 C.1.2.2.2.2 gL_law_X1_addFlight rfl rfl rfl (by decide +kernel) ⟨Nat.le_of_ble_eq_true rfl, Nat.le_of_ble_eq_true rfl⟩) (ci := 1) rfl 0 rfl rfl rfl (Nat.le_of_ble_eq_true rfl) dL_law_164 ⟨by show _ ≤ 1065; omega, by show _ ≤ 21124; omega⟩ (fun r1 u hq => ?_)
  refine bh_istore (lv' := [(6, .int r1), (5, .int (co_add M (xs (3 * i + 1)))), (4, .int (nI (3 * i))), (3, .ref o), (2, .ref (bd 0)), (1, .ref (ad 0)), (0, .ref b)]) C dL_law_167 (by decide) rfl ?_
  refine bh_aload_n C dL_law_169 rfl 4 rfl ?_
  refine bh_calli_L (As := []) C (ct_X1_thrown l D cI cZ cL bd (mo_sel (co_add M (xs (3 * i + 1))) (mo_add M (xs (3 * i + 1))) M) (co_add M (xs (3 * i + 1)))) (cwV 0 C.1.2.2.2.2 gL_law_X1_thrown rfl rfl rfl (by decide +kernel) ⟨Nat.le_of_ble_eq_true rfl, Nat.le_of_ble_eq_true rfl⟩) (ci := 1) rfl 0 rfl rfl rfl (Nat.le_of_ble_eq_true rfl) dL_law_170 ⟨by show _ ≤ 1065; omega, by show _ ≤ 21124; omega⟩ (fun r u hq9 => ?_)
  subst hq9
  refine bh_iload C dL_law_173 1 rfl ?_
  refine bh_icmp_eq (tgt := 180) C dL_law_175 (by decide) (fun c_175 => ?_) (fun c_175 => absurd rfl c_175)
  refine bh_iload C dL_law_180 1 rfl ?_
  refine bh_if_ne (tgt := 197) C dL_law_182 (by decide) (fun cn => ?_) (fun cn => ?_)
  · skip
    refine bh_goto (tgt := 1414) C dL_law_197 (by decide) ?_
    refine bh_lv (lv' := [(4, .int (nI (3 * i))), (3, .ref o), (2, .ref (bd 0)), (1, .ref (ad 0)), (0, .ref b)]) [2, 3, 4, 5, 6] rfl ?_
    refine bh_widen (k := 26 + i + 1) (n := 12900 + 6 * i + 6) (by omega) (by omega) ?_
    exact kont _ _ _ (MO_addFlight hI hK4 hT (xs (3 * i + 1)))
  · skip
    refine bh_aload_n C dL_law_185 rfl 3 rfl ?_
    refine bh_iconst (v := 0) C dL_law_186 (by decide) ?_
    refine bh_lald C 24 2 (f := g1) rfl rfl (vp_in_nI (n := 0) (by decide) (by decide)) (x := g1 0) (congrArg g1 (by decide +kernel)) dL_law_187 ?_
    refine bh_iload C dL_law_188 0 rfl ?_
    refine bh_i2l C dL_law_190 rfl ?_
    refine bh_lcmp C dL_law_191 ?_
    refine bh_if_eq (tgt := 197) C dL_law_192 (by decide) (fun _ => ?_) (fun c_192 => absurd ((lg_cmp_eq _ _).mpr (by rw [hg cn, hq cn])) c_192)
    refine bh_goto (tgt := 1414) C dL_law_197 (by decide) ?_
    refine bh_lv (lv' := [(4, .int (nI (3 * i))), (3, .ref o), (2, .ref (bd 0)), (1, .ref (ad 0)), (0, .ref b)]) [2, 3, 4, 5, 6] rfl ?_
    refine bh_widen (k := 26 + i + 1) (n := 12900 + 6 * i + 6) (by omega) (by omega) ?_
    exact kont _ _ _ (MO_addFlight hI hK4 hT (xs (3 * i + 1)))
set_option maxRecDepth 100000 in
set_option maxHeartbeats 4000000 in
theorem law_board {p : Program} {e : Env} {s : State} {m : MethodId} {below : List Frame} {meth : Method} {c : Code} {l : Launch} (hl : l.stackTraces = false) {D : va_G} {cI cZ cL : ClassId} {A : Nat → Prop} {rt : Option FieldType} {b L : Nat} {xs : Nat → Int32} {ad bd : Nat → Nat} {o : Nat} {Q : State → Prop} (C : bh_C p s m #[.ref b] meth c cL_law 7 wsL_law RL D (wh_tys cI cZ cL) A rt) (hE : xe_E A s s.heap) (hX : va_X b L xs s s.heap) (hbl : b < s.heap.size) (hbA : ¬ A b) (hL : L ≤ 1536) {i : Nat} (hi : 3 * i + 2 < L) {M : MT} {thr : Int32} {g : Nat → Int64} (hI : MI (4 * i) (200 * i) M)
    (kont : ∀ (M9 : MT) (t9 : Int32) (g9 : Nat → Int64), MI (4 * i + 4) (200 * i + 200) M9 → bh_W p l e room_1 s m #[.ref b] below meth c 7 D A (26 + i + 1) (12900 + 6 * i + 6) Q (wh_modl cI bd M9 t9 ++ (wh_hall cI cZ ad M9 ++ [wh_out cL o g9])) [(4, .int (nI (3 * i))), (3, .ref o), (2, .ref (bd 0)), (1, .ref (ad 0)), (0, .ref b)] 1414 []) :
    bh_W p l e room_1 s m #[.ref b] below meth c 7 D A (26 + i) (12900 + 6 * i) Q (wh_modl cI bd M thr ++ (wh_hall cI cZ ad M ++ [wh_out cL o g])) [(4, .int (nI (3 * i))), (3, .ref o), (2, .ref (bd 0)), (1, .ref (ad 0)), (0, .ref b)] 200 [] := by
  have hK4 : 4 * i + 4 ≤ 2048 := by omega
  have hT : 200 * i + 200 ≤ 102400 := by omega
  refine bh_aload_n C dL_law_200 rfl 3 rfl ?_
  refine bh_aload_n C dL_law_201 rfl 4 rfl ?_
  refine bh_iload C dL_law_202 0 rfl ?_
  refine bh_iconst (v := 1) C dL_law_204 (by decide) ?_
  refine bh_iadd C dL_law_205 ?_
  refine bh_topi (show nI (3 * i) + 1 = nI (3 * i + 1) from nI_add _ 1) ?_
  refine bh_sld C hX hbl hbA (vp_in_nI (n := 3 * i + 1) (by omega) (by omega)) (congrArg xs (nI_clamp (n := 3 * i + 1) (by omega))) dL_law_206 ?_
  refine bh_aload_n C dL_law_207 rfl 4 rfl ?_
  refine bh_iload C dL_law_208 0 rfl ?_
  refine bh_iconst (v := 2) C dL_law_210 (by decide) ?_
  refine bh_iadd C dL_law_211 ?_
  refine bh_topi (show nI (3 * i) + 2 = nI (3 * i + 2) from nI_add _ 2) ?_
  refine bh_sld C hX hbl hbA (vp_in_nI (n := 3 * i + 2) (by omega) (by omega)) (congrArg xs (nI_clamp (n := 3 * i + 2) (by omega))) dL_law_212 ?_
  refine bh_if_eq (tgt := 220) C dL_law_213 (by decide) (fun cz => ?_) (fun cz => ?_)
  · skip
    refine bh_iconst (v := 0) C dL_law_220 (by decide) ?_
    refine bh_aload_n C dL_law_221 rfl 1 rfl ?_
    refine bh_calli_W (As := [.ref (ad 0), .int (xs (3 * i + 1)), .int 0, .ref o]) C hE (ct_L_board l hl D cI cZ cL ad o M (xs (3 * i + 1)) 0 g hI (Or.inl rfl)) (vx_cwSW 4 C.1.2.2.2.2 gL_law_L_board rfl rfl rfl (by decide +kernel) ⟨Nat.le_of_ble_eq_true rfl, Nat.le_of_ble_eq_true rfl⟩) rfl rfl (Nat.le_of_ble_eq_true rfl) dL_law_222 ⟨(show 26 + i + 1 ≤ 1065 by omega), (show 12900 + 6 * i + 6 ≤ 21124 by omega)⟩ (fun r g1 hp => ?_)
    obtain ⟨rfl, hg⟩ := hp
    refine bh_istore (lv' := [(5, .int (co_in (xs (3 * i + 1)) 40)), (4, .int (nI (3 * i))), (3, .ref o), (2, .ref (bd 0)), (1, .ref (ad 0)), (0, .ref b)]) C dL_law_225 (by decide) rfl ?_
    refine bh_aload_n C dL_law_227 rfl 3 rfl ?_
    refine bh_aload_n C dL_law_228 rfl 5 rfl ?_
    refine bh_iload C dL_law_229 1 rfl ?_
    refine bh_iconst (v := 1) C dL_law_231 (by decide) ?_
    refine bh_iadd C dL_law_232 ?_
    refine bh_topi (show nI (3 * i) + 1 = nI (3 * i + 1) from nI_add _ 1) ?_
    refine bh_sld C hX hbl hbA (vp_in_nI (n := 3 * i + 1) (by omega) (by omega)) (congrArg xs (nI_clamp (n := 3 * i + 1) (by omega))) dL_law_233 ?_
    refine bh_aload_n C dL_law_234 rfl 5 rfl ?_
    refine bh_iload C dL_law_235 1 rfl ?_
    refine bh_iconst (v := 2) C dL_law_237 (by decide) ?_
    refine bh_iadd C dL_law_238 ?_
    refine bh_topi (show nI (3 * i) + 2 = nI (3 * i + 2) from nI_add _ 2) ?_
    refine bh_sld C hX hbl hbA (vp_in_nI (n := 3 * i + 2) (by omega) (by omega)) (congrArg xs (nI_clamp (n := 3 * i + 2) (by omega))) dL_law_239 ?_
    refine bh_if_eq (tgt := 247) C dL_law_240 (by decide) (fun c_240 => ?_) (fun c_240 => absurd cz c_240)
    refine bh_iconst (v := 0) C dL_law_247 (by decide) ?_
    refine bh_calli_L (As := [.int (xs (3 * i + 1)), .int 0]) C (ct_X1_board l D cI cZ cL bd M thr (xs (3 * i + 1)) 0 hI (Or.inl rfl)) (cwV 2 C.1.2.2.2.2 gL_law_X1_board rfl rfl rfl (by decide +kernel) ⟨Nat.le_of_ble_eq_true rfl, Nat.le_of_ble_eq_true rfl⟩) (ci := 1) rfl 0 rfl rfl rfl (Nat.le_of_ble_eq_true rfl) dL_law_248 ⟨by show _ ≤ 1065; omega, by show _ ≤ 21124; omega⟩ (fun r1 u hq => ?_)
    refine bh_istore (lv' := [(6, .int r1), (5, .int (co_in (xs (3 * i + 1)) 40)), (4, .int (nI (3 * i))), (3, .ref o), (2, .ref (bd 0)), (1, .ref (ad 0)), (0, .ref b)]) C dL_law_251 (by decide) rfl ?_
    refine bh_aload_n C dL_law_253 rfl 4 rfl ?_
    refine bh_calli_L (As := []) C (ct_X1_thrown l D cI cZ cL bd (mo_sel (co_in (xs (3 * i + 1)) 40) (mo_board M (xs (3 * i + 1)) 0) M) (co_in (xs (3 * i + 1)) 40)) (cwV 0 C.1.2.2.2.2 gL_law_X1_thrown rfl rfl rfl (by decide +kernel) ⟨Nat.le_of_ble_eq_true rfl, Nat.le_of_ble_eq_true rfl⟩) (ci := 1) rfl 0 rfl rfl rfl (Nat.le_of_ble_eq_true rfl) dL_law_254 ⟨by show _ ≤ 1065; omega, by show _ ≤ 21124; omega⟩ (fun r u hq9 => ?_)
    subst hq9
    refine bh_iload C dL_law_257 1 rfl ?_
    refine bh_icmp_eq (tgt := 264) C dL_law_259 (by decide) (fun c_259 => ?_) (fun c_259 => absurd rfl c_259)
    refine bh_iload C dL_law_264 1 rfl ?_
    refine bh_if_ne (tgt := 288) C dL_law_266 (by decide) (fun cn => ?_) (fun cn => ?_)
    · skip
      refine bh_goto (tgt := 1414) C dL_law_288 (by decide) ?_
      refine bh_lv (lv' := [(4, .int (nI (3 * i))), (3, .ref o), (2, .ref (bd 0)), (1, .ref (ad 0)), (0, .ref b)]) [2, 3, 4, 5, 6] rfl ?_
      refine bh_widen (k := 26 + i + 1) (n := 12900 + 6 * i + 6) (by omega) (by omega) ?_
      exact kont _ _ _ (MO_board hI hK4 hT (xs (3 * i + 1)) 0 (Or.inl rfl))
    · skip
      refine bh_aload_n C dL_law_269 rfl 3 rfl ?_
      refine bh_iconst (v := 0) C dL_law_270 (by decide) ?_
      refine bh_lald C 24 2 (f := g1) rfl rfl (vp_in_nI (n := 0) (by decide) (by decide)) (x := g1 0) (congrArg g1 (by decide +kernel)) dL_law_271 ?_
      refine bh_iload C dL_law_272 0 rfl ?_
      refine bh_if_eq (tgt := 281) C dL_law_274 (by decide) (fun cb => ?_) (fun cb => ?_)
      · skip
        refine bh_lconst0 C dL_law_281 ?_
        refine bh_lcmp C dL_law_282 ?_
        refine bh_if_eq (tgt := 288) C dL_law_283 (by decide) (fun _ => ?_) (fun c_283 => absurd ((lg_cmp_eq _ _).mpr (by rw [hg cn, ← hq cn, cb]; rfl)) c_283)
        refine bh_goto (tgt := 1414) C dL_law_288 (by decide) ?_
        refine bh_lv (lv' := [(4, .int (nI (3 * i))), (3, .ref o), (2, .ref (bd 0)), (1, .ref (ad 0)), (0, .ref b)]) [2, 3, 4, 5, 6] rfl ?_
        refine bh_widen (k := 26 + i + 1) (n := 12900 + 6 * i + 6) (by omega) (by omega) ?_
        exact kont _ _ _ (MO_board hI hK4 hT (xs (3 * i + 1)) 0 (Or.inl rfl))
      · skip
        refine bh_lconst1 C dL_law_277 ?_
        refine bh_goto (tgt := 282) C dL_law_278 (by decide) ?_
        refine bh_lcmp C dL_law_282 ?_
        refine bh_if_eq (tgt := 288) C dL_law_283 (by decide) (fun _ => ?_) (fun c_283 => absurd ((lg_cmp_eq _ _).mpr (by rw [hg cn, (MI_brd hI _).resolve_left (fun q => cb ((hq cn).trans q))]; rfl)) c_283)
        refine bh_goto (tgt := 1414) C dL_law_288 (by decide) ?_
        refine bh_lv (lv' := [(4, .int (nI (3 * i))), (3, .ref o), (2, .ref (bd 0)), (1, .ref (ad 0)), (0, .ref b)]) [2, 3, 4, 5, 6] rfl ?_
        refine bh_widen (k := 26 + i + 1) (n := 12900 + 6 * i + 6) (by omega) (by omega) ?_
        exact kont _ _ _ (MO_board hI hK4 hT (xs (3 * i + 1)) 0 (Or.inl rfl))
  · skip
    refine bh_iconst (v := 1) C dL_law_216 (by decide) ?_
    refine bh_goto (tgt := 221) C dL_law_217 (by decide) ?_
    refine bh_aload_n C dL_law_221 rfl 1 rfl ?_
    refine bh_calli_W (As := [.ref (ad 0), .int (xs (3 * i + 1)), .int 1, .ref o]) C hE (ct_L_board l hl D cI cZ cL ad o M (xs (3 * i + 1)) 1 g hI (Or.inr rfl)) (vx_cwSW 4 C.1.2.2.2.2 gL_law_L_board rfl rfl rfl (by decide +kernel) ⟨Nat.le_of_ble_eq_true rfl, Nat.le_of_ble_eq_true rfl⟩) rfl rfl (Nat.le_of_ble_eq_true rfl) dL_law_222 ⟨(show 26 + i + 1 ≤ 1065 by omega), (show 12900 + 6 * i + 6 ≤ 21124 by omega)⟩ (fun r g1 hp => ?_)
    obtain ⟨rfl, hg⟩ := hp
    refine bh_istore (lv' := [(5, .int (co_in (xs (3 * i + 1)) 40)), (4, .int (nI (3 * i))), (3, .ref o), (2, .ref (bd 0)), (1, .ref (ad 0)), (0, .ref b)]) C dL_law_225 (by decide) rfl ?_
    refine bh_aload_n C dL_law_227 rfl 3 rfl ?_
    refine bh_aload_n C dL_law_228 rfl 5 rfl ?_
    refine bh_iload C dL_law_229 1 rfl ?_
    refine bh_iconst (v := 1) C dL_law_231 (by decide) ?_
    refine bh_iadd C dL_law_232 ?_
    refine bh_topi (show nI (3 * i) + 1 = nI (3 * i + 1) from nI_add _ 1) ?_
    refine bh_sld C hX hbl hbA (vp_in_nI (n := 3 * i + 1) (by omega) (by omega)) (congrArg xs (nI_clamp (n := 3 * i + 1) (by omega))) dL_law_233 ?_
    refine bh_aload_n C dL_law_234 rfl 5 rfl ?_
    refine bh_iload C dL_law_235 1 rfl ?_
    refine bh_iconst (v := 2) C dL_law_237 (by decide) ?_
    refine bh_iadd C dL_law_238 ?_
    refine bh_topi (show nI (3 * i) + 2 = nI (3 * i + 2) from nI_add _ 2) ?_
    refine bh_sld C hX hbl hbA (vp_in_nI (n := 3 * i + 2) (by omega) (by omega)) (congrArg xs (nI_clamp (n := 3 * i + 2) (by omega))) dL_law_239 ?_
    refine bh_if_eq (tgt := 247) C dL_law_240 (by decide) (fun c_240 => absurd c_240 cz) (fun c_240 => ?_)
    refine bh_iconst (v := 1) C dL_law_243 (by decide) ?_
    refine bh_goto (tgt := 248) C dL_law_244 (by decide) ?_
    refine bh_calli_L (As := [.int (xs (3 * i + 1)), .int 1]) C (ct_X1_board l D cI cZ cL bd M thr (xs (3 * i + 1)) 1 hI (Or.inr rfl)) (cwV 2 C.1.2.2.2.2 gL_law_X1_board rfl rfl rfl (by decide +kernel) ⟨Nat.le_of_ble_eq_true rfl, Nat.le_of_ble_eq_true rfl⟩) (ci := 1) rfl 0 rfl rfl rfl (Nat.le_of_ble_eq_true rfl) dL_law_248 ⟨by show _ ≤ 1065; omega, by show _ ≤ 21124; omega⟩ (fun r1 u hq => ?_)
    refine bh_istore (lv' := [(6, .int r1), (5, .int (co_in (xs (3 * i + 1)) 40)), (4, .int (nI (3 * i))), (3, .ref o), (2, .ref (bd 0)), (1, .ref (ad 0)), (0, .ref b)]) C dL_law_251 (by decide) rfl ?_
    refine bh_aload_n C dL_law_253 rfl 4 rfl ?_
    refine bh_calli_L (As := []) C (ct_X1_thrown l D cI cZ cL bd (mo_sel (co_in (xs (3 * i + 1)) 40) (mo_board M (xs (3 * i + 1)) 1) M) (co_in (xs (3 * i + 1)) 40)) (cwV 0 C.1.2.2.2.2 gL_law_X1_thrown rfl rfl rfl (by decide +kernel) ⟨Nat.le_of_ble_eq_true rfl, Nat.le_of_ble_eq_true rfl⟩) (ci := 1) rfl 0 rfl rfl rfl (Nat.le_of_ble_eq_true rfl) dL_law_254 ⟨by show _ ≤ 1065; omega, by show _ ≤ 21124; omega⟩ (fun r u hq9 => ?_)
    subst hq9
    refine bh_iload C dL_law_257 1 rfl ?_
    refine bh_icmp_eq (tgt := 264) C dL_law_259 (by decide) (fun c_259 => ?_) (fun c_259 => absurd rfl c_259)
    refine bh_iload C dL_law_264 1 rfl ?_
    refine bh_if_ne (tgt := 288) C dL_law_266 (by decide) (fun cn => ?_) (fun cn => ?_)
    · skip
      refine bh_goto (tgt := 1414) C dL_law_288 (by decide) ?_
      refine bh_lv (lv' := [(4, .int (nI (3 * i))), (3, .ref o), (2, .ref (bd 0)), (1, .ref (ad 0)), (0, .ref b)]) [2, 3, 4, 5, 6] rfl ?_
      refine bh_widen (k := 26 + i + 1) (n := 12900 + 6 * i + 6) (by omega) (by omega) ?_
      exact kont _ _ _ (MO_board hI hK4 hT (xs (3 * i + 1)) 1 (Or.inr rfl))
    · skip
      refine bh_aload_n C dL_law_269 rfl 3 rfl ?_
      refine bh_iconst (v := 0) C dL_law_270 (by decide) ?_
      refine bh_lald C 24 2 (f := g1) rfl rfl (vp_in_nI (n := 0) (by decide) (by decide)) (x := g1 0) (congrArg g1 (by decide +kernel)) dL_law_271 ?_
      refine bh_iload C dL_law_272 0 rfl ?_
      refine bh_if_eq (tgt := 281) C dL_law_274 (by decide) (fun cb => ?_) (fun cb => ?_)
      · skip
        refine bh_lconst0 C dL_law_281 ?_
        refine bh_lcmp C dL_law_282 ?_
        refine bh_if_eq (tgt := 288) C dL_law_283 (by decide) (fun _ => ?_) (fun c_283 => absurd ((lg_cmp_eq _ _).mpr (by rw [hg cn, ← hq cn, cb]; rfl)) c_283)
        refine bh_goto (tgt := 1414) C dL_law_288 (by decide) ?_
        refine bh_lv (lv' := [(4, .int (nI (3 * i))), (3, .ref o), (2, .ref (bd 0)), (1, .ref (ad 0)), (0, .ref b)]) [2, 3, 4, 5, 6] rfl ?_
        refine bh_widen (k := 26 + i + 1) (n := 12900 + 6 * i + 6) (by omega) (by omega) ?_
        exact kont _ _ _ (MO_board hI hK4 hT (xs (3 * i + 1)) 1 (Or.inr rfl))
      · skip
        refine bh_lconst1 C dL_law_277 ?_
        refine bh_goto (tgt := 282) C dL_law_278 (by decide) ?_
        refine bh_lcmp C dL_law_282 ?_
        refine bh_if_eq (tgt := 288) C dL_law_283 (by decide) (fun _ => ?_) (fun c_283 => absurd ((lg_cmp_eq _ _).mpr (by rw [hg cn, (MI_brd hI _).resolve_left (fun q => cb ((hq cn).trans q))]; rfl)) c_283)
        refine bh_goto (tgt := 1414) C dL_law_288 (by decide) ?_
        refine bh_lv (lv' := [(4, .int (nI (3 * i))), (3, .ref o), (2, .ref (bd 0)), (1, .ref (ad 0)), (0, .ref b)]) [2, 3, 4, 5, 6] rfl ?_
        refine bh_widen (k := 26 + i + 1) (n := 12900 + 6 * i + 6) (by omega) (by omega) ?_
        exact kont _ _ _ (MO_board hI hK4 hT (xs (3 * i + 1)) 1 (Or.inr rfl))
set_option maxRecDepth 100000 in
set_option maxHeartbeats 4000000 in
theorem law_pass {p : Program} {e : Env} {s : State} {m : MethodId} {below : List Frame} {meth : Method} {c : Code} {l : Launch} (hl : l.stackTraces = false) {D : va_G} {cI cZ cL : ClassId} {A : Nat → Prop} {rt : Option FieldType} {b L : Nat} {xs : Nat → Int32} {ad bd : Nat → Nat} {o : Nat} {Q : State → Prop} (C : bh_C p s m #[.ref b] meth c cL_law 7 wsL_law RL D (wh_tys cI cZ cL) A rt) (hE : xe_E A s s.heap) (hX : va_X b L xs s s.heap) (hbl : b < s.heap.size) (hbA : ¬ A b) (hL : L ≤ 1536) {i : Nat} (hi : 3 * i + 2 < L) {M : MT} {thr : Int32} {g : Nat → Int64} (hI : MI (4 * i) (200 * i) M)
    (kont : ∀ (M9 : MT) (t9 : Int32) (g9 : Nat → Int64), MI (4 * i + 4) (200 * i + 200) M9 → bh_W p l e room_1 s m #[.ref b] below meth c 7 D A (26 + i + 1) (12900 + 6 * i + 6) Q (wh_modl cI bd M9 t9 ++ (wh_hall cI cZ ad M9 ++ [wh_out cL o g9])) [(4, .int (nI (3 * i))), (3, .ref o), (2, .ref (bd 0)), (1, .ref (ad 0)), (0, .ref b)] 1414 []) :
    bh_W p l e room_1 s m #[.ref b] below meth c 7 D A (26 + i) (12900 + 6 * i) Q (wh_modl cI bd M thr ++ (wh_hall cI cZ ad M ++ [wh_out cL o g])) [(4, .int (nI (3 * i))), (3, .ref o), (2, .ref (bd 0)), (1, .ref (ad 0)), (0, .ref b)] 291 [] := by
  have hK4 : 4 * i + 4 ≤ 2048 := by omega
  have hT : 200 * i + 200 ≤ 102400 := by omega
  refine bh_aload_n C dL_law_291 rfl 3 rfl ?_
  refine bh_aload_n C dL_law_292 rfl 4 rfl ?_
  refine bh_iload C dL_law_293 0 rfl ?_
  refine bh_iconst (v := 1) C dL_law_295 (by decide) ?_
  refine bh_iadd C dL_law_296 ?_
  refine bh_topi (show nI (3 * i) + 1 = nI (3 * i + 1) from nI_add _ 1) ?_
  refine bh_sld C hX hbl hbA (vp_in_nI (n := 3 * i + 1) (by omega) (by omega)) (congrArg xs (nI_clamp (n := 3 * i + 1) (by omega))) dL_law_297 ?_
  refine bh_aload_n C dL_law_298 rfl 1 rfl ?_
  refine bh_calli_W (As := [.ref (ad 0), .int (xs (3 * i + 1)), .ref o]) C hE (ct_L_pass l hl D cI cZ cL ad o M (xs (3 * i + 1)) g hI hT) (vx_cwSW 3 C.1.2.2.2.2 gL_law_L_pass rfl rfl rfl (by decide +kernel) ⟨Nat.le_of_ble_eq_true rfl, Nat.le_of_ble_eq_true rfl⟩) rfl rfl (Nat.le_of_ble_eq_true rfl) dL_law_299 ⟨(show 26 + i + 1 ≤ 1065 by omega), (show 12900 + 6 * i + 6 ≤ 21124 by omega)⟩ (fun r g1 hp => ?_)
  obtain ⟨rfl, hg⟩ := hp
  refine bh_istore (lv' := [(5, .int (co_pass (xs (3 * i + 1)))), (4, .int (nI (3 * i))), (3, .ref o), (2, .ref (bd 0)), (1, .ref (ad 0)), (0, .ref b)]) C dL_law_302 (by decide) rfl ?_
  refine bh_aload_n C dL_law_304 rfl 3 rfl ?_
  refine bh_aload_n C dL_law_305 rfl 5 rfl ?_
  refine bh_iload C dL_law_306 1 rfl ?_
  refine bh_iconst (v := 1) C dL_law_308 (by decide) ?_
  refine bh_iadd C dL_law_309 ?_
  refine bh_topi (show nI (3 * i) + 1 = nI (3 * i + 1) from nI_add _ 1) ?_
  refine bh_sld C hX hbl hbA (vp_in_nI (n := 3 * i + 1) (by omega) (by omega)) (congrArg xs (nI_clamp (n := 3 * i + 1) (by omega))) dL_law_310 ?_
  refine bh_calli_L (As := [.int (xs (3 * i + 1))]) C (ct_X1_pass l D cI cZ cL bd M thr (xs (3 * i + 1)) hI hT) (cwV 1 C.1.2.2.2.2 gL_law_X1_pass rfl rfl rfl (by decide +kernel) ⟨Nat.le_of_ble_eq_true rfl, Nat.le_of_ble_eq_true rfl⟩) (ci := 1) rfl 0 rfl rfl rfl (Nat.le_of_ble_eq_true rfl) dL_law_311 ⟨by show _ ≤ 1065; omega, by show _ ≤ 21124; omega⟩ (fun r1 u hq => ?_)
  refine bh_istore (lv' := [(6, .int r1), (5, .int (co_pass (xs (3 * i + 1)))), (4, .int (nI (3 * i))), (3, .ref o), (2, .ref (bd 0)), (1, .ref (ad 0)), (0, .ref b)]) C dL_law_314 (by decide) rfl ?_
  refine bh_aload_n C dL_law_316 rfl 4 rfl ?_
  refine bh_calli_L (As := []) C (ct_X1_thrown l D cI cZ cL bd (mo_sel (co_pass (xs (3 * i + 1))) (mo_pass M (xs (3 * i + 1)).toNatClampNeg) M) (co_pass (xs (3 * i + 1)))) (cwV 0 C.1.2.2.2.2 gL_law_X1_thrown rfl rfl rfl (by decide +kernel) ⟨Nat.le_of_ble_eq_true rfl, Nat.le_of_ble_eq_true rfl⟩) (ci := 1) rfl 0 rfl rfl rfl (Nat.le_of_ble_eq_true rfl) dL_law_317 ⟨by show _ ≤ 1065; omega, by show _ ≤ 21124; omega⟩ (fun r u hq9 => ?_)
  subst hq9
  refine bh_iload C dL_law_320 1 rfl ?_
  refine bh_icmp_eq (tgt := 327) C dL_law_322 (by decide) (fun c_322 => ?_) (fun c_322 => absurd rfl c_322)
  refine bh_iload C dL_law_327 1 rfl ?_
  refine bh_if_ne (tgt := 344) C dL_law_329 (by decide) (fun cn => ?_) (fun cn => ?_)
  · skip
    refine bh_goto (tgt := 1414) C dL_law_344 (by decide) ?_
    refine bh_lv (lv' := [(4, .int (nI (3 * i))), (3, .ref o), (2, .ref (bd 0)), (1, .ref (ad 0)), (0, .ref b)]) [2, 3, 4, 5, 6] rfl ?_
    refine bh_widen (k := 26 + i + 1) (n := 12900 + 6 * i + 6) (by omega) (by omega) ?_
    exact kont _ _ _ (MO_pass hI hK4 hT (xs (3 * i + 1)))
  · skip
    refine bh_aload_n C dL_law_332 rfl 3 rfl ?_
    refine bh_iconst (v := 0) C dL_law_333 (by decide) ?_
    refine bh_lald C 24 2 (f := g1) rfl rfl (vp_in_nI (n := 0) (by decide) (by decide)) (x := g1 0) (congrArg g1 (by decide +kernel)) dL_law_334 ?_
    refine bh_iload C dL_law_335 0 rfl ?_
    refine bh_i2l C dL_law_337 rfl ?_
    refine bh_lcmp C dL_law_338 ?_
    refine bh_if_eq (tgt := 344) C dL_law_339 (by decide) (fun _ => ?_) (fun c_339 => absurd ((lg_cmp_eq _ _).mpr (by rw [hg cn, hq cn])) c_339)
    refine bh_goto (tgt := 1414) C dL_law_344 (by decide) ?_
    refine bh_lv (lv' := [(4, .int (nI (3 * i))), (3, .ref o), (2, .ref (bd 0)), (1, .ref (ad 0)), (0, .ref b)]) [2, 3, 4, 5, 6] rfl ?_
    refine bh_widen (k := 26 + i + 1) (n := 12900 + 6 * i + 6) (by omega) (by omega) ?_
    exact kont _ _ _ (MO_pass hI hK4 hT (xs (3 * i + 1)))
set_option maxRecDepth 100000 in
set_option maxHeartbeats 4000000 in
theorem law_time {p : Program} {e : Env} {s : State} {m : MethodId} {below : List Frame} {meth : Method} {c : Code} {l : Launch} (hl : l.stackTraces = false) {D : va_G} {cI cZ cL : ClassId} {A : Nat → Prop} {rt : Option FieldType} {b L : Nat} {xs : Nat → Int32} {ad bd : Nat → Nat} {o : Nat} {Q : State → Prop} (C : bh_C p s m #[.ref b] meth c cL_law 7 wsL_law RL D (wh_tys cI cZ cL) A rt) (hE : xe_E A s s.heap) (hX : va_X b L xs s s.heap) (hbl : b < s.heap.size) (hbA : ¬ A b) (hL : L ≤ 1536) {i : Nat} (hi : 3 * i + 2 < L) {M : MT} {thr : Int32} {g : Nat → Int64} (hI : MI (4 * i) (200 * i) M)
    (kont : ∀ (M9 : MT) (t9 : Int32) (g9 : Nat → Int64), MI (4 * i + 4) (200 * i + 200) M9 → bh_W p l e room_1 s m #[.ref b] below meth c 7 D A (26 + i + 1) (12900 + 6 * i + 6) Q (wh_modl cI bd M9 t9 ++ (wh_hall cI cZ ad M9 ++ [wh_out cL o g9])) [(4, .int (nI (3 * i))), (3, .ref o), (2, .ref (bd 0)), (1, .ref (ad 0)), (0, .ref b)] 1414 []) :
    bh_W p l e room_1 s m #[.ref b] below meth c 7 D A (26 + i) (12900 + 6 * i) Q (wh_modl cI bd M thr ++ (wh_hall cI cZ ad M ++ [wh_out cL o g])) [(4, .int (nI (3 * i))), (3, .ref o), (2, .ref (bd 0)), (1, .ref (ad 0)), (0, .ref b)] 347 [] := by
  have hK4 : 4 * i + 4 ≤ 2048 := by omega
  have hT : 200 * i + 200 ≤ 102400 := by omega
  refine bh_aload_n C dL_law_347 rfl 3 rfl ?_
  refine bh_calli_M (As := []) C (ct_X0_time l D cI cZ cL ad M) (cwV 0 C.1.2.2.2.2 gL_law_X0_time rfl rfl rfl (by decide +kernel) ⟨Nat.le_of_ble_eq_true rfl, Nat.le_of_ble_eq_true rfl⟩) (ci := 0) rfl 0 rfl rfl rfl (Nat.le_of_ble_eq_true rfl) dL_law_348 ⟨by show _ ≤ 1065; omega, by show _ ≤ 21124; omega⟩ (fun r u hp => ?_)
  subst hp
  refine bh_aload_n C dL_law_351 rfl 2 rfl ?_
  refine bh_calli_L (As := []) C (ct_X1_time l D cI cZ cL bd M thr) (cwV 0 C.1.2.2.2.2 gL_law_X1_time rfl rfl rfl (by decide +kernel) ⟨Nat.le_of_ble_eq_true rfl, Nat.le_of_ble_eq_true rfl⟩) (ci := 1) rfl 0 rfl rfl rfl (Nat.le_of_ble_eq_true rfl) dL_law_352 ⟨by show _ ≤ 1065; omega, by show _ ≤ 21124; omega⟩ (fun r u hq => ?_)
  subst hq
  refine bh_icmp_eq (tgt := 1414) C dL_law_355 (by decide) (fun c_355 => ?_) (fun c_355 => absurd rfl c_355)
  refine bh_lv (lv' := [(4, .int (nI (3 * i))), (3, .ref o), (2, .ref (bd 0)), (1, .ref (ad 0)), (0, .ref b)]) [0, 1, 2, 3, 4] rfl ?_
  refine bh_widen (k := 26 + i + 1) (n := 12900 + 6 * i + 6) (by omega) (by omega) ?_
  exact kont _ _ _ (MO_M hI hK4 hT)
set_option maxRecDepth 100000 in
set_option maxHeartbeats 4000000 in
theorem law_lateralOf {p : Program} {e : Env} {s : State} {m : MethodId} {below : List Frame} {meth : Method} {c : Code} {l : Launch} (hl : l.stackTraces = false) {D : va_G} {cI cZ cL : ClassId} {A : Nat → Prop} {rt : Option FieldType} {b L : Nat} {xs : Nat → Int32} {ad bd : Nat → Nat} {o : Nat} {Q : State → Prop} (C : bh_C p s m #[.ref b] meth c cL_law 7 wsL_law RL D (wh_tys cI cZ cL) A rt) (hE : xe_E A s s.heap) (hX : va_X b L xs s s.heap) (hbl : b < s.heap.size) (hbA : ¬ A b) (hL : L ≤ 1536) {i : Nat} (hi : 3 * i + 2 < L) {M : MT} {thr : Int32} {g : Nat → Int64} (hI : MI (4 * i) (200 * i) M)
    (kont : ∀ (M9 : MT) (t9 : Int32) (g9 : Nat → Int64), MI (4 * i + 4) (200 * i + 200) M9 → bh_W p l e room_1 s m #[.ref b] below meth c 7 D A (26 + i + 1) (12900 + 6 * i + 6) Q (wh_modl cI bd M9 t9 ++ (wh_hall cI cZ ad M9 ++ [wh_out cL o g9])) [(4, .int (nI (3 * i))), (3, .ref o), (2, .ref (bd 0)), (1, .ref (ad 0)), (0, .ref b)] 1414 []) :
    bh_W p l e room_1 s m #[.ref b] below meth c 7 D A (26 + i) (12900 + 6 * i) Q (wh_modl cI bd M thr ++ (wh_hall cI cZ ad M ++ [wh_out cL o g])) [(4, .int (nI (3 * i))), (3, .ref o), (2, .ref (bd 0)), (1, .ref (ad 0)), (0, .ref b)] 360 [] := by
  have hK4 : 4 * i + 4 ≤ 2048 := by omega
  have hT : 200 * i + 200 ≤ 102400 := by omega
  refine bh_aload_n C dL_law_360 rfl 3 rfl ?_
  refine bh_aload_n C dL_law_361 rfl 4 rfl ?_
  refine bh_iload C dL_law_362 0 rfl ?_
  refine bh_iconst (v := 1) C dL_law_364 (by decide) ?_
  refine bh_iadd C dL_law_365 ?_
  refine bh_topi (show nI (3 * i) + 1 = nI (3 * i + 1) from nI_add _ 1) ?_
  refine bh_sld C hX hbl hbA (vp_in_nI (n := 3 * i + 1) (by omega) (by omega)) (congrArg xs (nI_clamp (n := 3 * i + 1) (by omega))) dL_law_366 ?_
  refine bh_aload_n C dL_law_367 rfl 1 rfl ?_
  refine bh_calli_W (As := [.ref (ad 0), .int (xs (3 * i + 1)), .ref o]) C hE (ct_L_lateralOf l hl D cI cZ cL ad o M (xs (3 * i + 1)) g hI) (vx_cwSW 3 C.1.2.2.2.2 gL_law_L_lateralOf rfl rfl rfl (by decide +kernel) ⟨Nat.le_of_ble_eq_true rfl, Nat.le_of_ble_eq_true rfl⟩) rfl rfl (Nat.le_of_ble_eq_true rfl) dL_law_368 ⟨(show 26 + i + 1 ≤ 1065 by omega), (show 12900 + 6 * i + 6 ≤ 21124 by omega)⟩ (fun r g1 hp => ?_)
  obtain ⟨rfl, hg⟩ := hp
  refine bh_istore (lv' := [(5, .int (co_in (xs (3 * i + 1)) (mq_fc M))), (4, .int (nI (3 * i))), (3, .ref o), (2, .ref (bd 0)), (1, .ref (ad 0)), (0, .ref b)]) C dL_law_371 (by decide) rfl ?_
  refine bh_aload_n C dL_law_373 rfl 3 rfl ?_
  refine bh_aload_n C dL_law_374 rfl 5 rfl ?_
  refine bh_iload C dL_law_375 1 rfl ?_
  refine bh_iconst (v := 1) C dL_law_377 (by decide) ?_
  refine bh_iadd C dL_law_378 ?_
  refine bh_topi (show nI (3 * i) + 1 = nI (3 * i + 1) from nI_add _ 1) ?_
  refine bh_sld C hX hbl hbA (vp_in_nI (n := 3 * i + 1) (by omega) (by omega)) (congrArg xs (nI_clamp (n := 3 * i + 1) (by omega))) dL_law_379 ?_
  refine bh_calli_L (As := [.int (xs (3 * i + 1))]) C (ct_X1_lateralOf l D cI cZ cL bd M thr (xs (3 * i + 1)) hI) (cwV 1 C.1.2.2.2.2 gL_law_X1_lateralOf rfl rfl rfl (by decide +kernel) ⟨Nat.le_of_ble_eq_true rfl, Nat.le_of_ble_eq_true rfl⟩) (ci := 1) rfl 0 rfl rfl rfl (Nat.le_of_ble_eq_true rfl) dL_law_380 ⟨by show _ ≤ 1065; omega, by show _ ≤ 21124; omega⟩ (fun r1 u hq => ?_)
  refine bh_istore (lv' := [(6, .int r1), (5, .int (co_in (xs (3 * i + 1)) (mq_fc M))), (4, .int (nI (3 * i))), (3, .ref o), (2, .ref (bd 0)), (1, .ref (ad 0)), (0, .ref b)]) C dL_law_383 (by decide) rfl ?_
  refine bh_aload_n C dL_law_385 rfl 4 rfl ?_
  refine bh_calli_L (As := []) C (ct_X1_thrown l D cI cZ cL bd M (co_in (xs (3 * i + 1)) (mq_fc M))) (cwV 0 C.1.2.2.2.2 gL_law_X1_thrown rfl rfl rfl (by decide +kernel) ⟨Nat.le_of_ble_eq_true rfl, Nat.le_of_ble_eq_true rfl⟩) (ci := 1) rfl 0 rfl rfl rfl (Nat.le_of_ble_eq_true rfl) dL_law_386 ⟨by show _ ≤ 1065; omega, by show _ ≤ 21124; omega⟩ (fun r u hq9 => ?_)
  subst hq9
  refine bh_iload C dL_law_389 1 rfl ?_
  refine bh_icmp_eq (tgt := 396) C dL_law_391 (by decide) (fun c_391 => ?_) (fun c_391 => absurd rfl c_391)
  refine bh_iload C dL_law_396 1 rfl ?_
  refine bh_if_ne (tgt := 413) C dL_law_398 (by decide) (fun cn => ?_) (fun cn => ?_)
  · skip
    refine bh_goto (tgt := 1414) C dL_law_413 (by decide) ?_
    refine bh_lv (lv' := [(4, .int (nI (3 * i))), (3, .ref o), (2, .ref (bd 0)), (1, .ref (ad 0)), (0, .ref b)]) [2, 3, 4, 5, 6] rfl ?_
    refine bh_widen (k := 26 + i + 1) (n := 12900 + 6 * i + 6) (by omega) (by omega) ?_
    exact kont _ _ _ (MO_M hI hK4 hT)
  · skip
    refine bh_aload_n C dL_law_401 rfl 3 rfl ?_
    refine bh_iconst (v := 0) C dL_law_402 (by decide) ?_
    refine bh_lald C 24 2 (f := g1) rfl rfl (vp_in_nI (n := 0) (by decide) (by decide)) (x := g1 0) (congrArg g1 (by decide +kernel)) dL_law_403 ?_
    refine bh_iload C dL_law_404 0 rfl ?_
    refine bh_i2l C dL_law_406 rfl ?_
    refine bh_lcmp C dL_law_407 ?_
    refine bh_if_eq (tgt := 413) C dL_law_408 (by decide) (fun _ => ?_) (fun c_408 => absurd ((lg_cmp_eq _ _).mpr (by rw [hg cn, hq cn])) c_408)
    refine bh_goto (tgt := 1414) C dL_law_413 (by decide) ?_
    refine bh_lv (lv' := [(4, .int (nI (3 * i))), (3, .ref o), (2, .ref (bd 0)), (1, .ref (ad 0)), (0, .ref b)]) [2, 3, 4, 5, 6] rfl ?_
    refine bh_widen (k := 26 + i + 1) (n := 12900 + 6 * i + 6) (by omega) (by omega) ?_
    exact kont _ _ _ (MO_M hI hK4 hT)
set_option maxRecDepth 100000 in
set_option maxHeartbeats 4000000 in
theorem law_checkIn {p : Program} {e : Env} {s : State} {m : MethodId} {below : List Frame} {meth : Method} {c : Code} {l : Launch} (hl : l.stackTraces = false) {D : va_G} {cI cZ cL : ClassId} {A : Nat → Prop} {rt : Option FieldType} {b L : Nat} {xs : Nat → Int32} {ad bd : Nat → Nat} {o : Nat} {Q : State → Prop} (C : bh_C p s m #[.ref b] meth c cL_law 7 wsL_law RL D (wh_tys cI cZ cL) A rt) (hE : xe_E A s s.heap) (hX : va_X b L xs s s.heap) (hbl : b < s.heap.size) (hbA : ¬ A b) (hL : L ≤ 1536) {i : Nat} (hi : 3 * i + 2 < L) {M : MT} {thr : Int32} {g : Nat → Int64} (hI : MI (4 * i) (200 * i) M)
    (kont : ∀ (M9 : MT) (t9 : Int32) (g9 : Nat → Int64), MI (4 * i + 4) (200 * i + 200) M9 → bh_W p l e room_1 s m #[.ref b] below meth c 7 D A (26 + i + 1) (12900 + 6 * i + 6) Q (wh_modl cI bd M9 t9 ++ (wh_hall cI cZ ad M9 ++ [wh_out cL o g9])) [(4, .int (nI (3 * i))), (3, .ref o), (2, .ref (bd 0)), (1, .ref (ad 0)), (0, .ref b)] 1414 []) :
    bh_W p l e room_1 s m #[.ref b] below meth c 7 D A (26 + i) (12900 + 6 * i) Q (wh_modl cI bd M thr ++ (wh_hall cI cZ ad M ++ [wh_out cL o g])) [(4, .int (nI (3 * i))), (3, .ref o), (2, .ref (bd 0)), (1, .ref (ad 0)), (0, .ref b)] 416 [] := by
  have hK4 : 4 * i + 4 ≤ 2048 := by omega
  have hT : 200 * i + 200 ≤ 102400 := by omega
  refine bh_aload_n C dL_law_416 rfl 3 rfl ?_
  refine bh_aload_n C dL_law_417 rfl 4 rfl ?_
  refine bh_iload C dL_law_418 0 rfl ?_
  refine bh_iconst (v := 1) C dL_law_420 (by decide) ?_
  refine bh_iadd C dL_law_421 ?_
  refine bh_topi (show nI (3 * i) + 1 = nI (3 * i + 1) from nI_add _ 1) ?_
  refine bh_sld C hX hbl hbA (vp_in_nI (n := 3 * i + 1) (by omega) (by omega)) (congrArg xs (nI_clamp (n := 3 * i + 1) (by omega))) dL_law_422 ?_
  refine bh_aload_n C dL_law_423 rfl 4 rfl ?_
  refine bh_iload C dL_law_424 0 rfl ?_
  refine bh_iconst (v := 2) C dL_law_426 (by decide) ?_
  refine bh_iadd C dL_law_427 ?_
  refine bh_topi (show nI (3 * i) + 2 = nI (3 * i + 2) from nI_add _ 2) ?_
  refine bh_sld C hX hbl hbA (vp_in_nI (n := 3 * i + 2) (by omega) (by omega)) (congrArg xs (nI_clamp (n := 3 * i + 2) (by omega))) dL_law_428 ?_
  refine bh_aload_n C dL_law_429 rfl 1 rfl ?_
  refine bh_calli_W (As := [.ref (ad 0), .int (xs (3 * i + 1)), .int (xs (3 * i + 2)), .ref o]) C hE (ct_L_checkIn l hl D cI cZ cL ad o M (xs (3 * i + 1)) (xs (3 * i + 2)) g hI hK4) (vx_cwSW 4 C.1.2.2.2.2 gL_law_L_checkIn rfl rfl rfl (by decide +kernel) ⟨Nat.le_of_ble_eq_true rfl, Nat.le_of_ble_eq_true rfl⟩) rfl rfl (Nat.le_of_ble_eq_true rfl) dL_law_430 ⟨(show 26 + i + 1 ≤ 1065 by omega), (show 12900 + 6 * i + 6 ≤ 21124 by omega)⟩ (fun r g1 hp => ?_)
  obtain ⟨rfl, hg⟩ := hp
  refine bh_istore (lv' := [(5, .int (co_take M (xs (3 * i + 1)) (xs (3 * i + 2)))), (4, .int (nI (3 * i))), (3, .ref o), (2, .ref (bd 0)), (1, .ref (ad 0)), (0, .ref b)]) C dL_law_433 (by decide) rfl ?_
  refine bh_aload_n C dL_law_435 rfl 3 rfl ?_
  refine bh_aload_n C dL_law_436 rfl 5 rfl ?_
  refine bh_iload C dL_law_437 1 rfl ?_
  refine bh_iconst (v := 1) C dL_law_439 (by decide) ?_
  refine bh_iadd C dL_law_440 ?_
  refine bh_topi (show nI (3 * i) + 1 = nI (3 * i + 1) from nI_add _ 1) ?_
  refine bh_sld C hX hbl hbA (vp_in_nI (n := 3 * i + 1) (by omega) (by omega)) (congrArg xs (nI_clamp (n := 3 * i + 1) (by omega))) dL_law_441 ?_
  refine bh_aload_n C dL_law_442 rfl 5 rfl ?_
  refine bh_iload C dL_law_443 1 rfl ?_
  refine bh_iconst (v := 2) C dL_law_445 (by decide) ?_
  refine bh_iadd C dL_law_446 ?_
  refine bh_topi (show nI (3 * i) + 2 = nI (3 * i + 2) from nI_add _ 2) ?_
  refine bh_sld C hX hbl hbA (vp_in_nI (n := 3 * i + 2) (by omega) (by omega)) (congrArg xs (nI_clamp (n := 3 * i + 2) (by omega))) dL_law_447 ?_
  refine bh_calli_L (As := [.int (xs (3 * i + 1)), .int (xs (3 * i + 2))]) C (ct_X1_checkIn l D cI cZ cL bd M thr (xs (3 * i + 1)) (xs (3 * i + 2)) hI hK4) (cwV 2 C.1.2.2.2.2 gL_law_X1_checkIn rfl rfl rfl (by decide +kernel) ⟨Nat.le_of_ble_eq_true rfl, Nat.le_of_ble_eq_true rfl⟩) (ci := 1) rfl 0 rfl rfl rfl (Nat.le_of_ble_eq_true rfl) dL_law_448 ⟨by show _ ≤ 1065; omega, by show _ ≤ 21124; omega⟩ (fun r1 u hq => ?_)
  refine bh_istore (lv' := [(6, .int r1), (5, .int (co_take M (xs (3 * i + 1)) (xs (3 * i + 2)))), (4, .int (nI (3 * i))), (3, .ref o), (2, .ref (bd 0)), (1, .ref (ad 0)), (0, .ref b)]) C dL_law_451 (by decide) rfl ?_
  refine bh_aload_n C dL_law_453 rfl 4 rfl ?_
  refine bh_calli_L (As := []) C (ct_X1_thrown l D cI cZ cL bd (mo_sel (co_take M (xs (3 * i + 1)) (xs (3 * i + 2))) (mo_bring (mo_take M (xs (3 * i + 1)) (xs (3 * i + 2))) (mq_bc M) 1) M) (co_take M (xs (3 * i + 1)) (xs (3 * i + 2)))) (cwV 0 C.1.2.2.2.2 gL_law_X1_thrown rfl rfl rfl (by decide +kernel) ⟨Nat.le_of_ble_eq_true rfl, Nat.le_of_ble_eq_true rfl⟩) (ci := 1) rfl 0 rfl rfl rfl (Nat.le_of_ble_eq_true rfl) dL_law_454 ⟨by show _ ≤ 1065; omega, by show _ ≤ 21124; omega⟩ (fun r u hq9 => ?_)
  subst hq9
  refine bh_iload C dL_law_457 1 rfl ?_
  refine bh_icmp_eq (tgt := 464) C dL_law_459 (by decide) (fun c_459 => ?_) (fun c_459 => absurd rfl c_459)
  refine bh_iload C dL_law_464 1 rfl ?_
  refine bh_if_ne (tgt := 481) C dL_law_466 (by decide) (fun cn => ?_) (fun cn => ?_)
  · skip
    refine bh_goto (tgt := 1414) C dL_law_481 (by decide) ?_
    refine bh_lv (lv' := [(4, .int (nI (3 * i))), (3, .ref o), (2, .ref (bd 0)), (1, .ref (ad 0)), (0, .ref b)]) [2, 3, 4, 5, 6] rfl ?_
    refine bh_widen (k := 26 + i + 1) (n := 12900 + 6 * i + 6) (by omega) (by omega) ?_
    exact kont _ _ _ (MO_checkIn hI hK4 hT (xs (3 * i + 1)) (xs (3 * i + 2)))
  · skip
    refine bh_aload_n C dL_law_469 rfl 3 rfl ?_
    refine bh_iconst (v := 0) C dL_law_470 (by decide) ?_
    refine bh_lald C 24 2 (f := g1) rfl rfl (vp_in_nI (n := 0) (by decide) (by decide)) (x := g1 0) (congrArg g1 (by decide +kernel)) dL_law_471 ?_
    refine bh_iload C dL_law_472 0 rfl ?_
    refine bh_i2l C dL_law_474 rfl ?_
    refine bh_lcmp C dL_law_475 ?_
    refine bh_if_eq (tgt := 481) C dL_law_476 (by decide) (fun _ => ?_) (fun c_476 => absurd ((lg_cmp_eq _ _).mpr (by rw [hg cn, hq cn])) c_476)
    refine bh_goto (tgt := 1414) C dL_law_481 (by decide) ?_
    refine bh_lv (lv' := [(4, .int (nI (3 * i))), (3, .ref o), (2, .ref (bd 0)), (1, .ref (ad 0)), (0, .ref b)]) [2, 3, 4, 5, 6] rfl ?_
    refine bh_widen (k := 26 + i + 1) (n := 12900 + 6 * i + 6) (by omega) (by omega) ?_
    exact kont _ _ _ (MO_checkIn hI hK4 hT (xs (3 * i + 1)) (xs (3 * i + 2)))
set_option maxRecDepth 100000 in
set_option maxHeartbeats 4000000 in
theorem law_transfer {p : Program} {e : Env} {s : State} {m : MethodId} {below : List Frame} {meth : Method} {c : Code} {l : Launch} (hl : l.stackTraces = false) {D : va_G} {cI cZ cL : ClassId} {A : Nat → Prop} {rt : Option FieldType} {b L : Nat} {xs : Nat → Int32} {ad bd : Nat → Nat} {o : Nat} {Q : State → Prop} (C : bh_C p s m #[.ref b] meth c cL_law 7 wsL_law RL D (wh_tys cI cZ cL) A rt) (hE : xe_E A s s.heap) (hX : va_X b L xs s s.heap) (hbl : b < s.heap.size) (hbA : ¬ A b) (hL : L ≤ 1536) {i : Nat} (hi : 3 * i + 2 < L) {M : MT} {thr : Int32} {g : Nat → Int64} (hI : MI (4 * i) (200 * i) M)
    (kont : ∀ (M9 : MT) (t9 : Int32) (g9 : Nat → Int64), MI (4 * i + 4) (200 * i + 200) M9 → bh_W p l e room_1 s m #[.ref b] below meth c 7 D A (26 + i + 1) (12900 + 6 * i + 6) Q (wh_modl cI bd M9 t9 ++ (wh_hall cI cZ ad M9 ++ [wh_out cL o g9])) [(4, .int (nI (3 * i))), (3, .ref o), (2, .ref (bd 0)), (1, .ref (ad 0)), (0, .ref b)] 1414 []) :
    bh_W p l e room_1 s m #[.ref b] below meth c 7 D A (26 + i) (12900 + 6 * i) Q (wh_modl cI bd M thr ++ (wh_hall cI cZ ad M ++ [wh_out cL o g])) [(4, .int (nI (3 * i))), (3, .ref o), (2, .ref (bd 0)), (1, .ref (ad 0)), (0, .ref b)] 484 [] := by
  have hK4 : 4 * i + 4 ≤ 2048 := by omega
  have hT : 200 * i + 200 ≤ 102400 := by omega
  refine bh_aload_n C dL_law_484 rfl 3 rfl ?_
  refine bh_aload_n C dL_law_485 rfl 4 rfl ?_
  refine bh_iload C dL_law_486 0 rfl ?_
  refine bh_iconst (v := 1) C dL_law_488 (by decide) ?_
  refine bh_iadd C dL_law_489 ?_
  refine bh_topi (show nI (3 * i) + 1 = nI (3 * i + 1) from nI_add _ 1) ?_
  refine bh_sld C hX hbl hbA (vp_in_nI (n := 3 * i + 1) (by omega) (by omega)) (congrArg xs (nI_clamp (n := 3 * i + 1) (by omega))) dL_law_490 ?_
  refine bh_aload_n C dL_law_491 rfl 4 rfl ?_
  refine bh_iload C dL_law_492 0 rfl ?_
  refine bh_iconst (v := 2) C dL_law_494 (by decide) ?_
  refine bh_iadd C dL_law_495 ?_
  refine bh_topi (show nI (3 * i) + 2 = nI (3 * i + 2) from nI_add _ 2) ?_
  refine bh_sld C hX hbl hbA (vp_in_nI (n := 3 * i + 2) (by omega) (by omega)) (congrArg xs (nI_clamp (n := 3 * i + 2) (by omega))) dL_law_496 ?_
  refine bh_aload_n C dL_law_497 rfl 1 rfl ?_
  refine bh_calli_W (As := [.ref (ad 0), .int (xs (3 * i + 1)), .int (xs (3 * i + 2)), .ref o]) C hE (ct_L_transfer l hl D cI cZ cL ad o M (xs (3 * i + 1)) (xs (3 * i + 2)) g hI hK4) (vx_cwSW 4 C.1.2.2.2.2 gL_law_L_transfer rfl rfl rfl (by decide +kernel) ⟨Nat.le_of_ble_eq_true rfl, Nat.le_of_ble_eq_true rfl⟩) rfl rfl (Nat.le_of_ble_eq_true rfl) dL_law_498 ⟨(show 26 + i + 1 ≤ 1065 by omega), (show 12900 + 6 * i + 6 ≤ 21124 by omega)⟩ (fun r g1 hp => ?_)
  obtain ⟨rfl, hg⟩ := hp
  refine bh_istore (lv' := [(5, .int (co_take M (xs (3 * i + 1)) (xs (3 * i + 2)))), (4, .int (nI (3 * i))), (3, .ref o), (2, .ref (bd 0)), (1, .ref (ad 0)), (0, .ref b)]) C dL_law_501 (by decide) rfl ?_
  refine bh_aload_n C dL_law_503 rfl 3 rfl ?_
  refine bh_aload_n C dL_law_504 rfl 5 rfl ?_
  refine bh_iload C dL_law_505 1 rfl ?_
  refine bh_iconst (v := 1) C dL_law_507 (by decide) ?_
  refine bh_iadd C dL_law_508 ?_
  refine bh_topi (show nI (3 * i) + 1 = nI (3 * i + 1) from nI_add _ 1) ?_
  refine bh_sld C hX hbl hbA (vp_in_nI (n := 3 * i + 1) (by omega) (by omega)) (congrArg xs (nI_clamp (n := 3 * i + 1) (by omega))) dL_law_509 ?_
  refine bh_aload_n C dL_law_510 rfl 5 rfl ?_
  refine bh_iload C dL_law_511 1 rfl ?_
  refine bh_iconst (v := 2) C dL_law_513 (by decide) ?_
  refine bh_iadd C dL_law_514 ?_
  refine bh_topi (show nI (3 * i) + 2 = nI (3 * i + 2) from nI_add _ 2) ?_
  refine bh_sld C hX hbl hbA (vp_in_nI (n := 3 * i + 2) (by omega) (by omega)) (congrArg xs (nI_clamp (n := 3 * i + 2) (by omega))) dL_law_515 ?_
  refine bh_calli_L (As := [.int (xs (3 * i + 1)), .int (xs (3 * i + 2))]) C (ct_X1_transfer l D cI cZ cL bd M thr (xs (3 * i + 1)) (xs (3 * i + 2)) hI hK4) (cwV 2 C.1.2.2.2.2 gL_law_X1_transfer rfl rfl rfl (by decide +kernel) ⟨Nat.le_of_ble_eq_true rfl, Nat.le_of_ble_eq_true rfl⟩) (ci := 1) rfl 0 rfl rfl rfl (Nat.le_of_ble_eq_true rfl) dL_law_516 ⟨by show _ ≤ 1065; omega, by show _ ≤ 21124; omega⟩ (fun r1 u hq => ?_)
  refine bh_istore (lv' := [(6, .int r1), (5, .int (co_take M (xs (3 * i + 1)) (xs (3 * i + 2)))), (4, .int (nI (3 * i))), (3, .ref o), (2, .ref (bd 0)), (1, .ref (ad 0)), (0, .ref b)]) C dL_law_519 (by decide) rfl ?_
  refine bh_aload_n C dL_law_521 rfl 4 rfl ?_
  refine bh_calli_L (As := []) C (ct_X1_thrown l D cI cZ cL bd (mo_sel (co_take M (xs (3 * i + 1)) (xs (3 * i + 2))) (mo_route (mo_take M (xs (3 * i + 1)) (xs (3 * i + 2))) (mq_bc M)) M) (co_take M (xs (3 * i + 1)) (xs (3 * i + 2)))) (cwV 0 C.1.2.2.2.2 gL_law_X1_thrown rfl rfl rfl (by decide +kernel) ⟨Nat.le_of_ble_eq_true rfl, Nat.le_of_ble_eq_true rfl⟩) (ci := 1) rfl 0 rfl rfl rfl (Nat.le_of_ble_eq_true rfl) dL_law_522 ⟨by show _ ≤ 1065; omega, by show _ ≤ 21124; omega⟩ (fun r u hq9 => ?_)
  subst hq9
  refine bh_iload C dL_law_525 1 rfl ?_
  refine bh_icmp_eq (tgt := 532) C dL_law_527 (by decide) (fun c_527 => ?_) (fun c_527 => absurd rfl c_527)
  refine bh_iload C dL_law_532 1 rfl ?_
  refine bh_if_ne (tgt := 549) C dL_law_534 (by decide) (fun cn => ?_) (fun cn => ?_)
  · skip
    refine bh_goto (tgt := 1414) C dL_law_549 (by decide) ?_
    refine bh_lv (lv' := [(4, .int (nI (3 * i))), (3, .ref o), (2, .ref (bd 0)), (1, .ref (ad 0)), (0, .ref b)]) [2, 3, 4, 5, 6] rfl ?_
    refine bh_widen (k := 26 + i + 1) (n := 12900 + 6 * i + 6) (by omega) (by omega) ?_
    exact kont _ _ _ (MO_transfer hI hK4 hT (xs (3 * i + 1)) (xs (3 * i + 2)))
  · skip
    refine bh_aload_n C dL_law_537 rfl 3 rfl ?_
    refine bh_iconst (v := 0) C dL_law_538 (by decide) ?_
    refine bh_lald C 24 2 (f := g1) rfl rfl (vp_in_nI (n := 0) (by decide) (by decide)) (x := g1 0) (congrArg g1 (by decide +kernel)) dL_law_539 ?_
    refine bh_iload C dL_law_540 0 rfl ?_
    refine bh_i2l C dL_law_542 rfl ?_
    refine bh_lcmp C dL_law_543 ?_
    refine bh_if_eq (tgt := 549) C dL_law_544 (by decide) (fun _ => ?_) (fun c_544 => absurd ((lg_cmp_eq _ _).mpr (by rw [hg cn, hq cn])) c_544)
    refine bh_goto (tgt := 1414) C dL_law_549 (by decide) ?_
    refine bh_lv (lv' := [(4, .int (nI (3 * i))), (3, .ref o), (2, .ref (bd 0)), (1, .ref (ad 0)), (0, .ref b)]) [2, 3, 4, 5, 6] rfl ?_
    refine bh_widen (k := 26 + i + 1) (n := 12900 + 6 * i + 6) (by omega) (by omega) ?_
    exact kont _ _ _ (MO_transfer hI hK4 hT (xs (3 * i + 1)) (xs (3 * i + 2)))
set_option maxRecDepth 100000 in
set_option maxHeartbeats 4000000 in
theorem law_decide {p : Program} {e : Env} {s : State} {m : MethodId} {below : List Frame} {meth : Method} {c : Code} {l : Launch} (hl : l.stackTraces = false) {D : va_G} {cI cZ cL : ClassId} {A : Nat → Prop} {rt : Option FieldType} {b L : Nat} {xs : Nat → Int32} {ad bd : Nat → Nat} {o : Nat} {Q : State → Prop} (C : bh_C p s m #[.ref b] meth c cL_law 7 wsL_law RL D (wh_tys cI cZ cL) A rt) (hE : xe_E A s s.heap) (hX : va_X b L xs s s.heap) (hbl : b < s.heap.size) (hbA : ¬ A b) (hL : L ≤ 1536) {i : Nat} (hi : 3 * i + 2 < L) {M : MT} {thr : Int32} {g : Nat → Int64} (hI : MI (4 * i) (200 * i) M)
    (kont : ∀ (M9 : MT) (t9 : Int32) (g9 : Nat → Int64), MI (4 * i + 4) (200 * i + 200) M9 → bh_W p l e room_1 s m #[.ref b] below meth c 7 D A (26 + i + 1) (12900 + 6 * i + 6) Q (wh_modl cI bd M9 t9 ++ (wh_hall cI cZ ad M9 ++ [wh_out cL o g9])) [(4, .int (nI (3 * i))), (3, .ref o), (2, .ref (bd 0)), (1, .ref (ad 0)), (0, .ref b)] 1414 []) :
    bh_W p l e room_1 s m #[.ref b] below meth c 7 D A (26 + i) (12900 + 6 * i) Q (wh_modl cI bd M thr ++ (wh_hall cI cZ ad M ++ [wh_out cL o g])) [(4, .int (nI (3 * i))), (3, .ref o), (2, .ref (bd 0)), (1, .ref (ad 0)), (0, .ref b)] 552 [] := by
  have hK4 : 4 * i + 4 ≤ 2048 := by omega
  have hT : 200 * i + 200 ≤ 102400 := by omega
  refine bh_aload_n C dL_law_552 rfl 3 rfl ?_
  refine bh_aload_n C dL_law_553 rfl 4 rfl ?_
  refine bh_iload C dL_law_554 0 rfl ?_
  refine bh_iconst (v := 1) C dL_law_556 (by decide) ?_
  refine bh_iadd C dL_law_557 ?_
  refine bh_topi (show nI (3 * i) + 1 = nI (3 * i + 1) from nI_add _ 1) ?_
  refine bh_sld C hX hbl hbA (vp_in_nI (n := 3 * i + 1) (by omega) (by omega)) (congrArg xs (nI_clamp (n := 3 * i + 1) (by omega))) dL_law_558 ?_
  refine bh_aload_n C dL_law_559 rfl 4 rfl ?_
  refine bh_iload C dL_law_560 0 rfl ?_
  refine bh_iconst (v := 2) C dL_law_562 (by decide) ?_
  refine bh_iadd C dL_law_563 ?_
  refine bh_topi (show nI (3 * i) + 2 = nI (3 * i + 2) from nI_add _ 2) ?_
  refine bh_sld C hX hbl hbA (vp_in_nI (n := 3 * i + 2) (by omega) (by omega)) (congrArg xs (nI_clamp (n := 3 * i + 2) (by omega))) dL_law_564 ?_
  refine bh_if_eq (tgt := 572) C dL_law_565 (by decide) (fun cz => ?_) (fun cz => ?_)
  · skip
    refine bh_iconst (v := 0) C dL_law_572 (by decide) ?_
    refine bh_aload_n C dL_law_573 rfl 1 rfl ?_
    refine bh_calli_W (As := [.ref (ad 0), .int (xs (3 * i + 1)), .int 0, .ref o]) C hE (ct_L_decide l hl D cI cZ cL ad o M (xs (3 * i + 1)) 0 g hI hK4) (vx_cwSW 4 C.1.2.2.2.2 gL_law_L_decide rfl rfl rfl (by decide +kernel) ⟨Nat.le_of_ble_eq_true rfl, Nat.le_of_ble_eq_true rfl⟩) rfl rfl (Nat.le_of_ble_eq_true rfl) dL_law_574 ⟨(show 26 + i + 1 ≤ 1065 by omega), (show 12900 + 6 * i + 6 ≤ 21124 by omega)⟩ (fun r g1 hp => ?_)
    obtain ⟨rfl, hg⟩ := hp
    refine bh_istore (lv' := [(5, .int (co_deci M (xs (3 * i + 1)))), (4, .int (nI (3 * i))), (3, .ref o), (2, .ref (bd 0)), (1, .ref (ad 0)), (0, .ref b)]) C dL_law_577 (by decide) rfl ?_
    refine bh_aload_n C dL_law_579 rfl 3 rfl ?_
    refine bh_aload_n C dL_law_580 rfl 5 rfl ?_
    refine bh_iload C dL_law_581 1 rfl ?_
    refine bh_iconst (v := 1) C dL_law_583 (by decide) ?_
    refine bh_iadd C dL_law_584 ?_
    refine bh_topi (show nI (3 * i) + 1 = nI (3 * i + 1) from nI_add _ 1) ?_
    refine bh_sld C hX hbl hbA (vp_in_nI (n := 3 * i + 1) (by omega) (by omega)) (congrArg xs (nI_clamp (n := 3 * i + 1) (by omega))) dL_law_585 ?_
    refine bh_aload_n C dL_law_586 rfl 5 rfl ?_
    refine bh_iload C dL_law_587 1 rfl ?_
    refine bh_iconst (v := 2) C dL_law_589 (by decide) ?_
    refine bh_iadd C dL_law_590 ?_
    refine bh_topi (show nI (3 * i) + 2 = nI (3 * i + 2) from nI_add _ 2) ?_
    refine bh_sld C hX hbl hbA (vp_in_nI (n := 3 * i + 2) (by omega) (by omega)) (congrArg xs (nI_clamp (n := 3 * i + 2) (by omega))) dL_law_591 ?_
    refine bh_if_eq (tgt := 599) C dL_law_592 (by decide) (fun c_592 => ?_) (fun c_592 => absurd cz c_592)
    refine bh_iconst (v := 0) C dL_law_599 (by decide) ?_
    refine bh_calli_L (As := [.int (xs (3 * i + 1)), .int 0]) C (ct_X1_decide l D cI cZ cL bd M thr (xs (3 * i + 1)) 0 hI hK4) (cwV 2 C.1.2.2.2.2 gL_law_X1_decide rfl rfl rfl (by decide +kernel) ⟨Nat.le_of_ble_eq_true rfl, Nat.le_of_ble_eq_true rfl⟩) (ci := 1) rfl 0 rfl rfl rfl (Nat.le_of_ble_eq_true rfl) dL_law_600 ⟨by show _ ≤ 1065; omega, by show _ ≤ 21124; omega⟩ (fun r1 u hq => ?_)
    refine bh_istore (lv' := [(6, .int r1), (5, .int (co_deci M (xs (3 * i + 1)))), (4, .int (nI (3 * i))), (3, .ref o), (2, .ref (bd 0)), (1, .ref (ad 0)), (0, .ref b)]) C dL_law_603 (by decide) rfl ?_
    refine bh_aload_n C dL_law_605 rfl 4 rfl ?_
    refine bh_calli_L (As := []) C (ct_X1_thrown l D cI cZ cL bd (mo_sel (co_deci M (xs (3 * i + 1))) (mo_dec M (xs (3 * i + 1)).toNatClampNeg 0) M) (co_deci M (xs (3 * i + 1)))) (cwV 0 C.1.2.2.2.2 gL_law_X1_thrown rfl rfl rfl (by decide +kernel) ⟨Nat.le_of_ble_eq_true rfl, Nat.le_of_ble_eq_true rfl⟩) (ci := 1) rfl 0 rfl rfl rfl (Nat.le_of_ble_eq_true rfl) dL_law_606 ⟨by show _ ≤ 1065; omega, by show _ ≤ 21124; omega⟩ (fun r u hq9 => ?_)
    subst hq9
    refine bh_iload C dL_law_609 1 rfl ?_
    refine bh_icmp_eq (tgt := 616) C dL_law_611 (by decide) (fun c_611 => ?_) (fun c_611 => absurd rfl c_611)
    refine bh_iload C dL_law_616 1 rfl ?_
    refine bh_if_ne (tgt := 633) C dL_law_618 (by decide) (fun cn => ?_) (fun cn => ?_)
    · skip
      refine bh_goto (tgt := 1414) C dL_law_633 (by decide) ?_
      refine bh_lv (lv' := [(4, .int (nI (3 * i))), (3, .ref o), (2, .ref (bd 0)), (1, .ref (ad 0)), (0, .ref b)]) [2, 3, 4, 5, 6] rfl ?_
      refine bh_widen (k := 26 + i + 1) (n := 12900 + 6 * i + 6) (by omega) (by omega) ?_
      exact kont _ _ _ (MO_decide hI hK4 hT (xs (3 * i + 1)) 0)
    · skip
      refine bh_aload_n C dL_law_621 rfl 3 rfl ?_
      refine bh_iconst (v := 0) C dL_law_622 (by decide) ?_
      refine bh_lald C 24 2 (f := g1) rfl rfl (vp_in_nI (n := 0) (by decide) (by decide)) (x := g1 0) (congrArg g1 (by decide +kernel)) dL_law_623 ?_
      refine bh_iload C dL_law_624 0 rfl ?_
      refine bh_i2l C dL_law_626 rfl ?_
      refine bh_lcmp C dL_law_627 ?_
      refine bh_if_eq (tgt := 633) C dL_law_628 (by decide) (fun _ => ?_) (fun c_628 => absurd ((lg_cmp_eq _ _).mpr (by rw [hg cn, hq cn])) c_628)
      refine bh_goto (tgt := 1414) C dL_law_633 (by decide) ?_
      refine bh_lv (lv' := [(4, .int (nI (3 * i))), (3, .ref o), (2, .ref (bd 0)), (1, .ref (ad 0)), (0, .ref b)]) [2, 3, 4, 5, 6] rfl ?_
      refine bh_widen (k := 26 + i + 1) (n := 12900 + 6 * i + 6) (by omega) (by omega) ?_
      exact kont _ _ _ (MO_decide hI hK4 hT (xs (3 * i + 1)) 0)
  · skip
    refine bh_iconst (v := 1) C dL_law_568 (by decide) ?_
    refine bh_goto (tgt := 573) C dL_law_569 (by decide) ?_
    refine bh_aload_n C dL_law_573 rfl 1 rfl ?_
    refine bh_calli_W (As := [.ref (ad 0), .int (xs (3 * i + 1)), .int 1, .ref o]) C hE (ct_L_decide l hl D cI cZ cL ad o M (xs (3 * i + 1)) 1 g hI hK4) (vx_cwSW 4 C.1.2.2.2.2 gL_law_L_decide rfl rfl rfl (by decide +kernel) ⟨Nat.le_of_ble_eq_true rfl, Nat.le_of_ble_eq_true rfl⟩) rfl rfl (Nat.le_of_ble_eq_true rfl) dL_law_574 ⟨(show 26 + i + 1 ≤ 1065 by omega), (show 12900 + 6 * i + 6 ≤ 21124 by omega)⟩ (fun r g1 hp => ?_)
    obtain ⟨rfl, hg⟩ := hp
    refine bh_istore (lv' := [(5, .int (co_deci M (xs (3 * i + 1)))), (4, .int (nI (3 * i))), (3, .ref o), (2, .ref (bd 0)), (1, .ref (ad 0)), (0, .ref b)]) C dL_law_577 (by decide) rfl ?_
    refine bh_aload_n C dL_law_579 rfl 3 rfl ?_
    refine bh_aload_n C dL_law_580 rfl 5 rfl ?_
    refine bh_iload C dL_law_581 1 rfl ?_
    refine bh_iconst (v := 1) C dL_law_583 (by decide) ?_
    refine bh_iadd C dL_law_584 ?_
    refine bh_topi (show nI (3 * i) + 1 = nI (3 * i + 1) from nI_add _ 1) ?_
    refine bh_sld C hX hbl hbA (vp_in_nI (n := 3 * i + 1) (by omega) (by omega)) (congrArg xs (nI_clamp (n := 3 * i + 1) (by omega))) dL_law_585 ?_
    refine bh_aload_n C dL_law_586 rfl 5 rfl ?_
    refine bh_iload C dL_law_587 1 rfl ?_
    refine bh_iconst (v := 2) C dL_law_589 (by decide) ?_
    refine bh_iadd C dL_law_590 ?_
    refine bh_topi (show nI (3 * i) + 2 = nI (3 * i + 2) from nI_add _ 2) ?_
    refine bh_sld C hX hbl hbA (vp_in_nI (n := 3 * i + 2) (by omega) (by omega)) (congrArg xs (nI_clamp (n := 3 * i + 2) (by omega))) dL_law_591 ?_
    refine bh_if_eq (tgt := 599) C dL_law_592 (by decide) (fun c_592 => absurd c_592 cz) (fun c_592 => ?_)
    refine bh_iconst (v := 1) C dL_law_595 (by decide) ?_
    refine bh_goto (tgt := 600) C dL_law_596 (by decide) ?_
    refine bh_calli_L (As := [.int (xs (3 * i + 1)), .int 1]) C (ct_X1_decide l D cI cZ cL bd M thr (xs (3 * i + 1)) 1 hI hK4) (cwV 2 C.1.2.2.2.2 gL_law_X1_decide rfl rfl rfl (by decide +kernel) ⟨Nat.le_of_ble_eq_true rfl, Nat.le_of_ble_eq_true rfl⟩) (ci := 1) rfl 0 rfl rfl rfl (Nat.le_of_ble_eq_true rfl) dL_law_600 ⟨by show _ ≤ 1065; omega, by show _ ≤ 21124; omega⟩ (fun r1 u hq => ?_)
    refine bh_istore (lv' := [(6, .int r1), (5, .int (co_deci M (xs (3 * i + 1)))), (4, .int (nI (3 * i))), (3, .ref o), (2, .ref (bd 0)), (1, .ref (ad 0)), (0, .ref b)]) C dL_law_603 (by decide) rfl ?_
    refine bh_aload_n C dL_law_605 rfl 4 rfl ?_
    refine bh_calli_L (As := []) C (ct_X1_thrown l D cI cZ cL bd (mo_sel (co_deci M (xs (3 * i + 1))) (mo_dec M (xs (3 * i + 1)).toNatClampNeg 1) M) (co_deci M (xs (3 * i + 1)))) (cwV 0 C.1.2.2.2.2 gL_law_X1_thrown rfl rfl rfl (by decide +kernel) ⟨Nat.le_of_ble_eq_true rfl, Nat.le_of_ble_eq_true rfl⟩) (ci := 1) rfl 0 rfl rfl rfl (Nat.le_of_ble_eq_true rfl) dL_law_606 ⟨by show _ ≤ 1065; omega, by show _ ≤ 21124; omega⟩ (fun r u hq9 => ?_)
    subst hq9
    refine bh_iload C dL_law_609 1 rfl ?_
    refine bh_icmp_eq (tgt := 616) C dL_law_611 (by decide) (fun c_611 => ?_) (fun c_611 => absurd rfl c_611)
    refine bh_iload C dL_law_616 1 rfl ?_
    refine bh_if_ne (tgt := 633) C dL_law_618 (by decide) (fun cn => ?_) (fun cn => ?_)
    · skip
      refine bh_goto (tgt := 1414) C dL_law_633 (by decide) ?_
      refine bh_lv (lv' := [(4, .int (nI (3 * i))), (3, .ref o), (2, .ref (bd 0)), (1, .ref (ad 0)), (0, .ref b)]) [2, 3, 4, 5, 6] rfl ?_
      refine bh_widen (k := 26 + i + 1) (n := 12900 + 6 * i + 6) (by omega) (by omega) ?_
      exact kont _ _ _ (MO_decide hI hK4 hT (xs (3 * i + 1)) 1)
    · skip
      refine bh_aload_n C dL_law_621 rfl 3 rfl ?_
      refine bh_iconst (v := 0) C dL_law_622 (by decide) ?_
      refine bh_lald C 24 2 (f := g1) rfl rfl (vp_in_nI (n := 0) (by decide) (by decide)) (x := g1 0) (congrArg g1 (by decide +kernel)) dL_law_623 ?_
      refine bh_iload C dL_law_624 0 rfl ?_
      refine bh_i2l C dL_law_626 rfl ?_
      refine bh_lcmp C dL_law_627 ?_
      refine bh_if_eq (tgt := 633) C dL_law_628 (by decide) (fun _ => ?_) (fun c_628 => absurd ((lg_cmp_eq _ _).mpr (by rw [hg cn, hq cn])) c_628)
      refine bh_goto (tgt := 1414) C dL_law_633 (by decide) ?_
      refine bh_lv (lv' := [(4, .int (nI (3 * i))), (3, .ref o), (2, .ref (bd 0)), (1, .ref (ad 0)), (0, .ref b)]) [2, 3, 4, 5, 6] rfl ?_
      refine bh_widen (k := 26 + i + 1) (n := 12900 + 6 * i + 6) (by omega) (by omega) ?_
      exact kont _ _ _ (MO_decide hI hK4 hT (xs (3 * i + 1)) 1)
set_option maxRecDepth 100000 in
set_option maxHeartbeats 4000000 in
theorem law_letGo {p : Program} {e : Env} {s : State} {m : MethodId} {below : List Frame} {meth : Method} {c : Code} {l : Launch} (hl : l.stackTraces = false) {D : va_G} {cI cZ cL : ClassId} {A : Nat → Prop} {rt : Option FieldType} {b L : Nat} {xs : Nat → Int32} {ad bd : Nat → Nat} {o : Nat} {Q : State → Prop} (C : bh_C p s m #[.ref b] meth c cL_law 7 wsL_law RL D (wh_tys cI cZ cL) A rt) (hE : xe_E A s s.heap) (hX : va_X b L xs s s.heap) (hbl : b < s.heap.size) (hbA : ¬ A b) (hL : L ≤ 1536) {i : Nat} (hi : 3 * i + 2 < L) {M : MT} {thr : Int32} {g : Nat → Int64} (hI : MI (4 * i) (200 * i) M)
    (kont : ∀ (M9 : MT) (t9 : Int32) (g9 : Nat → Int64), MI (4 * i + 4) (200 * i + 200) M9 → bh_W p l e room_1 s m #[.ref b] below meth c 7 D A (26 + i + 1) (12900 + 6 * i + 6) Q (wh_modl cI bd M9 t9 ++ (wh_hall cI cZ ad M9 ++ [wh_out cL o g9])) [(4, .int (nI (3 * i))), (3, .ref o), (2, .ref (bd 0)), (1, .ref (ad 0)), (0, .ref b)] 1414 []) :
    bh_W p l e room_1 s m #[.ref b] below meth c 7 D A (26 + i) (12900 + 6 * i) Q (wh_modl cI bd M thr ++ (wh_hall cI cZ ad M ++ [wh_out cL o g])) [(4, .int (nI (3 * i))), (3, .ref o), (2, .ref (bd 0)), (1, .ref (ad 0)), (0, .ref b)] 636 [] := by
  have hK4 : 4 * i + 4 ≤ 2048 := by omega
  have hT : 200 * i + 200 ≤ 102400 := by omega
  refine bh_aload_n C dL_law_636 rfl 3 rfl ?_
  refine bh_aload_n C dL_law_637 rfl 4 rfl ?_
  refine bh_iload C dL_law_638 0 rfl ?_
  refine bh_iconst (v := 1) C dL_law_640 (by decide) ?_
  refine bh_iadd C dL_law_641 ?_
  refine bh_topi (show nI (3 * i) + 1 = nI (3 * i + 1) from nI_add _ 1) ?_
  refine bh_sld C hX hbl hbA (vp_in_nI (n := 3 * i + 1) (by omega) (by omega)) (congrArg xs (nI_clamp (n := 3 * i + 1) (by omega))) dL_law_642 ?_
  refine bh_aload_n C dL_law_643 rfl 1 rfl ?_
  refine bh_calli_W (As := [.ref (ad 0), .int (xs (3 * i + 1)), .ref o]) C hE (ct_L_letGo l hl D cI cZ cL ad o M (xs (3 * i + 1)) g hI hK4) (vx_cwSW 3 C.1.2.2.2.2 gL_law_L_letGo rfl rfl rfl (by decide +kernel) ⟨Nat.le_of_ble_eq_true rfl, Nat.le_of_ble_eq_true rfl⟩) rfl rfl (Nat.le_of_ble_eq_true rfl) dL_law_644 ⟨(show 26 + i + 1 ≤ 1065 by omega), (show 12900 + 6 * i + 6 ≤ 21124 by omega)⟩ (fun r g1 hp => ?_)
  obtain ⟨rfl, hg⟩ := hp
  refine bh_istore (lv' := [(5, .int (co_place M (xs (3 * i + 1)) 4)), (4, .int (nI (3 * i))), (3, .ref o), (2, .ref (bd 0)), (1, .ref (ad 0)), (0, .ref b)]) C dL_law_647 (by decide) rfl ?_
  refine bh_aload_n C dL_law_649 rfl 3 rfl ?_
  refine bh_aload_n C dL_law_650 rfl 5 rfl ?_
  refine bh_iload C dL_law_651 1 rfl ?_
  refine bh_iconst (v := 1) C dL_law_653 (by decide) ?_
  refine bh_iadd C dL_law_654 ?_
  refine bh_topi (show nI (3 * i) + 1 = nI (3 * i + 1) from nI_add _ 1) ?_
  refine bh_sld C hX hbl hbA (vp_in_nI (n := 3 * i + 1) (by omega) (by omega)) (congrArg xs (nI_clamp (n := 3 * i + 1) (by omega))) dL_law_655 ?_
  refine bh_calli_L (As := [.int (xs (3 * i + 1))]) C (ct_X1_letGo l D cI cZ cL bd M thr (xs (3 * i + 1)) hI hK4) (cwV 1 C.1.2.2.2.2 gL_law_X1_letGo rfl rfl rfl (by decide +kernel) ⟨Nat.le_of_ble_eq_true rfl, Nat.le_of_ble_eq_true rfl⟩) (ci := 1) rfl 0 rfl rfl rfl (Nat.le_of_ble_eq_true rfl) dL_law_656 ⟨by show _ ≤ 1065; omega, by show _ ≤ 21124; omega⟩ (fun r1 u hq => ?_)
  refine bh_istore (lv' := [(6, .int r1), (5, .int (co_place M (xs (3 * i + 1)) 4)), (4, .int (nI (3 * i))), (3, .ref o), (2, .ref (bd 0)), (1, .ref (ad 0)), (0, .ref b)]) C dL_law_659 (by decide) rfl ?_
  refine bh_aload_n C dL_law_661 rfl 4 rfl ?_
  refine bh_calli_L (As := []) C (ct_X1_thrown l D cI cZ cL bd (mo_sel (co_place M (xs (3 * i + 1)) 4) (mo_route M (xs (3 * i + 1)).toNatClampNeg) M) (co_place M (xs (3 * i + 1)) 4)) (cwV 0 C.1.2.2.2.2 gL_law_X1_thrown rfl rfl rfl (by decide +kernel) ⟨Nat.le_of_ble_eq_true rfl, Nat.le_of_ble_eq_true rfl⟩) (ci := 1) rfl 0 rfl rfl rfl (Nat.le_of_ble_eq_true rfl) dL_law_662 ⟨by show _ ≤ 1065; omega, by show _ ≤ 21124; omega⟩ (fun r u hq9 => ?_)
  subst hq9
  refine bh_iload C dL_law_665 1 rfl ?_
  refine bh_icmp_eq (tgt := 672) C dL_law_667 (by decide) (fun c_667 => ?_) (fun c_667 => absurd rfl c_667)
  refine bh_iload C dL_law_672 1 rfl ?_
  refine bh_if_ne (tgt := 689) C dL_law_674 (by decide) (fun cn => ?_) (fun cn => ?_)
  · skip
    refine bh_goto (tgt := 1414) C dL_law_689 (by decide) ?_
    refine bh_lv (lv' := [(4, .int (nI (3 * i))), (3, .ref o), (2, .ref (bd 0)), (1, .ref (ad 0)), (0, .ref b)]) [2, 3, 4, 5, 6] rfl ?_
    refine bh_widen (k := 26 + i + 1) (n := 12900 + 6 * i + 6) (by omega) (by omega) ?_
    exact kont _ _ _ (MO_letGo hI hK4 hT (xs (3 * i + 1)))
  · skip
    refine bh_aload_n C dL_law_677 rfl 3 rfl ?_
    refine bh_iconst (v := 0) C dL_law_678 (by decide) ?_
    refine bh_lald C 24 2 (f := g1) rfl rfl (vp_in_nI (n := 0) (by decide) (by decide)) (x := g1 0) (congrArg g1 (by decide +kernel)) dL_law_679 ?_
    refine bh_iload C dL_law_680 0 rfl ?_
    refine bh_i2l C dL_law_682 rfl ?_
    refine bh_lcmp C dL_law_683 ?_
    refine bh_if_eq (tgt := 689) C dL_law_684 (by decide) (fun _ => ?_) (fun c_684 => absurd ((lg_cmp_eq _ _).mpr (by rw [hg cn, hq cn])) c_684)
    refine bh_goto (tgt := 1414) C dL_law_689 (by decide) ?_
    refine bh_lv (lv' := [(4, .int (nI (3 * i))), (3, .ref o), (2, .ref (bd 0)), (1, .ref (ad 0)), (0, .ref b)]) [2, 3, 4, 5, 6] rfl ?_
    refine bh_widen (k := 26 + i + 1) (n := 12900 + 6 * i + 6) (by omega) (by omega) ?_
    exact kont _ _ _ (MO_letGo hI hK4 hT (xs (3 * i + 1)))
set_option maxRecDepth 100000 in
set_option maxHeartbeats 4000000 in
theorem law_load {p : Program} {e : Env} {s : State} {m : MethodId} {below : List Frame} {meth : Method} {c : Code} {l : Launch} (hl : l.stackTraces = false) {D : va_G} {cI cZ cL : ClassId} {A : Nat → Prop} {rt : Option FieldType} {b L : Nat} {xs : Nat → Int32} {ad bd : Nat → Nat} {o : Nat} {Q : State → Prop} (C : bh_C p s m #[.ref b] meth c cL_law 7 wsL_law RL D (wh_tys cI cZ cL) A rt) (hE : xe_E A s s.heap) (hX : va_X b L xs s s.heap) (hbl : b < s.heap.size) (hbA : ¬ A b) (hL : L ≤ 1536) {i : Nat} (hi : 3 * i + 2 < L) {M : MT} {thr : Int32} {g : Nat → Int64} (hI : MI (4 * i) (200 * i) M)
    (kont : ∀ (M9 : MT) (t9 : Int32) (g9 : Nat → Int64), MI (4 * i + 4) (200 * i + 200) M9 → bh_W p l e room_1 s m #[.ref b] below meth c 7 D A (26 + i + 1) (12900 + 6 * i + 6) Q (wh_modl cI bd M9 t9 ++ (wh_hall cI cZ ad M9 ++ [wh_out cL o g9])) [(4, .int (nI (3 * i))), (3, .ref o), (2, .ref (bd 0)), (1, .ref (ad 0)), (0, .ref b)] 1414 []) :
    bh_W p l e room_1 s m #[.ref b] below meth c 7 D A (26 + i) (12900 + 6 * i) Q (wh_modl cI bd M thr ++ (wh_hall cI cZ ad M ++ [wh_out cL o g])) [(4, .int (nI (3 * i))), (3, .ref o), (2, .ref (bd 0)), (1, .ref (ad 0)), (0, .ref b)] 692 [] := by
  have hK4 : 4 * i + 4 ≤ 2048 := by omega
  have hT : 200 * i + 200 ≤ 102400 := by omega
  refine bh_aload_n C dL_law_692 rfl 3 rfl ?_
  refine bh_aload_n C dL_law_693 rfl 4 rfl ?_
  refine bh_iload C dL_law_694 0 rfl ?_
  refine bh_iconst (v := 1) C dL_law_696 (by decide) ?_
  refine bh_iadd C dL_law_697 ?_
  refine bh_topi (show nI (3 * i) + 1 = nI (3 * i + 1) from nI_add _ 1) ?_
  refine bh_sld C hX hbl hbA (vp_in_nI (n := 3 * i + 1) (by omega) (by omega)) (congrArg xs (nI_clamp (n := 3 * i + 1) (by omega))) dL_law_698 ?_
  refine bh_aload_n C dL_law_699 rfl 1 rfl ?_
  refine bh_calli_W (As := [.ref (ad 0), .int (xs (3 * i + 1)), .ref o]) C hE (ct_L_load l hl D cI cZ cL ad o M (xs (3 * i + 1)) g hI hK4) (vx_cwSW 3 C.1.2.2.2.2 gL_law_L_load rfl rfl rfl (by decide +kernel) ⟨Nat.le_of_ble_eq_true rfl, Nat.le_of_ble_eq_true rfl⟩) rfl rfl (Nat.le_of_ble_eq_true rfl) dL_law_700 ⟨(show 26 + i + 1 ≤ 1065 by omega), (show 12900 + 6 * i + 6 ≤ 21124 by omega)⟩ (fun r g1 hp => ?_)
  obtain ⟨rfl, hg⟩ := hp
  refine bh_istore (lv' := [(5, .int (co_place M (xs (3 * i + 1)) 7)), (4, .int (nI (3 * i))), (3, .ref o), (2, .ref (bd 0)), (1, .ref (ad 0)), (0, .ref b)]) C dL_law_703 (by decide) rfl ?_
  refine bh_aload_n C dL_law_705 rfl 3 rfl ?_
  refine bh_aload_n C dL_law_706 rfl 5 rfl ?_
  refine bh_iload C dL_law_707 1 rfl ?_
  refine bh_iconst (v := 1) C dL_law_709 (by decide) ?_
  refine bh_iadd C dL_law_710 ?_
  refine bh_topi (show nI (3 * i) + 1 = nI (3 * i + 1) from nI_add _ 1) ?_
  refine bh_sld C hX hbl hbA (vp_in_nI (n := 3 * i + 1) (by omega) (by omega)) (congrArg xs (nI_clamp (n := 3 * i + 1) (by omega))) dL_law_711 ?_
  refine bh_calli_L (As := [.int (xs (3 * i + 1))]) C (ct_X1_load l D cI cZ cL bd M thr (xs (3 * i + 1)) hI hK4) (cwV 1 C.1.2.2.2.2 gL_law_X1_load rfl rfl rfl (by decide +kernel) ⟨Nat.le_of_ble_eq_true rfl, Nat.le_of_ble_eq_true rfl⟩) (ci := 1) rfl 0 rfl rfl rfl (Nat.le_of_ble_eq_true rfl) dL_law_712 ⟨by show _ ≤ 1065; omega, by show _ ≤ 21124; omega⟩ (fun r1 u hq => ?_)
  refine bh_istore (lv' := [(6, .int r1), (5, .int (co_place M (xs (3 * i + 1)) 7)), (4, .int (nI (3 * i))), (3, .ref o), (2, .ref (bd 0)), (1, .ref (ad 0)), (0, .ref b)]) C dL_law_715 (by decide) rfl ?_
  refine bh_aload_n C dL_law_717 rfl 4 rfl ?_
  refine bh_calli_L (As := []) C (ct_X1_thrown l D cI cZ cL bd (mo_sel (co_place M (xs (3 * i + 1)) 7) (mo_bring M (xs (3 * i + 1)).toNatClampNeg 8) M) (co_place M (xs (3 * i + 1)) 7)) (cwV 0 C.1.2.2.2.2 gL_law_X1_thrown rfl rfl rfl (by decide +kernel) ⟨Nat.le_of_ble_eq_true rfl, Nat.le_of_ble_eq_true rfl⟩) (ci := 1) rfl 0 rfl rfl rfl (Nat.le_of_ble_eq_true rfl) dL_law_718 ⟨by show _ ≤ 1065; omega, by show _ ≤ 21124; omega⟩ (fun r u hq9 => ?_)
  subst hq9
  refine bh_iload C dL_law_721 1 rfl ?_
  refine bh_icmp_eq (tgt := 728) C dL_law_723 (by decide) (fun c_723 => ?_) (fun c_723 => absurd rfl c_723)
  refine bh_iload C dL_law_728 1 rfl ?_
  refine bh_if_ne (tgt := 745) C dL_law_730 (by decide) (fun cn => ?_) (fun cn => ?_)
  · skip
    refine bh_goto (tgt := 1414) C dL_law_745 (by decide) ?_
    refine bh_lv (lv' := [(4, .int (nI (3 * i))), (3, .ref o), (2, .ref (bd 0)), (1, .ref (ad 0)), (0, .ref b)]) [2, 3, 4, 5, 6] rfl ?_
    refine bh_widen (k := 26 + i + 1) (n := 12900 + 6 * i + 6) (by omega) (by omega) ?_
    exact kont _ _ _ (MO_load hI hK4 hT (xs (3 * i + 1)))
  · skip
    refine bh_aload_n C dL_law_733 rfl 3 rfl ?_
    refine bh_iconst (v := 0) C dL_law_734 (by decide) ?_
    refine bh_lald C 24 2 (f := g1) rfl rfl (vp_in_nI (n := 0) (by decide) (by decide)) (x := g1 0) (congrArg g1 (by decide +kernel)) dL_law_735 ?_
    refine bh_iload C dL_law_736 0 rfl ?_
    refine bh_i2l C dL_law_738 rfl ?_
    refine bh_lcmp C dL_law_739 ?_
    refine bh_if_eq (tgt := 745) C dL_law_740 (by decide) (fun _ => ?_) (fun c_740 => absurd ((lg_cmp_eq _ _).mpr (by rw [hg cn, hq cn])) c_740)
    refine bh_goto (tgt := 1414) C dL_law_745 (by decide) ?_
    refine bh_lv (lv' := [(4, .int (nI (3 * i))), (3, .ref o), (2, .ref (bd 0)), (1, .ref (ad 0)), (0, .ref b)]) [2, 3, 4, 5, 6] rfl ?_
    refine bh_widen (k := 26 + i + 1) (n := 12900 + 6 * i + 6) (by omega) (by omega) ?_
    exact kont _ _ _ (MO_load hI hK4 hT (xs (3 * i + 1)))
set_option maxRecDepth 100000 in
set_option maxHeartbeats 4000000 in
theorem law_offload {p : Program} {e : Env} {s : State} {m : MethodId} {below : List Frame} {meth : Method} {c : Code} {l : Launch} (hl : l.stackTraces = false) {D : va_G} {cI cZ cL : ClassId} {A : Nat → Prop} {rt : Option FieldType} {b L : Nat} {xs : Nat → Int32} {ad bd : Nat → Nat} {o : Nat} {Q : State → Prop} (C : bh_C p s m #[.ref b] meth c cL_law 7 wsL_law RL D (wh_tys cI cZ cL) A rt) (hE : xe_E A s s.heap) (hX : va_X b L xs s s.heap) (hbl : b < s.heap.size) (hbA : ¬ A b) (hL : L ≤ 1536) {i : Nat} (hi : 3 * i + 2 < L) {M : MT} {thr : Int32} {g : Nat → Int64} (hI : MI (4 * i) (200 * i) M)
    (kont : ∀ (M9 : MT) (t9 : Int32) (g9 : Nat → Int64), MI (4 * i + 4) (200 * i + 200) M9 → bh_W p l e room_1 s m #[.ref b] below meth c 7 D A (26 + i + 1) (12900 + 6 * i + 6) Q (wh_modl cI bd M9 t9 ++ (wh_hall cI cZ ad M9 ++ [wh_out cL o g9])) [(4, .int (nI (3 * i))), (3, .ref o), (2, .ref (bd 0)), (1, .ref (ad 0)), (0, .ref b)] 1414 []) :
    bh_W p l e room_1 s m #[.ref b] below meth c 7 D A (26 + i) (12900 + 6 * i) Q (wh_modl cI bd M thr ++ (wh_hall cI cZ ad M ++ [wh_out cL o g])) [(4, .int (nI (3 * i))), (3, .ref o), (2, .ref (bd 0)), (1, .ref (ad 0)), (0, .ref b)] 748 [] := by
  have hK4 : 4 * i + 4 ≤ 2048 := by omega
  have hT : 200 * i + 200 ≤ 102400 := by omega
  refine bh_aload_n C dL_law_748 rfl 3 rfl ?_
  refine bh_aload_n C dL_law_749 rfl 4 rfl ?_
  refine bh_iload C dL_law_750 0 rfl ?_
  refine bh_iconst (v := 1) C dL_law_752 (by decide) ?_
  refine bh_iadd C dL_law_753 ?_
  refine bh_topi (show nI (3 * i) + 1 = nI (3 * i + 1) from nI_add _ 1) ?_
  refine bh_sld C hX hbl hbA (vp_in_nI (n := 3 * i + 1) (by omega) (by omega)) (congrArg xs (nI_clamp (n := 3 * i + 1) (by omega))) dL_law_754 ?_
  refine bh_aload_n C dL_law_755 rfl 1 rfl ?_
  refine bh_calli_W (As := [.ref (ad 0), .int (xs (3 * i + 1)), .ref o]) C hE (ct_L_offload l hl D cI cZ cL ad o M (xs (3 * i + 1)) g hI hK4) (vx_cwSW 3 C.1.2.2.2.2 gL_law_L_offload rfl rfl rfl (by decide +kernel) ⟨Nat.le_of_ble_eq_true rfl, Nat.le_of_ble_eq_true rfl⟩) rfl rfl (Nat.le_of_ble_eq_true rfl) dL_law_756 ⟨(show 26 + i + 1 ≤ 1065 by omega), (show 12900 + 6 * i + 6 ≤ 21124 by omega)⟩ (fun r g1 hp => ?_)
  obtain ⟨rfl, hg⟩ := hp
  refine bh_istore (lv' := [(5, .int (co_place M (xs (3 * i + 1)) 8)), (4, .int (nI (3 * i))), (3, .ref o), (2, .ref (bd 0)), (1, .ref (ad 0)), (0, .ref b)]) C dL_law_759 (by decide) rfl ?_
  refine bh_aload_n C dL_law_761 rfl 3 rfl ?_
  refine bh_aload_n C dL_law_762 rfl 5 rfl ?_
  refine bh_iload C dL_law_763 1 rfl ?_
  refine bh_iconst (v := 1) C dL_law_765 (by decide) ?_
  refine bh_iadd C dL_law_766 ?_
  refine bh_topi (show nI (3 * i) + 1 = nI (3 * i + 1) from nI_add _ 1) ?_
  refine bh_sld C hX hbl hbA (vp_in_nI (n := 3 * i + 1) (by omega) (by omega)) (congrArg xs (nI_clamp (n := 3 * i + 1) (by omega))) dL_law_767 ?_
  refine bh_calli_L (As := [.int (xs (3 * i + 1))]) C (ct_X1_offload l D cI cZ cL bd M thr (xs (3 * i + 1)) hI hK4) (cwV 1 C.1.2.2.2.2 gL_law_X1_offload rfl rfl rfl (by decide +kernel) ⟨Nat.le_of_ble_eq_true rfl, Nat.le_of_ble_eq_true rfl⟩) (ci := 1) rfl 0 rfl rfl rfl (Nat.le_of_ble_eq_true rfl) dL_law_768 ⟨by show _ ≤ 1065; omega, by show _ ≤ 21124; omega⟩ (fun r1 u hq => ?_)
  refine bh_istore (lv' := [(6, .int r1), (5, .int (co_place M (xs (3 * i + 1)) 8)), (4, .int (nI (3 * i))), (3, .ref o), (2, .ref (bd 0)), (1, .ref (ad 0)), (0, .ref b)]) C dL_law_771 (by decide) rfl ?_
  refine bh_aload_n C dL_law_773 rfl 4 rfl ?_
  refine bh_calli_L (As := []) C (ct_X1_thrown l D cI cZ cL bd (mo_sel (co_place M (xs (3 * i + 1)) 8) (mo_bring M (xs (3 * i + 1)).toNatClampNeg 10) M) (co_place M (xs (3 * i + 1)) 8)) (cwV 0 C.1.2.2.2.2 gL_law_X1_thrown rfl rfl rfl (by decide +kernel) ⟨Nat.le_of_ble_eq_true rfl, Nat.le_of_ble_eq_true rfl⟩) (ci := 1) rfl 0 rfl rfl rfl (Nat.le_of_ble_eq_true rfl) dL_law_774 ⟨by show _ ≤ 1065; omega, by show _ ≤ 21124; omega⟩ (fun r u hq9 => ?_)
  subst hq9
  refine bh_iload C dL_law_777 1 rfl ?_
  refine bh_icmp_eq (tgt := 784) C dL_law_779 (by decide) (fun c_779 => ?_) (fun c_779 => absurd rfl c_779)
  refine bh_iload C dL_law_784 1 rfl ?_
  refine bh_if_ne (tgt := 801) C dL_law_786 (by decide) (fun cn => ?_) (fun cn => ?_)
  · skip
    refine bh_goto (tgt := 1414) C dL_law_801 (by decide) ?_
    refine bh_lv (lv' := [(4, .int (nI (3 * i))), (3, .ref o), (2, .ref (bd 0)), (1, .ref (ad 0)), (0, .ref b)]) [2, 3, 4, 5, 6] rfl ?_
    refine bh_widen (k := 26 + i + 1) (n := 12900 + 6 * i + 6) (by omega) (by omega) ?_
    exact kont _ _ _ (MO_offload hI hK4 hT (xs (3 * i + 1)))
  · skip
    refine bh_aload_n C dL_law_789 rfl 3 rfl ?_
    refine bh_iconst (v := 0) C dL_law_790 (by decide) ?_
    refine bh_lald C 24 2 (f := g1) rfl rfl (vp_in_nI (n := 0) (by decide) (by decide)) (x := g1 0) (congrArg g1 (by decide +kernel)) dL_law_791 ?_
    refine bh_iload C dL_law_792 0 rfl ?_
    refine bh_i2l C dL_law_794 rfl ?_
    refine bh_lcmp C dL_law_795 ?_
    refine bh_if_eq (tgt := 801) C dL_law_796 (by decide) (fun _ => ?_) (fun c_796 => absurd ((lg_cmp_eq _ _).mpr (by rw [hg cn, hq cn])) c_796)
    refine bh_goto (tgt := 1414) C dL_law_801 (by decide) ?_
    refine bh_lv (lv' := [(4, .int (nI (3 * i))), (3, .ref o), (2, .ref (bd 0)), (1, .ref (ad 0)), (0, .ref b)]) [2, 3, 4, 5, 6] rfl ?_
    refine bh_widen (k := 26 + i + 1) (n := 12900 + 6 * i + 6) (by omega) (by omega) ?_
    exact kont _ _ _ (MO_offload hI hK4 hT (xs (3 * i + 1)))
set_option maxRecDepth 100000 in
set_option maxHeartbeats 4000000 in
theorem law_sendOn {p : Program} {e : Env} {s : State} {m : MethodId} {below : List Frame} {meth : Method} {c : Code} {l : Launch} (hl : l.stackTraces = false) {D : va_G} {cI cZ cL : ClassId} {A : Nat → Prop} {rt : Option FieldType} {b L : Nat} {xs : Nat → Int32} {ad bd : Nat → Nat} {o : Nat} {Q : State → Prop} (C : bh_C p s m #[.ref b] meth c cL_law 7 wsL_law RL D (wh_tys cI cZ cL) A rt) (hE : xe_E A s s.heap) (hX : va_X b L xs s s.heap) (hbl : b < s.heap.size) (hbA : ¬ A b) (hL : L ≤ 1536) {i : Nat} (hi : 3 * i + 2 < L) {M : MT} {thr : Int32} {g : Nat → Int64} (hI : MI (4 * i) (200 * i) M)
    (kont : ∀ (M9 : MT) (t9 : Int32) (g9 : Nat → Int64), MI (4 * i + 4) (200 * i + 200) M9 → bh_W p l e room_1 s m #[.ref b] below meth c 7 D A (26 + i + 1) (12900 + 6 * i + 6) Q (wh_modl cI bd M9 t9 ++ (wh_hall cI cZ ad M9 ++ [wh_out cL o g9])) [(4, .int (nI (3 * i))), (3, .ref o), (2, .ref (bd 0)), (1, .ref (ad 0)), (0, .ref b)] 1414 []) :
    bh_W p l e room_1 s m #[.ref b] below meth c 7 D A (26 + i) (12900 + 6 * i) Q (wh_modl cI bd M thr ++ (wh_hall cI cZ ad M ++ [wh_out cL o g])) [(4, .int (nI (3 * i))), (3, .ref o), (2, .ref (bd 0)), (1, .ref (ad 0)), (0, .ref b)] 804 [] := by
  have hK4 : 4 * i + 4 ≤ 2048 := by omega
  have hT : 200 * i + 200 ≤ 102400 := by omega
  refine bh_aload_n C dL_law_804 rfl 3 rfl ?_
  refine bh_aload_n C dL_law_805 rfl 4 rfl ?_
  refine bh_iload C dL_law_806 0 rfl ?_
  refine bh_iconst (v := 1) C dL_law_808 (by decide) ?_
  refine bh_iadd C dL_law_809 ?_
  refine bh_topi (show nI (3 * i) + 1 = nI (3 * i + 1) from nI_add _ 1) ?_
  refine bh_sld C hX hbl hbA (vp_in_nI (n := 3 * i + 1) (by omega) (by omega)) (congrArg xs (nI_clamp (n := 3 * i + 1) (by omega))) dL_law_810 ?_
  refine bh_aload_n C dL_law_811 rfl 4 rfl ?_
  refine bh_iload C dL_law_812 0 rfl ?_
  refine bh_iconst (v := 2) C dL_law_814 (by decide) ?_
  refine bh_iadd C dL_law_815 ?_
  refine bh_topi (show nI (3 * i) + 2 = nI (3 * i + 2) from nI_add _ 2) ?_
  refine bh_sld C hX hbl hbA (vp_in_nI (n := 3 * i + 2) (by omega) (by omega)) (congrArg xs (nI_clamp (n := 3 * i + 2) (by omega))) dL_law_816 ?_
  refine bh_aload_n C dL_law_817 rfl 1 rfl ?_
  refine bh_calli_W (As := [.ref (ad 0), .int (xs (3 * i + 1)), .int (xs (3 * i + 2)), .ref o]) C hE (ct_L_sendOn l hl D cI cZ cL ad o M (xs (3 * i + 1)) (xs (3 * i + 2)) g hI hK4) (vx_cwSW 4 C.1.2.2.2.2 gL_law_L_sendOn rfl rfl rfl (by decide +kernel) ⟨Nat.le_of_ble_eq_true rfl, Nat.le_of_ble_eq_true rfl⟩) rfl rfl (Nat.le_of_ble_eq_true rfl) dL_law_818 ⟨(show 26 + i + 1 ≤ 1065 by omega), (show 12900 + 6 * i + 6 ≤ 21124 by omega)⟩ (fun r g1 hp => ?_)
  obtain ⟨rfl, hg⟩ := hp
  refine bh_istore (lv' := [(5, .int (co_send M (xs (3 * i + 1)) (xs (3 * i + 2)))), (4, .int (nI (3 * i))), (3, .ref o), (2, .ref (bd 0)), (1, .ref (ad 0)), (0, .ref b)]) C dL_law_821 (by decide) rfl ?_
  refine bh_aload_n C dL_law_823 rfl 3 rfl ?_
  refine bh_aload_n C dL_law_824 rfl 5 rfl ?_
  refine bh_iload C dL_law_825 1 rfl ?_
  refine bh_iconst (v := 1) C dL_law_827 (by decide) ?_
  refine bh_iadd C dL_law_828 ?_
  refine bh_topi (show nI (3 * i) + 1 = nI (3 * i + 1) from nI_add _ 1) ?_
  refine bh_sld C hX hbl hbA (vp_in_nI (n := 3 * i + 1) (by omega) (by omega)) (congrArg xs (nI_clamp (n := 3 * i + 1) (by omega))) dL_law_829 ?_
  refine bh_aload_n C dL_law_830 rfl 5 rfl ?_
  refine bh_iload C dL_law_831 1 rfl ?_
  refine bh_iconst (v := 2) C dL_law_833 (by decide) ?_
  refine bh_iadd C dL_law_834 ?_
  refine bh_topi (show nI (3 * i) + 2 = nI (3 * i + 2) from nI_add _ 2) ?_
  refine bh_sld C hX hbl hbA (vp_in_nI (n := 3 * i + 2) (by omega) (by omega)) (congrArg xs (nI_clamp (n := 3 * i + 2) (by omega))) dL_law_835 ?_
  refine bh_calli_L (As := [.int (xs (3 * i + 1)), .int (xs (3 * i + 2))]) C (ct_X1_sendOn l D cI cZ cL bd M thr (xs (3 * i + 1)) (xs (3 * i + 2)) hI hK4) (cwV 2 C.1.2.2.2.2 gL_law_X1_sendOn rfl rfl rfl (by decide +kernel) ⟨Nat.le_of_ble_eq_true rfl, Nat.le_of_ble_eq_true rfl⟩) (ci := 1) rfl 0 rfl rfl rfl (Nat.le_of_ble_eq_true rfl) dL_law_836 ⟨by show _ ≤ 1065; omega, by show _ ≤ 21124; omega⟩ (fun r1 u hq => ?_)
  refine bh_istore (lv' := [(6, .int r1), (5, .int (co_send M (xs (3 * i + 1)) (xs (3 * i + 2)))), (4, .int (nI (3 * i))), (3, .ref o), (2, .ref (bd 0)), (1, .ref (ad 0)), (0, .ref b)]) C dL_law_839 (by decide) rfl ?_
  refine bh_aload_n C dL_law_841 rfl 4 rfl ?_
  refine bh_calli_L (As := []) C (ct_X1_thrown l D cI cZ cL bd (mo_sel (co_send M (xs (3 * i + 1)) (xs (3 * i + 2))) (mo_route (mo_snd M (xs (3 * i + 1)).toNatClampNeg (xs (3 * i + 2))) (xs (3 * i + 1)).toNatClampNeg) M) (co_send M (xs (3 * i + 1)) (xs (3 * i + 2)))) (cwV 0 C.1.2.2.2.2 gL_law_X1_thrown rfl rfl rfl (by decide +kernel) ⟨Nat.le_of_ble_eq_true rfl, Nat.le_of_ble_eq_true rfl⟩) (ci := 1) rfl 0 rfl rfl rfl (Nat.le_of_ble_eq_true rfl) dL_law_842 ⟨by show _ ≤ 1065; omega, by show _ ≤ 21124; omega⟩ (fun r u hq9 => ?_)
  subst hq9
  refine bh_iload C dL_law_845 1 rfl ?_
  refine bh_icmp_eq (tgt := 852) C dL_law_847 (by decide) (fun c_847 => ?_) (fun c_847 => absurd rfl c_847)
  refine bh_iload C dL_law_852 1 rfl ?_
  refine bh_if_ne (tgt := 869) C dL_law_854 (by decide) (fun cn => ?_) (fun cn => ?_)
  · skip
    refine bh_goto (tgt := 1414) C dL_law_869 (by decide) ?_
    refine bh_lv (lv' := [(4, .int (nI (3 * i))), (3, .ref o), (2, .ref (bd 0)), (1, .ref (ad 0)), (0, .ref b)]) [2, 3, 4, 5, 6] rfl ?_
    refine bh_widen (k := 26 + i + 1) (n := 12900 + 6 * i + 6) (by omega) (by omega) ?_
    exact kont _ _ _ (MO_sendOn hI hK4 hT (xs (3 * i + 1)) (xs (3 * i + 2)))
  · skip
    refine bh_aload_n C dL_law_857 rfl 3 rfl ?_
    refine bh_iconst (v := 0) C dL_law_858 (by decide) ?_
    refine bh_lald C 24 2 (f := g1) rfl rfl (vp_in_nI (n := 0) (by decide) (by decide)) (x := g1 0) (congrArg g1 (by decide +kernel)) dL_law_859 ?_
    refine bh_iload C dL_law_860 0 rfl ?_
    refine bh_i2l C dL_law_862 rfl ?_
    refine bh_lcmp C dL_law_863 ?_
    refine bh_if_eq (tgt := 869) C dL_law_864 (by decide) (fun _ => ?_) (fun c_864 => absurd ((lg_cmp_eq _ _).mpr (by rw [hg cn, hq cn])) c_864)
    refine bh_goto (tgt := 1414) C dL_law_869 (by decide) ?_
    refine bh_lv (lv' := [(4, .int (nI (3 * i))), (3, .ref o), (2, .ref (bd 0)), (1, .ref (ad 0)), (0, .ref b)]) [2, 3, 4, 5, 6] rfl ?_
    refine bh_widen (k := 26 + i + 1) (n := 12900 + 6 * i + 6) (by omega) (by omega) ?_
    exact kont _ _ _ (MO_sendOn hI hK4 hT (xs (3 * i + 1)) (xs (3 * i + 2)))
set_option maxRecDepth 100000 in
set_option maxHeartbeats 4000000 in
theorem law_bags {p : Program} {e : Env} {s : State} {m : MethodId} {below : List Frame} {meth : Method} {c : Code} {l : Launch} (hl : l.stackTraces = false) {D : va_G} {cI cZ cL : ClassId} {A : Nat → Prop} {rt : Option FieldType} {b L : Nat} {xs : Nat → Int32} {ad bd : Nat → Nat} {o : Nat} {Q : State → Prop} (C : bh_C p s m #[.ref b] meth c cL_law 7 wsL_law RL D (wh_tys cI cZ cL) A rt) (hE : xe_E A s s.heap) (hX : va_X b L xs s s.heap) (hbl : b < s.heap.size) (hbA : ¬ A b) (hL : L ≤ 1536) {i : Nat} (hi : 3 * i + 2 < L) {M : MT} {thr : Int32} {g : Nat → Int64} (hI : MI (4 * i) (200 * i) M)
    (kont : ∀ (M9 : MT) (t9 : Int32) (g9 : Nat → Int64), MI (4 * i + 4) (200 * i + 200) M9 → bh_W p l e room_1 s m #[.ref b] below meth c 7 D A (26 + i + 1) (12900 + 6 * i + 6) Q (wh_modl cI bd M9 t9 ++ (wh_hall cI cZ ad M9 ++ [wh_out cL o g9])) [(4, .int (nI (3 * i))), (3, .ref o), (2, .ref (bd 0)), (1, .ref (ad 0)), (0, .ref b)] 1414 []) :
    bh_W p l e room_1 s m #[.ref b] below meth c 7 D A (26 + i) (12900 + 6 * i) Q (wh_modl cI bd M thr ++ (wh_hall cI cZ ad M ++ [wh_out cL o g])) [(4, .int (nI (3 * i))), (3, .ref o), (2, .ref (bd 0)), (1, .ref (ad 0)), (0, .ref b)] 872 [] := by
  have hK4 : 4 * i + 4 ≤ 2048 := by omega
  have hT : 200 * i + 200 ≤ 102400 := by omega
  refine bh_aload_n C dL_law_872 rfl 3 rfl ?_
  refine bh_calli_M (As := []) C (ct_X0_bags l D cI cZ cL ad M) (cwV 0 C.1.2.2.2.2 gL_law_X0_bags rfl rfl rfl (by decide +kernel) ⟨Nat.le_of_ble_eq_true rfl, Nat.le_of_ble_eq_true rfl⟩) (ci := 0) rfl 0 rfl rfl rfl (Nat.le_of_ble_eq_true rfl) dL_law_873 ⟨by show _ ≤ 1065; omega, by show _ ≤ 21124; omega⟩ (fun r u hp => ?_)
  subst hp
  refine bh_aload_n C dL_law_876 rfl 2 rfl ?_
  refine bh_calli_L (As := []) C (ct_X1_bags l D cI cZ cL bd M thr) (cwV 0 C.1.2.2.2.2 gL_law_X1_bags rfl rfl rfl (by decide +kernel) ⟨Nat.le_of_ble_eq_true rfl, Nat.le_of_ble_eq_true rfl⟩) (ci := 1) rfl 0 rfl rfl rfl (Nat.le_of_ble_eq_true rfl) dL_law_877 ⟨by show _ ≤ 1065; omega, by show _ ≤ 21124; omega⟩ (fun r u hq => ?_)
  subst hq
  refine bh_icmp_eq (tgt := 1414) C dL_law_880 (by decide) (fun c_880 => ?_) (fun c_880 => absurd rfl c_880)
  refine bh_lv (lv' := [(4, .int (nI (3 * i))), (3, .ref o), (2, .ref (bd 0)), (1, .ref (ad 0)), (0, .ref b)]) [0, 1, 2, 3, 4] rfl ?_
  refine bh_widen (k := 26 + i + 1) (n := 12900 + 6 * i + 6) (by omega) (by omega) ?_
  exact kont _ _ _ (MO_M hI hK4 hT)
set_option maxRecDepth 100000 in
set_option maxHeartbeats 4000000 in
theorem law_placeOf {p : Program} {e : Env} {s : State} {m : MethodId} {below : List Frame} {meth : Method} {c : Code} {l : Launch} (hl : l.stackTraces = false) {D : va_G} {cI cZ cL : ClassId} {A : Nat → Prop} {rt : Option FieldType} {b L : Nat} {xs : Nat → Int32} {ad bd : Nat → Nat} {o : Nat} {Q : State → Prop} (C : bh_C p s m #[.ref b] meth c cL_law 7 wsL_law RL D (wh_tys cI cZ cL) A rt) (hE : xe_E A s s.heap) (hX : va_X b L xs s s.heap) (hbl : b < s.heap.size) (hbA : ¬ A b) (hL : L ≤ 1536) {i : Nat} (hi : 3 * i + 2 < L) {M : MT} {thr : Int32} {g : Nat → Int64} (hI : MI (4 * i) (200 * i) M)
    (kont : ∀ (M9 : MT) (t9 : Int32) (g9 : Nat → Int64), MI (4 * i + 4) (200 * i + 200) M9 → bh_W p l e room_1 s m #[.ref b] below meth c 7 D A (26 + i + 1) (12900 + 6 * i + 6) Q (wh_modl cI bd M9 t9 ++ (wh_hall cI cZ ad M9 ++ [wh_out cL o g9])) [(4, .int (nI (3 * i))), (3, .ref o), (2, .ref (bd 0)), (1, .ref (ad 0)), (0, .ref b)] 1414 []) :
    bh_W p l e room_1 s m #[.ref b] below meth c 7 D A (26 + i) (12900 + 6 * i) Q (wh_modl cI bd M thr ++ (wh_hall cI cZ ad M ++ [wh_out cL o g])) [(4, .int (nI (3 * i))), (3, .ref o), (2, .ref (bd 0)), (1, .ref (ad 0)), (0, .ref b)] 885 [] := by
  have hK4 : 4 * i + 4 ≤ 2048 := by omega
  have hT : 200 * i + 200 ≤ 102400 := by omega
  refine bh_aload_n C dL_law_885 rfl 3 rfl ?_
  refine bh_aload_n C dL_law_886 rfl 4 rfl ?_
  refine bh_iload C dL_law_887 0 rfl ?_
  refine bh_iconst (v := 1) C dL_law_889 (by decide) ?_
  refine bh_iadd C dL_law_890 ?_
  refine bh_topi (show nI (3 * i) + 1 = nI (3 * i + 1) from nI_add _ 1) ?_
  refine bh_sld C hX hbl hbA (vp_in_nI (n := 3 * i + 1) (by omega) (by omega)) (congrArg xs (nI_clamp (n := 3 * i + 1) (by omega))) dL_law_891 ?_
  refine bh_aload_n C dL_law_892 rfl 1 rfl ?_
  refine bh_calli_W (As := [.ref (ad 0), .int (xs (3 * i + 1)), .ref o]) C hE (ct_L_placeOf l hl D cI cZ cL ad o M (xs (3 * i + 1)) g hI) (vx_cwSW 3 C.1.2.2.2.2 gL_law_L_placeOf rfl rfl rfl (by decide +kernel) ⟨Nat.le_of_ble_eq_true rfl, Nat.le_of_ble_eq_true rfl⟩) rfl rfl (Nat.le_of_ble_eq_true rfl) dL_law_893 ⟨(show 26 + i + 1 ≤ 1065 by omega), (show 12900 + 6 * i + 6 ≤ 21124 by omega)⟩ (fun r g1 hp => ?_)
  obtain ⟨rfl, hg⟩ := hp
  refine bh_istore (lv' := [(5, .int (co_in (xs (3 * i + 1)) (mq_bc M))), (4, .int (nI (3 * i))), (3, .ref o), (2, .ref (bd 0)), (1, .ref (ad 0)), (0, .ref b)]) C dL_law_896 (by decide) rfl ?_
  refine bh_aload_n C dL_law_898 rfl 3 rfl ?_
  refine bh_aload_n C dL_law_899 rfl 5 rfl ?_
  refine bh_iload C dL_law_900 1 rfl ?_
  refine bh_iconst (v := 1) C dL_law_902 (by decide) ?_
  refine bh_iadd C dL_law_903 ?_
  refine bh_topi (show nI (3 * i) + 1 = nI (3 * i + 1) from nI_add _ 1) ?_
  refine bh_sld C hX hbl hbA (vp_in_nI (n := 3 * i + 1) (by omega) (by omega)) (congrArg xs (nI_clamp (n := 3 * i + 1) (by omega))) dL_law_904 ?_
  refine bh_calli_L (As := [.int (xs (3 * i + 1))]) C (ct_X1_placeOf l D cI cZ cL bd M thr (xs (3 * i + 1)) hI) (cwV 1 C.1.2.2.2.2 gL_law_X1_placeOf rfl rfl rfl (by decide +kernel) ⟨Nat.le_of_ble_eq_true rfl, Nat.le_of_ble_eq_true rfl⟩) (ci := 1) rfl 0 rfl rfl rfl (Nat.le_of_ble_eq_true rfl) dL_law_905 ⟨by show _ ≤ 1065; omega, by show _ ≤ 21124; omega⟩ (fun r1 u hq => ?_)
  refine bh_istore (lv' := [(6, .int r1), (5, .int (co_in (xs (3 * i + 1)) (mq_bc M))), (4, .int (nI (3 * i))), (3, .ref o), (2, .ref (bd 0)), (1, .ref (ad 0)), (0, .ref b)]) C dL_law_908 (by decide) rfl ?_
  refine bh_aload_n C dL_law_910 rfl 4 rfl ?_
  refine bh_calli_L (As := []) C (ct_X1_thrown l D cI cZ cL bd M (co_in (xs (3 * i + 1)) (mq_bc M))) (cwV 0 C.1.2.2.2.2 gL_law_X1_thrown rfl rfl rfl (by decide +kernel) ⟨Nat.le_of_ble_eq_true rfl, Nat.le_of_ble_eq_true rfl⟩) (ci := 1) rfl 0 rfl rfl rfl (Nat.le_of_ble_eq_true rfl) dL_law_911 ⟨by show _ ≤ 1065; omega, by show _ ≤ 21124; omega⟩ (fun r u hq9 => ?_)
  subst hq9
  refine bh_iload C dL_law_914 1 rfl ?_
  refine bh_icmp_eq (tgt := 921) C dL_law_916 (by decide) (fun c_916 => ?_) (fun c_916 => absurd rfl c_916)
  refine bh_iload C dL_law_921 1 rfl ?_
  refine bh_if_ne (tgt := 938) C dL_law_923 (by decide) (fun cn => ?_) (fun cn => ?_)
  · skip
    refine bh_goto (tgt := 1414) C dL_law_938 (by decide) ?_
    refine bh_lv (lv' := [(4, .int (nI (3 * i))), (3, .ref o), (2, .ref (bd 0)), (1, .ref (ad 0)), (0, .ref b)]) [2, 3, 4, 5, 6] rfl ?_
    refine bh_widen (k := 26 + i + 1) (n := 12900 + 6 * i + 6) (by omega) (by omega) ?_
    exact kont _ _ _ (MO_M hI hK4 hT)
  · skip
    refine bh_aload_n C dL_law_926 rfl 3 rfl ?_
    refine bh_iconst (v := 0) C dL_law_927 (by decide) ?_
    refine bh_lald C 24 2 (f := g1) rfl rfl (vp_in_nI (n := 0) (by decide) (by decide)) (x := g1 0) (congrArg g1 (by decide +kernel)) dL_law_928 ?_
    refine bh_iload C dL_law_929 0 rfl ?_
    refine bh_i2l C dL_law_931 rfl ?_
    refine bh_lcmp C dL_law_932 ?_
    refine bh_if_eq (tgt := 938) C dL_law_933 (by decide) (fun _ => ?_) (fun c_933 => absurd ((lg_cmp_eq _ _).mpr (by rw [hg cn, hq cn])) c_933)
    refine bh_goto (tgt := 1414) C dL_law_938 (by decide) ?_
    refine bh_lv (lv' := [(4, .int (nI (3 * i))), (3, .ref o), (2, .ref (bd 0)), (1, .ref (ad 0)), (0, .ref b)]) [2, 3, 4, 5, 6] rfl ?_
    refine bh_widen (k := 26 + i + 1) (n := 12900 + 6 * i + 6) (by omega) (by omega) ?_
    exact kont _ _ _ (MO_M hI hK4 hT)
set_option maxRecDepth 100000 in
set_option maxHeartbeats 4000000 in
theorem law_placeByScans {p : Program} {e : Env} {s : State} {m : MethodId} {below : List Frame} {meth : Method} {c : Code} {l : Launch} (hl : l.stackTraces = false) {D : va_G} {cI cZ cL : ClassId} {A : Nat → Prop} {rt : Option FieldType} {b L : Nat} {xs : Nat → Int32} {ad bd : Nat → Nat} {o : Nat} {Q : State → Prop} (C : bh_C p s m #[.ref b] meth c cL_law 7 wsL_law RL D (wh_tys cI cZ cL) A rt) (hE : xe_E A s s.heap) (hX : va_X b L xs s s.heap) (hbl : b < s.heap.size) (hbA : ¬ A b) (hL : L ≤ 1536) {i : Nat} (hi : 3 * i + 2 < L) {M : MT} {thr : Int32} {g : Nat → Int64} (hI : MI (4 * i) (200 * i) M)
    (kont : ∀ (M9 : MT) (t9 : Int32) (g9 : Nat → Int64), MI (4 * i + 4) (200 * i + 200) M9 → bh_W p l e room_1 s m #[.ref b] below meth c 7 D A (26 + i + 1) (12900 + 6 * i + 6) Q (wh_modl cI bd M9 t9 ++ (wh_hall cI cZ ad M9 ++ [wh_out cL o g9])) [(4, .int (nI (3 * i))), (3, .ref o), (2, .ref (bd 0)), (1, .ref (ad 0)), (0, .ref b)] 1414 []) :
    bh_W p l e room_1 s m #[.ref b] below meth c 7 D A (26 + i) (12900 + 6 * i) Q (wh_modl cI bd M thr ++ (wh_hall cI cZ ad M ++ [wh_out cL o g])) [(4, .int (nI (3 * i))), (3, .ref o), (2, .ref (bd 0)), (1, .ref (ad 0)), (0, .ref b)] 941 [] := by
  have hK4 : 4 * i + 4 ≤ 2048 := by omega
  have hT : 200 * i + 200 ≤ 102400 := by omega
  refine bh_aload_n C dL_law_941 rfl 3 rfl ?_
  refine bh_aload_n C dL_law_942 rfl 4 rfl ?_
  refine bh_iload C dL_law_943 0 rfl ?_
  refine bh_iconst (v := 1) C dL_law_945 (by decide) ?_
  refine bh_iadd C dL_law_946 ?_
  refine bh_topi (show nI (3 * i) + 1 = nI (3 * i + 1) from nI_add _ 1) ?_
  refine bh_sld C hX hbl hbA (vp_in_nI (n := 3 * i + 1) (by omega) (by omega)) (congrArg xs (nI_clamp (n := 3 * i + 1) (by omega))) dL_law_947 ?_
  refine bh_aload_n C dL_law_948 rfl 4 rfl ?_
  refine bh_iload C dL_law_949 0 rfl ?_
  refine bh_iconst (v := 2) C dL_law_951 (by decide) ?_
  refine bh_iadd C dL_law_952 ?_
  refine bh_topi (show nI (3 * i) + 2 = nI (3 * i + 2) from nI_add _ 2) ?_
  refine bh_sld C hX hbl hbA (vp_in_nI (n := 3 * i + 2) (by omega) (by omega)) (congrArg xs (nI_clamp (n := 3 * i + 2) (by omega))) dL_law_953 ?_
  refine bh_aload_n C dL_law_954 rfl 1 rfl ?_
  refine bh_calli_W (As := [.ref (ad 0), .int (xs (3 * i + 1)), .int (xs (3 * i + 2)), .ref o]) C hE (ct_L_placeByScans l hl D cI cZ cL ad o M (xs (3 * i + 1)) (xs (3 * i + 2)) g hI) (vx_cwSW 4 C.1.2.2.2.2 gL_law_L_placeByScans rfl rfl rfl (by decide +kernel) ⟨Nat.le_of_ble_eq_true rfl, Nat.le_of_ble_eq_true rfl⟩) rfl rfl (Nat.le_of_ble_eq_true rfl) dL_law_955 ⟨(show 26 + i + 1 ≤ 1065 by omega), (show 12900 + 6 * i + 6 ≤ 21124 by omega)⟩ (fun r g1 hp => ?_)
  obtain ⟨rfl, hg⟩ := hp
  refine bh_istore (lv' := [(5, .int (co_pbs M (xs (3 * i + 1)) (xs (3 * i + 2)))), (4, .int (nI (3 * i))), (3, .ref o), (2, .ref (bd 0)), (1, .ref (ad 0)), (0, .ref b)]) C dL_law_958 (by decide) rfl ?_
  refine bh_aload_n C dL_law_960 rfl 3 rfl ?_
  refine bh_aload_n C dL_law_961 rfl 5 rfl ?_
  refine bh_iload C dL_law_962 1 rfl ?_
  refine bh_iconst (v := 1) C dL_law_964 (by decide) ?_
  refine bh_iadd C dL_law_965 ?_
  refine bh_topi (show nI (3 * i) + 1 = nI (3 * i + 1) from nI_add _ 1) ?_
  refine bh_sld C hX hbl hbA (vp_in_nI (n := 3 * i + 1) (by omega) (by omega)) (congrArg xs (nI_clamp (n := 3 * i + 1) (by omega))) dL_law_966 ?_
  refine bh_aload_n C dL_law_967 rfl 5 rfl ?_
  refine bh_iload C dL_law_968 1 rfl ?_
  refine bh_iconst (v := 2) C dL_law_970 (by decide) ?_
  refine bh_iadd C dL_law_971 ?_
  refine bh_topi (show nI (3 * i) + 2 = nI (3 * i + 2) from nI_add _ 2) ?_
  refine bh_sld C hX hbl hbA (vp_in_nI (n := 3 * i + 2) (by omega) (by omega)) (congrArg xs (nI_clamp (n := 3 * i + 2) (by omega))) dL_law_972 ?_
  refine bh_calli_L (As := [.int (xs (3 * i + 1)), .int (xs (3 * i + 2))]) C (ct_X1_placeByScans l D cI cZ cL bd M thr (xs (3 * i + 1)) (xs (3 * i + 2)) hI) (cwV 2 C.1.2.2.2.2 gL_law_X1_placeByScans rfl rfl rfl (by decide +kernel) ⟨Nat.le_of_ble_eq_true rfl, Nat.le_of_ble_eq_true rfl⟩) (ci := 1) rfl 0 rfl rfl rfl (Nat.le_of_ble_eq_true rfl) dL_law_973 ⟨by show _ ≤ 1065; omega, by show _ ≤ 21124; omega⟩ (fun r1 u hq => ?_)
  refine bh_istore (lv' := [(6, .int r1), (5, .int (co_pbs M (xs (3 * i + 1)) (xs (3 * i + 2)))), (4, .int (nI (3 * i))), (3, .ref o), (2, .ref (bd 0)), (1, .ref (ad 0)), (0, .ref b)]) C dL_law_976 (by decide) rfl ?_
  refine bh_aload_n C dL_law_978 rfl 4 rfl ?_
  refine bh_calli_L (As := []) C (ct_X1_thrown l D cI cZ cL bd M (co_pbs M (xs (3 * i + 1)) (xs (3 * i + 2)))) (cwV 0 C.1.2.2.2.2 gL_law_X1_thrown rfl rfl rfl (by decide +kernel) ⟨Nat.le_of_ble_eq_true rfl, Nat.le_of_ble_eq_true rfl⟩) (ci := 1) rfl 0 rfl rfl rfl (Nat.le_of_ble_eq_true rfl) dL_law_979 ⟨by show _ ≤ 1065; omega, by show _ ≤ 21124; omega⟩ (fun r u hq9 => ?_)
  subst hq9
  refine bh_iload C dL_law_982 1 rfl ?_
  refine bh_icmp_eq (tgt := 989) C dL_law_984 (by decide) (fun c_984 => ?_) (fun c_984 => absurd rfl c_984)
  refine bh_iload C dL_law_989 1 rfl ?_
  refine bh_if_ne (tgt := 1006) C dL_law_991 (by decide) (fun cn => ?_) (fun cn => ?_)
  · skip
    refine bh_goto (tgt := 1414) C dL_law_1006 (by decide) ?_
    refine bh_lv (lv' := [(4, .int (nI (3 * i))), (3, .ref o), (2, .ref (bd 0)), (1, .ref (ad 0)), (0, .ref b)]) [2, 3, 4, 5, 6] rfl ?_
    refine bh_widen (k := 26 + i + 1) (n := 12900 + 6 * i + 6) (by omega) (by omega) ?_
    exact kont _ _ _ (MO_M hI hK4 hT)
  · skip
    refine bh_aload_n C dL_law_994 rfl 3 rfl ?_
    refine bh_iconst (v := 0) C dL_law_995 (by decide) ?_
    refine bh_lald C 24 2 (f := g1) rfl rfl (vp_in_nI (n := 0) (by decide) (by decide)) (x := g1 0) (congrArg g1 (by decide +kernel)) dL_law_996 ?_
    refine bh_iload C dL_law_997 0 rfl ?_
    refine bh_i2l C dL_law_999 rfl ?_
    refine bh_lcmp C dL_law_1000 ?_
    refine bh_if_eq (tgt := 1006) C dL_law_1001 (by decide) (fun _ => ?_) (fun c_1001 => absurd ((lg_cmp_eq _ _).mpr (by rw [hg cn, hq cn])) c_1001)
    refine bh_goto (tgt := 1414) C dL_law_1006 (by decide) ?_
    refine bh_lv (lv' := [(4, .int (nI (3 * i))), (3, .ref o), (2, .ref (bd 0)), (1, .ref (ad 0)), (0, .ref b)]) [2, 3, 4, 5, 6] rfl ?_
    refine bh_widen (k := 26 + i + 1) (n := 12900 + 6 * i + 6) (by omega) (by omega) ?_
    exact kont _ _ _ (MO_M hI hK4 hT)
set_option maxRecDepth 100000 in
set_option maxHeartbeats 4000000 in
theorem law_flightOf {p : Program} {e : Env} {s : State} {m : MethodId} {below : List Frame} {meth : Method} {c : Code} {l : Launch} (hl : l.stackTraces = false) {D : va_G} {cI cZ cL : ClassId} {A : Nat → Prop} {rt : Option FieldType} {b L : Nat} {xs : Nat → Int32} {ad bd : Nat → Nat} {o : Nat} {Q : State → Prop} (C : bh_C p s m #[.ref b] meth c cL_law 7 wsL_law RL D (wh_tys cI cZ cL) A rt) (hE : xe_E A s s.heap) (hX : va_X b L xs s s.heap) (hbl : b < s.heap.size) (hbA : ¬ A b) (hL : L ≤ 1536) {i : Nat} (hi : 3 * i + 2 < L) {M : MT} {thr : Int32} {g : Nat → Int64} (hI : MI (4 * i) (200 * i) M)
    (kont : ∀ (M9 : MT) (t9 : Int32) (g9 : Nat → Int64), MI (4 * i + 4) (200 * i + 200) M9 → bh_W p l e room_1 s m #[.ref b] below meth c 7 D A (26 + i + 1) (12900 + 6 * i + 6) Q (wh_modl cI bd M9 t9 ++ (wh_hall cI cZ ad M9 ++ [wh_out cL o g9])) [(4, .int (nI (3 * i))), (3, .ref o), (2, .ref (bd 0)), (1, .ref (ad 0)), (0, .ref b)] 1414 []) :
    bh_W p l e room_1 s m #[.ref b] below meth c 7 D A (26 + i) (12900 + 6 * i) Q (wh_modl cI bd M thr ++ (wh_hall cI cZ ad M ++ [wh_out cL o g])) [(4, .int (nI (3 * i))), (3, .ref o), (2, .ref (bd 0)), (1, .ref (ad 0)), (0, .ref b)] 1009 [] := by
  have hK4 : 4 * i + 4 ≤ 2048 := by omega
  have hT : 200 * i + 200 ≤ 102400 := by omega
  refine bh_aload_n C dL_law_1009 rfl 3 rfl ?_
  refine bh_aload_n C dL_law_1010 rfl 4 rfl ?_
  refine bh_iload C dL_law_1011 0 rfl ?_
  refine bh_iconst (v := 1) C dL_law_1013 (by decide) ?_
  refine bh_iadd C dL_law_1014 ?_
  refine bh_topi (show nI (3 * i) + 1 = nI (3 * i + 1) from nI_add _ 1) ?_
  refine bh_sld C hX hbl hbA (vp_in_nI (n := 3 * i + 1) (by omega) (by omega)) (congrArg xs (nI_clamp (n := 3 * i + 1) (by omega))) dL_law_1015 ?_
  refine bh_aload_n C dL_law_1016 rfl 1 rfl ?_
  refine bh_calli_W (As := [.ref (ad 0), .int (xs (3 * i + 1)), .ref o]) C hE (ct_L_flightOf l hl D cI cZ cL ad o M (xs (3 * i + 1)) g hI) (vx_cwSW 3 C.1.2.2.2.2 gL_law_L_flightOf rfl rfl rfl (by decide +kernel) ⟨Nat.le_of_ble_eq_true rfl, Nat.le_of_ble_eq_true rfl⟩) rfl rfl (Nat.le_of_ble_eq_true rfl) dL_law_1017 ⟨(show 26 + i + 1 ≤ 1065 by omega), (show 12900 + 6 * i + 6 ≤ 21124 by omega)⟩ (fun r g1 hp => ?_)
  obtain ⟨rfl, hg⟩ := hp
  refine bh_istore (lv' := [(5, .int (co_in (xs (3 * i + 1)) (mq_bc M))), (4, .int (nI (3 * i))), (3, .ref o), (2, .ref (bd 0)), (1, .ref (ad 0)), (0, .ref b)]) C dL_law_1020 (by decide) rfl ?_
  refine bh_aload_n C dL_law_1022 rfl 3 rfl ?_
  refine bh_aload_n C dL_law_1023 rfl 5 rfl ?_
  refine bh_iload C dL_law_1024 1 rfl ?_
  refine bh_iconst (v := 1) C dL_law_1026 (by decide) ?_
  refine bh_iadd C dL_law_1027 ?_
  refine bh_topi (show nI (3 * i) + 1 = nI (3 * i + 1) from nI_add _ 1) ?_
  refine bh_sld C hX hbl hbA (vp_in_nI (n := 3 * i + 1) (by omega) (by omega)) (congrArg xs (nI_clamp (n := 3 * i + 1) (by omega))) dL_law_1028 ?_
  refine bh_calli_L (As := [.int (xs (3 * i + 1))]) C (ct_X1_flightOf l D cI cZ cL bd M thr (xs (3 * i + 1)) hI) (cwV 1 C.1.2.2.2.2 gL_law_X1_flightOf rfl rfl rfl (by decide +kernel) ⟨Nat.le_of_ble_eq_true rfl, Nat.le_of_ble_eq_true rfl⟩) (ci := 1) rfl 0 rfl rfl rfl (Nat.le_of_ble_eq_true rfl) dL_law_1029 ⟨by show _ ≤ 1065; omega, by show _ ≤ 21124; omega⟩ (fun r1 u hq => ?_)
  refine bh_istore (lv' := [(6, .int r1), (5, .int (co_in (xs (3 * i + 1)) (mq_bc M))), (4, .int (nI (3 * i))), (3, .ref o), (2, .ref (bd 0)), (1, .ref (ad 0)), (0, .ref b)]) C dL_law_1032 (by decide) rfl ?_
  refine bh_aload_n C dL_law_1034 rfl 4 rfl ?_
  refine bh_calli_L (As := []) C (ct_X1_thrown l D cI cZ cL bd M (co_in (xs (3 * i + 1)) (mq_bc M))) (cwV 0 C.1.2.2.2.2 gL_law_X1_thrown rfl rfl rfl (by decide +kernel) ⟨Nat.le_of_ble_eq_true rfl, Nat.le_of_ble_eq_true rfl⟩) (ci := 1) rfl 0 rfl rfl rfl (Nat.le_of_ble_eq_true rfl) dL_law_1035 ⟨by show _ ≤ 1065; omega, by show _ ≤ 21124; omega⟩ (fun r u hq9 => ?_)
  subst hq9
  refine bh_iload C dL_law_1038 1 rfl ?_
  refine bh_icmp_eq (tgt := 1045) C dL_law_1040 (by decide) (fun c_1040 => ?_) (fun c_1040 => absurd rfl c_1040)
  refine bh_iload C dL_law_1045 1 rfl ?_
  refine bh_if_ne (tgt := 1062) C dL_law_1047 (by decide) (fun cn => ?_) (fun cn => ?_)
  · skip
    refine bh_goto (tgt := 1414) C dL_law_1062 (by decide) ?_
    refine bh_lv (lv' := [(4, .int (nI (3 * i))), (3, .ref o), (2, .ref (bd 0)), (1, .ref (ad 0)), (0, .ref b)]) [2, 3, 4, 5, 6] rfl ?_
    refine bh_widen (k := 26 + i + 1) (n := 12900 + 6 * i + 6) (by omega) (by omega) ?_
    exact kont _ _ _ (MO_M hI hK4 hT)
  · skip
    refine bh_aload_n C dL_law_1050 rfl 3 rfl ?_
    refine bh_iconst (v := 0) C dL_law_1051 (by decide) ?_
    refine bh_lald C 24 2 (f := g1) rfl rfl (vp_in_nI (n := 0) (by decide) (by decide)) (x := g1 0) (congrArg g1 (by decide +kernel)) dL_law_1052 ?_
    refine bh_iload C dL_law_1053 0 rfl ?_
    refine bh_i2l C dL_law_1055 rfl ?_
    refine bh_lcmp C dL_law_1056 ?_
    refine bh_if_eq (tgt := 1062) C dL_law_1057 (by decide) (fun _ => ?_) (fun c_1057 => absurd ((lg_cmp_eq _ _).mpr (by rw [hg cn, hq cn])) c_1057)
    refine bh_goto (tgt := 1414) C dL_law_1062 (by decide) ?_
    refine bh_lv (lv' := [(4, .int (nI (3 * i))), (3, .ref o), (2, .ref (bd 0)), (1, .ref (ad 0)), (0, .ref b)]) [2, 3, 4, 5, 6] rfl ?_
    refine bh_widen (k := 26 + i + 1) (n := 12900 + 6 * i + 6) (by omega) (by omega) ?_
    exact kont _ _ _ (MO_M hI hK4 hT)
set_option maxRecDepth 100000 in
set_option maxHeartbeats 4000000 in
theorem law_count {p : Program} {e : Env} {s : State} {m : MethodId} {below : List Frame} {meth : Method} {c : Code} {l : Launch} (hl : l.stackTraces = false) {D : va_G} {cI cZ cL : ClassId} {A : Nat → Prop} {rt : Option FieldType} {b L : Nat} {xs : Nat → Int32} {ad bd : Nat → Nat} {o : Nat} {Q : State → Prop} (C : bh_C p s m #[.ref b] meth c cL_law 7 wsL_law RL D (wh_tys cI cZ cL) A rt) (hE : xe_E A s s.heap) (hX : va_X b L xs s s.heap) (hbl : b < s.heap.size) (hbA : ¬ A b) (hL : L ≤ 1536) {i : Nat} (hi : 3 * i + 2 < L) {M : MT} {thr : Int32} {g : Nat → Int64} (hI : MI (4 * i) (200 * i) M)
    (kont : ∀ (M9 : MT) (t9 : Int32) (g9 : Nat → Int64), MI (4 * i + 4) (200 * i + 200) M9 → bh_W p l e room_1 s m #[.ref b] below meth c 7 D A (26 + i + 1) (12900 + 6 * i + 6) Q (wh_modl cI bd M9 t9 ++ (wh_hall cI cZ ad M9 ++ [wh_out cL o g9])) [(4, .int (nI (3 * i))), (3, .ref o), (2, .ref (bd 0)), (1, .ref (ad 0)), (0, .ref b)] 1414 []) :
    bh_W p l e room_1 s m #[.ref b] below meth c 7 D A (26 + i) (12900 + 6 * i) Q (wh_modl cI bd M thr ++ (wh_hall cI cZ ad M ++ [wh_out cL o g])) [(4, .int (nI (3 * i))), (3, .ref o), (2, .ref (bd 0)), (1, .ref (ad 0)), (0, .ref b)] 1065 [] := by
  have hK4 : 4 * i + 4 ≤ 2048 := by omega
  have hT : 200 * i + 200 ≤ 102400 := by omega
  refine bh_aload_n C dL_law_1065 rfl 3 rfl ?_
  refine bh_aload_n C dL_law_1066 rfl 4 rfl ?_
  refine bh_iload C dL_law_1067 0 rfl ?_
  refine bh_iconst (v := 1) C dL_law_1069 (by decide) ?_
  refine bh_iadd C dL_law_1070 ?_
  refine bh_topi (show nI (3 * i) + 1 = nI (3 * i + 1) from nI_add _ 1) ?_
  refine bh_sld C hX hbl hbA (vp_in_nI (n := 3 * i + 1) (by omega) (by omega)) (congrArg xs (nI_clamp (n := 3 * i + 1) (by omega))) dL_law_1071 ?_
  refine bh_aload_n C dL_law_1072 rfl 1 rfl ?_
  refine bh_calli_W (As := [.ref (ad 0), .int (xs (3 * i + 1)), .ref o]) C hE (ct_L_count l hl D cI cZ cL ad o M (xs (3 * i + 1)) g hI) (vx_cwSW 3 C.1.2.2.2.2 gL_law_L_count rfl rfl rfl (by decide +kernel) ⟨Nat.le_of_ble_eq_true rfl, Nat.le_of_ble_eq_true rfl⟩) rfl rfl (Nat.le_of_ble_eq_true rfl) dL_law_1073 ⟨(show 26 + i + 1 ≤ 1065 by omega), (show 12900 + 6 * i + 6 ≤ 21124 by omega)⟩ (fun r g1 hp => ?_)
  obtain ⟨rfl, hg⟩ := hp
  refine bh_istore (lv' := [(5, .int (co_count (xs (3 * i + 1)))), (4, .int (nI (3 * i))), (3, .ref o), (2, .ref (bd 0)), (1, .ref (ad 0)), (0, .ref b)]) C dL_law_1076 (by decide) rfl ?_
  refine bh_aload_n C dL_law_1078 rfl 3 rfl ?_
  refine bh_aload_n C dL_law_1079 rfl 5 rfl ?_
  refine bh_iload C dL_law_1080 1 rfl ?_
  refine bh_iconst (v := 1) C dL_law_1082 (by decide) ?_
  refine bh_iadd C dL_law_1083 ?_
  refine bh_topi (show nI (3 * i) + 1 = nI (3 * i + 1) from nI_add _ 1) ?_
  refine bh_sld C hX hbl hbA (vp_in_nI (n := 3 * i + 1) (by omega) (by omega)) (congrArg xs (nI_clamp (n := 3 * i + 1) (by omega))) dL_law_1084 ?_
  refine bh_calli_L (As := [.int (xs (3 * i + 1))]) C (ct_X1_count l D cI cZ cL bd M thr (xs (3 * i + 1)) hI) (cwV 1 C.1.2.2.2.2 gL_law_X1_count rfl rfl rfl (by decide +kernel) ⟨Nat.le_of_ble_eq_true rfl, Nat.le_of_ble_eq_true rfl⟩) (ci := 1) rfl 0 rfl rfl rfl (Nat.le_of_ble_eq_true rfl) dL_law_1085 ⟨by show _ ≤ 1065; omega, by show _ ≤ 21124; omega⟩ (fun r1 u hq => ?_)
  refine bh_istore (lv' := [(6, .int r1), (5, .int (co_count (xs (3 * i + 1)))), (4, .int (nI (3 * i))), (3, .ref o), (2, .ref (bd 0)), (1, .ref (ad 0)), (0, .ref b)]) C dL_law_1088 (by decide) rfl ?_
  refine bh_aload_n C dL_law_1090 rfl 4 rfl ?_
  refine bh_calli_L (As := []) C (ct_X1_thrown l D cI cZ cL bd M (co_count (xs (3 * i + 1)))) (cwV 0 C.1.2.2.2.2 gL_law_X1_thrown rfl rfl rfl (by decide +kernel) ⟨Nat.le_of_ble_eq_true rfl, Nat.le_of_ble_eq_true rfl⟩) (ci := 1) rfl 0 rfl rfl rfl (Nat.le_of_ble_eq_true rfl) dL_law_1091 ⟨by show _ ≤ 1065; omega, by show _ ≤ 21124; omega⟩ (fun r u hq9 => ?_)
  subst hq9
  refine bh_iload C dL_law_1094 1 rfl ?_
  refine bh_icmp_eq (tgt := 1101) C dL_law_1096 (by decide) (fun c_1096 => ?_) (fun c_1096 => absurd rfl c_1096)
  refine bh_iload C dL_law_1101 1 rfl ?_
  refine bh_if_ne (tgt := 1118) C dL_law_1103 (by decide) (fun cn => ?_) (fun cn => ?_)
  · skip
    refine bh_goto (tgt := 1414) C dL_law_1118 (by decide) ?_
    refine bh_lv (lv' := [(4, .int (nI (3 * i))), (3, .ref o), (2, .ref (bd 0)), (1, .ref (ad 0)), (0, .ref b)]) [2, 3, 4, 5, 6] rfl ?_
    refine bh_widen (k := 26 + i + 1) (n := 12900 + 6 * i + 6) (by omega) (by omega) ?_
    exact kont _ _ _ (MO_M hI hK4 hT)
  · skip
    refine bh_aload_n C dL_law_1106 rfl 3 rfl ?_
    refine bh_iconst (v := 0) C dL_law_1107 (by decide) ?_
    refine bh_lald C 24 2 (f := g1) rfl rfl (vp_in_nI (n := 0) (by decide) (by decide)) (x := g1 0) (congrArg g1 (by decide +kernel)) dL_law_1108 ?_
    refine bh_iload C dL_law_1109 0 rfl ?_
    refine bh_i2l C dL_law_1111 rfl ?_
    refine bh_lcmp C dL_law_1112 ?_
    refine bh_if_eq (tgt := 1118) C dL_law_1113 (by decide) (fun _ => ?_) (fun c_1113 => absurd ((lg_cmp_eq _ _).mpr (by rw [hg cn, hq cn])) c_1113)
    refine bh_goto (tgt := 1414) C dL_law_1118 (by decide) ?_
    refine bh_lv (lv' := [(4, .int (nI (3 * i))), (3, .ref o), (2, .ref (bd 0)), (1, .ref (ad 0)), (0, .ref b)]) [2, 3, 4, 5, 6] rfl ?_
    refine bh_widen (k := 26 + i + 1) (n := 12900 + 6 * i + 6) (by omega) (by omega) ?_
    exact kont _ _ _ (MO_M hI hK4 hT)
set_option maxRecDepth 100000 in
set_option maxHeartbeats 4000000 in
theorem law_atLateral {p : Program} {e : Env} {s : State} {m : MethodId} {below : List Frame} {meth : Method} {c : Code} {l : Launch} (hl : l.stackTraces = false) {D : va_G} {cI cZ cL : ClassId} {A : Nat → Prop} {rt : Option FieldType} {b L : Nat} {xs : Nat → Int32} {ad bd : Nat → Nat} {o : Nat} {Q : State → Prop} (C : bh_C p s m #[.ref b] meth c cL_law 7 wsL_law RL D (wh_tys cI cZ cL) A rt) (hE : xe_E A s s.heap) (hX : va_X b L xs s s.heap) (hbl : b < s.heap.size) (hbA : ¬ A b) (hL : L ≤ 1536) {i : Nat} (hi : 3 * i + 2 < L) {M : MT} {thr : Int32} {g : Nat → Int64} (hI : MI (4 * i) (200 * i) M)
    (kont : ∀ (M9 : MT) (t9 : Int32) (g9 : Nat → Int64), MI (4 * i + 4) (200 * i + 200) M9 → bh_W p l e room_1 s m #[.ref b] below meth c 7 D A (26 + i + 1) (12900 + 6 * i + 6) Q (wh_modl cI bd M9 t9 ++ (wh_hall cI cZ ad M9 ++ [wh_out cL o g9])) [(4, .int (nI (3 * i))), (3, .ref o), (2, .ref (bd 0)), (1, .ref (ad 0)), (0, .ref b)] 1414 []) :
    bh_W p l e room_1 s m #[.ref b] below meth c 7 D A (26 + i) (12900 + 6 * i) Q (wh_modl cI bd M thr ++ (wh_hall cI cZ ad M ++ [wh_out cL o g])) [(4, .int (nI (3 * i))), (3, .ref o), (2, .ref (bd 0)), (1, .ref (ad 0)), (0, .ref b)] 1121 [] := by
  have hK4 : 4 * i + 4 ≤ 2048 := by omega
  have hT : 200 * i + 200 ≤ 102400 := by omega
  refine bh_aload_n C dL_law_1121 rfl 3 rfl ?_
  refine bh_aload_n C dL_law_1122 rfl 4 rfl ?_
  refine bh_iload C dL_law_1123 0 rfl ?_
  refine bh_iconst (v := 1) C dL_law_1125 (by decide) ?_
  refine bh_iadd C dL_law_1126 ?_
  refine bh_topi (show nI (3 * i) + 1 = nI (3 * i + 1) from nI_add _ 1) ?_
  refine bh_sld C hX hbl hbA (vp_in_nI (n := 3 * i + 1) (by omega) (by omega)) (congrArg xs (nI_clamp (n := 3 * i + 1) (by omega))) dL_law_1127 ?_
  refine bh_aload_n C dL_law_1128 rfl 1 rfl ?_
  refine bh_calli_W (As := [.ref (ad 0), .int (xs (3 * i + 1)), .ref o]) C hE (ct_L_atLateral l hl D cI cZ cL ad o M (xs (3 * i + 1)) g hI) (vx_cwSW 3 C.1.2.2.2.2 gL_law_L_atLateral rfl rfl rfl (by decide +kernel) ⟨Nat.le_of_ble_eq_true rfl, Nat.le_of_ble_eq_true rfl⟩) rfl rfl (Nat.le_of_ble_eq_true rfl) dL_law_1129 ⟨(show 26 + i + 1 ≤ 1065 by omega), (show 12900 + 6 * i + 6 ≤ 21124 by omega)⟩ (fun r g1 hp => ?_)
  obtain ⟨rfl, hg⟩ := hp
  refine bh_istore (lv' := [(5, .int (co_in (xs (3 * i + 1)) 4)), (4, .int (nI (3 * i))), (3, .ref o), (2, .ref (bd 0)), (1, .ref (ad 0)), (0, .ref b)]) C dL_law_1132 (by decide) rfl ?_
  refine bh_aload_n C dL_law_1134 rfl 3 rfl ?_
  refine bh_aload_n C dL_law_1135 rfl 5 rfl ?_
  refine bh_iload C dL_law_1136 1 rfl ?_
  refine bh_iconst (v := 1) C dL_law_1138 (by decide) ?_
  refine bh_iadd C dL_law_1139 ?_
  refine bh_topi (show nI (3 * i) + 1 = nI (3 * i + 1) from nI_add _ 1) ?_
  refine bh_sld C hX hbl hbA (vp_in_nI (n := 3 * i + 1) (by omega) (by omega)) (congrArg xs (nI_clamp (n := 3 * i + 1) (by omega))) dL_law_1140 ?_
  refine bh_calli_L (As := [.int (xs (3 * i + 1))]) C (ct_X1_atLateral l D cI cZ cL bd M thr (xs (3 * i + 1)) hI) (cwV 1 C.1.2.2.2.2 gL_law_X1_atLateral rfl rfl rfl (by decide +kernel) ⟨Nat.le_of_ble_eq_true rfl, Nat.le_of_ble_eq_true rfl⟩) (ci := 1) rfl 0 rfl rfl rfl (Nat.le_of_ble_eq_true rfl) dL_law_1141 ⟨by show _ ≤ 1065; omega, by show _ ≤ 21124; omega⟩ (fun r1 u hq => ?_)
  refine bh_istore (lv' := [(6, .int r1), (5, .int (co_in (xs (3 * i + 1)) 4)), (4, .int (nI (3 * i))), (3, .ref o), (2, .ref (bd 0)), (1, .ref (ad 0)), (0, .ref b)]) C dL_law_1144 (by decide) rfl ?_
  refine bh_aload_n C dL_law_1146 rfl 4 rfl ?_
  refine bh_calli_L (As := []) C (ct_X1_thrown l D cI cZ cL bd M (co_in (xs (3 * i + 1)) 4)) (cwV 0 C.1.2.2.2.2 gL_law_X1_thrown rfl rfl rfl (by decide +kernel) ⟨Nat.le_of_ble_eq_true rfl, Nat.le_of_ble_eq_true rfl⟩) (ci := 1) rfl 0 rfl rfl rfl (Nat.le_of_ble_eq_true rfl) dL_law_1147 ⟨by show _ ≤ 1065; omega, by show _ ≤ 21124; omega⟩ (fun r u hq9 => ?_)
  subst hq9
  refine bh_iload C dL_law_1150 1 rfl ?_
  refine bh_icmp_eq (tgt := 1157) C dL_law_1152 (by decide) (fun c_1152 => ?_) (fun c_1152 => absurd rfl c_1152)
  refine bh_iload C dL_law_1157 1 rfl ?_
  refine bh_if_ne (tgt := 1174) C dL_law_1159 (by decide) (fun cn => ?_) (fun cn => ?_)
  · skip
    refine bh_goto (tgt := 1414) C dL_law_1174 (by decide) ?_
    refine bh_lv (lv' := [(4, .int (nI (3 * i))), (3, .ref o), (2, .ref (bd 0)), (1, .ref (ad 0)), (0, .ref b)]) [2, 3, 4, 5, 6] rfl ?_
    refine bh_widen (k := 26 + i + 1) (n := 12900 + 6 * i + 6) (by omega) (by omega) ?_
    exact kont _ _ _ (MO_M hI hK4 hT)
  · skip
    refine bh_aload_n C dL_law_1162 rfl 3 rfl ?_
    refine bh_iconst (v := 0) C dL_law_1163 (by decide) ?_
    refine bh_lald C 24 2 (f := g1) rfl rfl (vp_in_nI (n := 0) (by decide) (by decide)) (x := g1 0) (congrArg g1 (by decide +kernel)) dL_law_1164 ?_
    refine bh_iload C dL_law_1165 0 rfl ?_
    refine bh_i2l C dL_law_1167 rfl ?_
    refine bh_lcmp C dL_law_1168 ?_
    refine bh_if_eq (tgt := 1174) C dL_law_1169 (by decide) (fun _ => ?_) (fun c_1169 => absurd ((lg_cmp_eq _ _).mpr (by rw [hg cn, hq cn])) c_1169)
    refine bh_goto (tgt := 1414) C dL_law_1174 (by decide) ?_
    refine bh_lv (lv' := [(4, .int (nI (3 * i))), (3, .ref o), (2, .ref (bd 0)), (1, .ref (ad 0)), (0, .ref b)]) [2, 3, 4, 5, 6] rfl ?_
    refine bh_widen (k := 26 + i + 1) (n := 12900 + 6 * i + 6) (by omega) (by omega) ?_
    exact kont _ _ _ (MO_M hI hK4 hT)
set_option maxRecDepth 100000 in
set_option maxHeartbeats 4000000 in
theorem law_unmatched {p : Program} {e : Env} {s : State} {m : MethodId} {below : List Frame} {meth : Method} {c : Code} {l : Launch} (hl : l.stackTraces = false) {D : va_G} {cI cZ cL : ClassId} {A : Nat → Prop} {rt : Option FieldType} {b L : Nat} {xs : Nat → Int32} {ad bd : Nat → Nat} {o : Nat} {Q : State → Prop} (C : bh_C p s m #[.ref b] meth c cL_law 7 wsL_law RL D (wh_tys cI cZ cL) A rt) (hE : xe_E A s s.heap) (hX : va_X b L xs s s.heap) (hbl : b < s.heap.size) (hbA : ¬ A b) (hL : L ≤ 1536) {i : Nat} (hi : 3 * i + 2 < L) {M : MT} {thr : Int32} {g : Nat → Int64} (hI : MI (4 * i) (200 * i) M)
    (kont : ∀ (M9 : MT) (t9 : Int32) (g9 : Nat → Int64), MI (4 * i + 4) (200 * i + 200) M9 → bh_W p l e room_1 s m #[.ref b] below meth c 7 D A (26 + i + 1) (12900 + 6 * i + 6) Q (wh_modl cI bd M9 t9 ++ (wh_hall cI cZ ad M9 ++ [wh_out cL o g9])) [(4, .int (nI (3 * i))), (3, .ref o), (2, .ref (bd 0)), (1, .ref (ad 0)), (0, .ref b)] 1414 []) :
    bh_W p l e room_1 s m #[.ref b] below meth c 7 D A (26 + i) (12900 + 6 * i) Q (wh_modl cI bd M thr ++ (wh_hall cI cZ ad M ++ [wh_out cL o g])) [(4, .int (nI (3 * i))), (3, .ref o), (2, .ref (bd 0)), (1, .ref (ad 0)), (0, .ref b)] 1177 [] := by
  have hK4 : 4 * i + 4 ≤ 2048 := by omega
  have hT : 200 * i + 200 ≤ 102400 := by omega
  refine bh_aload_n C dL_law_1177 rfl 3 rfl ?_
  refine bh_aload_n C dL_law_1178 rfl 4 rfl ?_
  refine bh_iload C dL_law_1179 0 rfl ?_
  refine bh_iconst (v := 1) C dL_law_1181 (by decide) ?_
  refine bh_iadd C dL_law_1182 ?_
  refine bh_topi (show nI (3 * i) + 1 = nI (3 * i + 1) from nI_add _ 1) ?_
  refine bh_sld C hX hbl hbA (vp_in_nI (n := 3 * i + 1) (by omega) (by omega)) (congrArg xs (nI_clamp (n := 3 * i + 1) (by omega))) dL_law_1183 ?_
  refine bh_aload_n C dL_law_1184 rfl 1 rfl ?_
  refine bh_calli_W (As := [.ref (ad 0), .int (xs (3 * i + 1)), .ref o]) C hE (ct_L_unmatched l hl D cI cZ cL ad o M (xs (3 * i + 1)) g hI) (vx_cwSW 3 C.1.2.2.2.2 gL_law_L_unmatched rfl rfl rfl (by decide +kernel) ⟨Nat.le_of_ble_eq_true rfl, Nat.le_of_ble_eq_true rfl⟩) rfl rfl (Nat.le_of_ble_eq_true rfl) dL_law_1185 ⟨(show 26 + i + 1 ≤ 1065 by omega), (show 12900 + 6 * i + 6 ≤ 21124 by omega)⟩ (fun r g1 hp => ?_)
  obtain ⟨rfl, hg⟩ := hp
  refine bh_istore (lv' := [(5, .int (co_in (xs (3 * i + 1)) (mq_fc M))), (4, .int (nI (3 * i))), (3, .ref o), (2, .ref (bd 0)), (1, .ref (ad 0)), (0, .ref b)]) C dL_law_1188 (by decide) rfl ?_
  refine bh_aload_n C dL_law_1190 rfl 3 rfl ?_
  refine bh_aload_n C dL_law_1191 rfl 5 rfl ?_
  refine bh_iload C dL_law_1192 1 rfl ?_
  refine bh_iconst (v := 1) C dL_law_1194 (by decide) ?_
  refine bh_iadd C dL_law_1195 ?_
  refine bh_topi (show nI (3 * i) + 1 = nI (3 * i + 1) from nI_add _ 1) ?_
  refine bh_sld C hX hbl hbA (vp_in_nI (n := 3 * i + 1) (by omega) (by omega)) (congrArg xs (nI_clamp (n := 3 * i + 1) (by omega))) dL_law_1196 ?_
  refine bh_calli_L (As := [.int (xs (3 * i + 1))]) C (ct_X1_unmatched l D cI cZ cL bd M thr (xs (3 * i + 1)) hI) (cwV 1 C.1.2.2.2.2 gL_law_X1_unmatched rfl rfl rfl (by decide +kernel) ⟨Nat.le_of_ble_eq_true rfl, Nat.le_of_ble_eq_true rfl⟩) (ci := 1) rfl 0 rfl rfl rfl (Nat.le_of_ble_eq_true rfl) dL_law_1197 ⟨by show _ ≤ 1065; omega, by show _ ≤ 21124; omega⟩ (fun r1 u hq => ?_)
  refine bh_istore (lv' := [(6, .int r1), (5, .int (co_in (xs (3 * i + 1)) (mq_fc M))), (4, .int (nI (3 * i))), (3, .ref o), (2, .ref (bd 0)), (1, .ref (ad 0)), (0, .ref b)]) C dL_law_1200 (by decide) rfl ?_
  refine bh_aload_n C dL_law_1202 rfl 4 rfl ?_
  refine bh_calli_L (As := []) C (ct_X1_thrown l D cI cZ cL bd M (co_in (xs (3 * i + 1)) (mq_fc M))) (cwV 0 C.1.2.2.2.2 gL_law_X1_thrown rfl rfl rfl (by decide +kernel) ⟨Nat.le_of_ble_eq_true rfl, Nat.le_of_ble_eq_true rfl⟩) (ci := 1) rfl 0 rfl rfl rfl (Nat.le_of_ble_eq_true rfl) dL_law_1203 ⟨by show _ ≤ 1065; omega, by show _ ≤ 21124; omega⟩ (fun r u hq9 => ?_)
  subst hq9
  refine bh_iload C dL_law_1206 1 rfl ?_
  refine bh_icmp_eq (tgt := 1213) C dL_law_1208 (by decide) (fun c_1208 => ?_) (fun c_1208 => absurd rfl c_1208)
  refine bh_iload C dL_law_1213 1 rfl ?_
  refine bh_if_ne (tgt := 1230) C dL_law_1215 (by decide) (fun cn => ?_) (fun cn => ?_)
  · skip
    refine bh_goto (tgt := 1414) C dL_law_1230 (by decide) ?_
    refine bh_lv (lv' := [(4, .int (nI (3 * i))), (3, .ref o), (2, .ref (bd 0)), (1, .ref (ad 0)), (0, .ref b)]) [2, 3, 4, 5, 6] rfl ?_
    refine bh_widen (k := 26 + i + 1) (n := 12900 + 6 * i + 6) (by omega) (by omega) ?_
    exact kont _ _ _ (MO_M hI hK4 hT)
  · skip
    refine bh_aload_n C dL_law_1218 rfl 3 rfl ?_
    refine bh_iconst (v := 0) C dL_law_1219 (by decide) ?_
    refine bh_lald C 24 2 (f := g1) rfl rfl (vp_in_nI (n := 0) (by decide) (by decide)) (x := g1 0) (congrArg g1 (by decide +kernel)) dL_law_1220 ?_
    refine bh_iload C dL_law_1221 0 rfl ?_
    refine bh_i2l C dL_law_1223 rfl ?_
    refine bh_lcmp C dL_law_1224 ?_
    refine bh_if_eq (tgt := 1230) C dL_law_1225 (by decide) (fun _ => ?_) (fun c_1225 => absurd ((lg_cmp_eq _ _).mpr (by rw [hg cn, hq cn])) c_1225)
    refine bh_goto (tgt := 1414) C dL_law_1230 (by decide) ?_
    refine bh_lv (lv' := [(4, .int (nI (3 * i))), (3, .ref o), (2, .ref (bd 0)), (1, .ref (ad 0)), (0, .ref b)]) [2, 3, 4, 5, 6] rfl ?_
    refine bh_widen (k := 26 + i + 1) (n := 12900 + 6 * i + 6) (by omega) (by omega) ?_
    exact kont _ _ _ (MO_M hI hK4 hT)
set_option maxRecDepth 100000 in
set_option maxHeartbeats 4000000 in
theorem law_untilClose {p : Program} {e : Env} {s : State} {m : MethodId} {below : List Frame} {meth : Method} {c : Code} {l : Launch} (hl : l.stackTraces = false) {D : va_G} {cI cZ cL : ClassId} {A : Nat → Prop} {rt : Option FieldType} {b L : Nat} {xs : Nat → Int32} {ad bd : Nat → Nat} {o : Nat} {Q : State → Prop} (C : bh_C p s m #[.ref b] meth c cL_law 7 wsL_law RL D (wh_tys cI cZ cL) A rt) (hE : xe_E A s s.heap) (hX : va_X b L xs s s.heap) (hbl : b < s.heap.size) (hbA : ¬ A b) (hL : L ≤ 1536) {i : Nat} (hi : 3 * i + 2 < L) {M : MT} {thr : Int32} {g : Nat → Int64} (hI : MI (4 * i) (200 * i) M)
    (kont : ∀ (M9 : MT) (t9 : Int32) (g9 : Nat → Int64), MI (4 * i + 4) (200 * i + 200) M9 → bh_W p l e room_1 s m #[.ref b] below meth c 7 D A (26 + i + 1) (12900 + 6 * i + 6) Q (wh_modl cI bd M9 t9 ++ (wh_hall cI cZ ad M9 ++ [wh_out cL o g9])) [(4, .int (nI (3 * i))), (3, .ref o), (2, .ref (bd 0)), (1, .ref (ad 0)), (0, .ref b)] 1414 []) :
    bh_W p l e room_1 s m #[.ref b] below meth c 7 D A (26 + i) (12900 + 6 * i) Q (wh_modl cI bd M thr ++ (wh_hall cI cZ ad M ++ [wh_out cL o g])) [(4, .int (nI (3 * i))), (3, .ref o), (2, .ref (bd 0)), (1, .ref (ad 0)), (0, .ref b)] 1233 [] := by
  have hK4 : 4 * i + 4 ≤ 2048 := by omega
  have hT : 200 * i + 200 ≤ 102400 := by omega
  refine bh_aload_n C dL_law_1233 rfl 3 rfl ?_
  refine bh_aload_n C dL_law_1234 rfl 4 rfl ?_
  refine bh_iload C dL_law_1235 0 rfl ?_
  refine bh_iconst (v := 1) C dL_law_1237 (by decide) ?_
  refine bh_iadd C dL_law_1238 ?_
  refine bh_topi (show nI (3 * i) + 1 = nI (3 * i + 1) from nI_add _ 1) ?_
  refine bh_sld C hX hbl hbA (vp_in_nI (n := 3 * i + 1) (by omega) (by omega)) (congrArg xs (nI_clamp (n := 3 * i + 1) (by omega))) dL_law_1239 ?_
  refine bh_aload_n C dL_law_1240 rfl 1 rfl ?_
  refine bh_calli_W (As := [.ref (ad 0), .int (xs (3 * i + 1)), .ref o]) C hE (ct_L_untilClose l hl D cI cZ cL ad o M (xs (3 * i + 1)) g hI) (vx_cwSW 3 C.1.2.2.2.2 gL_law_L_untilClose rfl rfl rfl (by decide +kernel) ⟨Nat.le_of_ble_eq_true rfl, Nat.le_of_ble_eq_true rfl⟩) rfl rfl (Nat.le_of_ble_eq_true rfl) dL_law_1241 ⟨(show 26 + i + 1 ≤ 1065 by omega), (show 12900 + 6 * i + 6 ≤ 21124 by omega)⟩ (fun r g1 hp => ?_)
  obtain ⟨rfl, hg⟩ := hp
  refine bh_istore (lv' := [(5, .int (co_in (xs (3 * i + 1)) (mq_fc M))), (4, .int (nI (3 * i))), (3, .ref o), (2, .ref (bd 0)), (1, .ref (ad 0)), (0, .ref b)]) C dL_law_1244 (by decide) rfl ?_
  refine bh_aload_n C dL_law_1246 rfl 3 rfl ?_
  refine bh_aload_n C dL_law_1247 rfl 5 rfl ?_
  refine bh_iload C dL_law_1248 1 rfl ?_
  refine bh_iconst (v := 1) C dL_law_1250 (by decide) ?_
  refine bh_iadd C dL_law_1251 ?_
  refine bh_topi (show nI (3 * i) + 1 = nI (3 * i + 1) from nI_add _ 1) ?_
  refine bh_sld C hX hbl hbA (vp_in_nI (n := 3 * i + 1) (by omega) (by omega)) (congrArg xs (nI_clamp (n := 3 * i + 1) (by omega))) dL_law_1252 ?_
  refine bh_calli_L (As := [.int (xs (3 * i + 1))]) C (ct_X1_untilClose l D cI cZ cL bd M thr (xs (3 * i + 1)) hI) (cwV 1 C.1.2.2.2.2 gL_law_X1_untilClose rfl rfl rfl (by decide +kernel) ⟨Nat.le_of_ble_eq_true rfl, Nat.le_of_ble_eq_true rfl⟩) (ci := 1) rfl 0 rfl rfl rfl (Nat.le_of_ble_eq_true rfl) dL_law_1253 ⟨by show _ ≤ 1065; omega, by show _ ≤ 21124; omega⟩ (fun r1 u hq => ?_)
  refine bh_istore (lv' := [(6, .int r1), (5, .int (co_in (xs (3 * i + 1)) (mq_fc M))), (4, .int (nI (3 * i))), (3, .ref o), (2, .ref (bd 0)), (1, .ref (ad 0)), (0, .ref b)]) C dL_law_1256 (by decide) rfl ?_
  refine bh_aload_n C dL_law_1258 rfl 4 rfl ?_
  refine bh_calli_L (As := []) C (ct_X1_thrown l D cI cZ cL bd M (co_in (xs (3 * i + 1)) (mq_fc M))) (cwV 0 C.1.2.2.2.2 gL_law_X1_thrown rfl rfl rfl (by decide +kernel) ⟨Nat.le_of_ble_eq_true rfl, Nat.le_of_ble_eq_true rfl⟩) (ci := 1) rfl 0 rfl rfl rfl (Nat.le_of_ble_eq_true rfl) dL_law_1259 ⟨by show _ ≤ 1065; omega, by show _ ≤ 21124; omega⟩ (fun r u hq9 => ?_)
  subst hq9
  refine bh_iload C dL_law_1262 1 rfl ?_
  refine bh_icmp_eq (tgt := 1269) C dL_law_1264 (by decide) (fun c_1264 => ?_) (fun c_1264 => absurd rfl c_1264)
  refine bh_iload C dL_law_1269 1 rfl ?_
  refine bh_if_ne (tgt := 1286) C dL_law_1271 (by decide) (fun cn => ?_) (fun cn => ?_)
  · skip
    refine bh_goto (tgt := 1414) C dL_law_1286 (by decide) ?_
    refine bh_lv (lv' := [(4, .int (nI (3 * i))), (3, .ref o), (2, .ref (bd 0)), (1, .ref (ad 0)), (0, .ref b)]) [2, 3, 4, 5, 6] rfl ?_
    refine bh_widen (k := 26 + i + 1) (n := 12900 + 6 * i + 6) (by omega) (by omega) ?_
    exact kont _ _ _ (MO_M hI hK4 hT)
  · skip
    refine bh_aload_n C dL_law_1274 rfl 3 rfl ?_
    refine bh_iconst (v := 0) C dL_law_1275 (by decide) ?_
    refine bh_lald C 24 2 (f := g1) rfl rfl (vp_in_nI (n := 0) (by decide) (by decide)) (x := g1 0) (congrArg g1 (by decide +kernel)) dL_law_1276 ?_
    refine bh_iload C dL_law_1277 0 rfl ?_
    refine bh_i2l C dL_law_1279 rfl ?_
    refine bh_lcmp C dL_law_1280 ?_
    refine bh_if_eq (tgt := 1286) C dL_law_1281 (by decide) (fun _ => ?_) (fun c_1281 => absurd ((lg_cmp_eq _ _).mpr (by rw [hg cn, hq cn])) c_1281)
    refine bh_goto (tgt := 1414) C dL_law_1286 (by decide) ?_
    refine bh_lv (lv' := [(4, .int (nI (3 * i))), (3, .ref o), (2, .ref (bd 0)), (1, .ref (ad 0)), (0, .ref b)]) [2, 3, 4, 5, 6] rfl ?_
    refine bh_widen (k := 26 + i + 1) (n := 12900 + 6 * i + 6) (by omega) (by omega) ?_
    exact kont _ _ _ (MO_M hI hK4 hT)
set_option maxRecDepth 100000 in
set_option maxHeartbeats 4000000 in
theorem law_scans {p : Program} {e : Env} {s : State} {m : MethodId} {below : List Frame} {meth : Method} {c : Code} {l : Launch} (hl : l.stackTraces = false) {D : va_G} {cI cZ cL : ClassId} {A : Nat → Prop} {rt : Option FieldType} {b L : Nat} {xs : Nat → Int32} {ad bd : Nat → Nat} {o : Nat} {Q : State → Prop} (C : bh_C p s m #[.ref b] meth c cL_law 7 wsL_law RL D (wh_tys cI cZ cL) A rt) (hE : xe_E A s s.heap) (hX : va_X b L xs s s.heap) (hbl : b < s.heap.size) (hbA : ¬ A b) (hL : L ≤ 1536) {i : Nat} (hi : 3 * i + 2 < L) {M : MT} {thr : Int32} {g : Nat → Int64} (hI : MI (4 * i) (200 * i) M)
    (kont : ∀ (M9 : MT) (t9 : Int32) (g9 : Nat → Int64), MI (4 * i + 4) (200 * i + 200) M9 → bh_W p l e room_1 s m #[.ref b] below meth c 7 D A (26 + i + 1) (12900 + 6 * i + 6) Q (wh_modl cI bd M9 t9 ++ (wh_hall cI cZ ad M9 ++ [wh_out cL o g9])) [(4, .int (nI (3 * i))), (3, .ref o), (2, .ref (bd 0)), (1, .ref (ad 0)), (0, .ref b)] 1414 []) :
    bh_W p l e room_1 s m #[.ref b] below meth c 7 D A (26 + i) (12900 + 6 * i) Q (wh_modl cI bd M thr ++ (wh_hall cI cZ ad M ++ [wh_out cL o g])) [(4, .int (nI (3 * i))), (3, .ref o), (2, .ref (bd 0)), (1, .ref (ad 0)), (0, .ref b)] 1289 [] := by
  have hK4 : 4 * i + 4 ≤ 2048 := by omega
  have hT : 200 * i + 200 ≤ 102400 := by omega
  refine bh_aload_n C dL_law_1289 rfl 3 rfl ?_
  refine bh_calli_M (As := []) C (ct_X0_scans l D cI cZ cL ad M) (cwV 0 C.1.2.2.2.2 gL_law_X0_scans rfl rfl rfl (by decide +kernel) ⟨Nat.le_of_ble_eq_true rfl, Nat.le_of_ble_eq_true rfl⟩) (ci := 0) rfl 0 rfl rfl rfl (Nat.le_of_ble_eq_true rfl) dL_law_1290 ⟨by show _ ≤ 1065; omega, by show _ ≤ 21124; omega⟩ (fun r u hp => ?_)
  subst hp
  refine bh_aload_n C dL_law_1293 rfl 2 rfl ?_
  refine bh_calli_L (As := []) C (ct_X1_scans l D cI cZ cL bd M thr) (cwV 0 C.1.2.2.2.2 gL_law_X1_scans rfl rfl rfl (by decide +kernel) ⟨Nat.le_of_ble_eq_true rfl, Nat.le_of_ble_eq_true rfl⟩) (ci := 1) rfl 0 rfl rfl rfl (Nat.le_of_ble_eq_true rfl) dL_law_1294 ⟨by show _ ≤ 1065; omega, by show _ ≤ 21124; omega⟩ (fun r u hq => ?_)
  subst hq
  refine bh_icmp_eq (tgt := 1414) C dL_law_1297 (by decide) (fun c_1297 => ?_) (fun c_1297 => absurd rfl c_1297)
  refine bh_lv (lv' := [(4, .int (nI (3 * i))), (3, .ref o), (2, .ref (bd 0)), (1, .ref (ad 0)), (0, .ref b)]) [0, 1, 2, 3, 4] rfl ?_
  refine bh_widen (k := 26 + i + 1) (n := 12900 + 6 * i + 6) (by omega) (by omega) ?_
  exact kont _ _ _ (MO_M hI hK4 hT)
set_option maxRecDepth 100000 in
set_option maxHeartbeats 4000000 in
theorem law_bagOfScan {p : Program} {e : Env} {s : State} {m : MethodId} {below : List Frame} {meth : Method} {c : Code} {l : Launch} (hl : l.stackTraces = false) {D : va_G} {cI cZ cL : ClassId} {A : Nat → Prop} {rt : Option FieldType} {b L : Nat} {xs : Nat → Int32} {ad bd : Nat → Nat} {o : Nat} {Q : State → Prop} (C : bh_C p s m #[.ref b] meth c cL_law 7 wsL_law RL D (wh_tys cI cZ cL) A rt) (hE : xe_E A s s.heap) (hX : va_X b L xs s s.heap) (hbl : b < s.heap.size) (hbA : ¬ A b) (hL : L ≤ 1536) {i : Nat} (hi : 3 * i + 2 < L) {M : MT} {thr : Int32} {g : Nat → Int64} (hI : MI (4 * i) (200 * i) M)
    (kont : ∀ (M9 : MT) (t9 : Int32) (g9 : Nat → Int64), MI (4 * i + 4) (200 * i + 200) M9 → bh_W p l e room_1 s m #[.ref b] below meth c 7 D A (26 + i + 1) (12900 + 6 * i + 6) Q (wh_modl cI bd M9 t9 ++ (wh_hall cI cZ ad M9 ++ [wh_out cL o g9])) [(4, .int (nI (3 * i))), (3, .ref o), (2, .ref (bd 0)), (1, .ref (ad 0)), (0, .ref b)] 1414 []) :
    bh_W p l e room_1 s m #[.ref b] below meth c 7 D A (26 + i) (12900 + 6 * i) Q (wh_modl cI bd M thr ++ (wh_hall cI cZ ad M ++ [wh_out cL o g])) [(4, .int (nI (3 * i))), (3, .ref o), (2, .ref (bd 0)), (1, .ref (ad 0)), (0, .ref b)] 1302 [] := by
  have hK4 : 4 * i + 4 ≤ 2048 := by omega
  have hT : 200 * i + 200 ≤ 102400 := by omega
  refine bh_aload_n C dL_law_1302 rfl 3 rfl ?_
  refine bh_aload_n C dL_law_1303 rfl 4 rfl ?_
  refine bh_iload C dL_law_1304 0 rfl ?_
  refine bh_iconst (v := 1) C dL_law_1306 (by decide) ?_
  refine bh_iadd C dL_law_1307 ?_
  refine bh_topi (show nI (3 * i) + 1 = nI (3 * i + 1) from nI_add _ 1) ?_
  refine bh_sld C hX hbl hbA (vp_in_nI (n := 3 * i + 1) (by omega) (by omega)) (congrArg xs (nI_clamp (n := 3 * i + 1) (by omega))) dL_law_1308 ?_
  refine bh_aload_n C dL_law_1309 rfl 1 rfl ?_
  refine bh_calli_W (As := [.ref (ad 0), .int (xs (3 * i + 1)), .ref o]) C hE (ct_L_bagOfScan l hl D cI cZ cL ad o M (xs (3 * i + 1)) g hI) (vx_cwSW 3 C.1.2.2.2.2 gL_law_L_bagOfScan rfl rfl rfl (by decide +kernel) ⟨Nat.le_of_ble_eq_true rfl, Nat.le_of_ble_eq_true rfl⟩) rfl rfl (Nat.le_of_ble_eq_true rfl) dL_law_1310 ⟨(show 26 + i + 1 ≤ 1065 by omega), (show 12900 + 6 * i + 6 ≤ 21124 by omega)⟩ (fun r g1 hp => ?_)
  obtain ⟨rfl, hg⟩ := hp
  refine bh_istore (lv' := [(5, .int (co_in (xs (3 * i + 1)) (mq_sc M))), (4, .int (nI (3 * i))), (3, .ref o), (2, .ref (bd 0)), (1, .ref (ad 0)), (0, .ref b)]) C dL_law_1313 (by decide) rfl ?_
  refine bh_aload_n C dL_law_1315 rfl 3 rfl ?_
  refine bh_aload_n C dL_law_1316 rfl 5 rfl ?_
  refine bh_iload C dL_law_1317 1 rfl ?_
  refine bh_iconst (v := 1) C dL_law_1319 (by decide) ?_
  refine bh_iadd C dL_law_1320 ?_
  refine bh_topi (show nI (3 * i) + 1 = nI (3 * i + 1) from nI_add _ 1) ?_
  refine bh_sld C hX hbl hbA (vp_in_nI (n := 3 * i + 1) (by omega) (by omega)) (congrArg xs (nI_clamp (n := 3 * i + 1) (by omega))) dL_law_1321 ?_
  refine bh_calli_L (As := [.int (xs (3 * i + 1))]) C (ct_X1_bagOfScan l D cI cZ cL bd M thr (xs (3 * i + 1)) hI) (cwV 1 C.1.2.2.2.2 gL_law_X1_bagOfScan rfl rfl rfl (by decide +kernel) ⟨Nat.le_of_ble_eq_true rfl, Nat.le_of_ble_eq_true rfl⟩) (ci := 1) rfl 0 rfl rfl rfl (Nat.le_of_ble_eq_true rfl) dL_law_1322 ⟨by show _ ≤ 1065; omega, by show _ ≤ 21124; omega⟩ (fun r1 u hq => ?_)
  refine bh_istore (lv' := [(6, .int r1), (5, .int (co_in (xs (3 * i + 1)) (mq_sc M))), (4, .int (nI (3 * i))), (3, .ref o), (2, .ref (bd 0)), (1, .ref (ad 0)), (0, .ref b)]) C dL_law_1325 (by decide) rfl ?_
  refine bh_aload_n C dL_law_1327 rfl 4 rfl ?_
  refine bh_calli_L (As := []) C (ct_X1_thrown l D cI cZ cL bd M (co_in (xs (3 * i + 1)) (mq_sc M))) (cwV 0 C.1.2.2.2.2 gL_law_X1_thrown rfl rfl rfl (by decide +kernel) ⟨Nat.le_of_ble_eq_true rfl, Nat.le_of_ble_eq_true rfl⟩) (ci := 1) rfl 0 rfl rfl rfl (Nat.le_of_ble_eq_true rfl) dL_law_1328 ⟨by show _ ≤ 1065; omega, by show _ ≤ 21124; omega⟩ (fun r u hq9 => ?_)
  subst hq9
  refine bh_iload C dL_law_1331 1 rfl ?_
  refine bh_icmp_eq (tgt := 1338) C dL_law_1333 (by decide) (fun c_1333 => ?_) (fun c_1333 => absurd rfl c_1333)
  refine bh_iload C dL_law_1338 1 rfl ?_
  refine bh_if_ne (tgt := 1355) C dL_law_1340 (by decide) (fun cn => ?_) (fun cn => ?_)
  · skip
    refine bh_goto (tgt := 1414) C dL_law_1355 (by decide) ?_
    refine bh_lv (lv' := [(4, .int (nI (3 * i))), (3, .ref o), (2, .ref (bd 0)), (1, .ref (ad 0)), (0, .ref b)]) [2, 3, 4, 5, 6] rfl ?_
    refine bh_widen (k := 26 + i + 1) (n := 12900 + 6 * i + 6) (by omega) (by omega) ?_
    exact kont _ _ _ (MO_M hI hK4 hT)
  · skip
    refine bh_aload_n C dL_law_1343 rfl 3 rfl ?_
    refine bh_iconst (v := 0) C dL_law_1344 (by decide) ?_
    refine bh_lald C 24 2 (f := g1) rfl rfl (vp_in_nI (n := 0) (by decide) (by decide)) (x := g1 0) (congrArg g1 (by decide +kernel)) dL_law_1345 ?_
    refine bh_iload C dL_law_1346 0 rfl ?_
    refine bh_i2l C dL_law_1348 rfl ?_
    refine bh_lcmp C dL_law_1349 ?_
    refine bh_if_eq (tgt := 1355) C dL_law_1350 (by decide) (fun _ => ?_) (fun c_1350 => absurd ((lg_cmp_eq _ _).mpr (by rw [hg cn, hq cn])) c_1350)
    refine bh_goto (tgt := 1414) C dL_law_1355 (by decide) ?_
    refine bh_lv (lv' := [(4, .int (nI (3 * i))), (3, .ref o), (2, .ref (bd 0)), (1, .ref (ad 0)), (0, .ref b)]) [2, 3, 4, 5, 6] rfl ?_
    refine bh_widen (k := 26 + i + 1) (n := 12900 + 6 * i + 6) (by omega) (by omega) ?_
    exact kont _ _ _ (MO_M hI hK4 hT)
set_option maxRecDepth 100000 in
set_option maxHeartbeats 4000000 in
theorem law_placeOfScan {p : Program} {e : Env} {s : State} {m : MethodId} {below : List Frame} {meth : Method} {c : Code} {l : Launch} (hl : l.stackTraces = false) {D : va_G} {cI cZ cL : ClassId} {A : Nat → Prop} {rt : Option FieldType} {b L : Nat} {xs : Nat → Int32} {ad bd : Nat → Nat} {o : Nat} {Q : State → Prop} (C : bh_C p s m #[.ref b] meth c cL_law 7 wsL_law RL D (wh_tys cI cZ cL) A rt) (hE : xe_E A s s.heap) (hX : va_X b L xs s s.heap) (hbl : b < s.heap.size) (hbA : ¬ A b) (hL : L ≤ 1536) {i : Nat} (hi : 3 * i + 2 < L) {M : MT} {thr : Int32} {g : Nat → Int64} (hI : MI (4 * i) (200 * i) M)
    (kont : ∀ (M9 : MT) (t9 : Int32) (g9 : Nat → Int64), MI (4 * i + 4) (200 * i + 200) M9 → bh_W p l e room_1 s m #[.ref b] below meth c 7 D A (26 + i + 1) (12900 + 6 * i + 6) Q (wh_modl cI bd M9 t9 ++ (wh_hall cI cZ ad M9 ++ [wh_out cL o g9])) [(4, .int (nI (3 * i))), (3, .ref o), (2, .ref (bd 0)), (1, .ref (ad 0)), (0, .ref b)] 1414 []) :
    bh_W p l e room_1 s m #[.ref b] below meth c 7 D A (26 + i) (12900 + 6 * i) Q (wh_modl cI bd M thr ++ (wh_hall cI cZ ad M ++ [wh_out cL o g])) [(4, .int (nI (3 * i))), (3, .ref o), (2, .ref (bd 0)), (1, .ref (ad 0)), (0, .ref b)] 1358 [] := by
  have hK4 : 4 * i + 4 ≤ 2048 := by omega
  have hT : 200 * i + 200 ≤ 102400 := by omega
  refine bh_aload_n C dL_law_1358 rfl 3 rfl ?_
  refine bh_aload_n C dL_law_1359 rfl 4 rfl ?_
  refine bh_iload C dL_law_1360 0 rfl ?_
  refine bh_iconst (v := 1) C dL_law_1362 (by decide) ?_
  refine bh_iadd C dL_law_1363 ?_
  refine bh_topi (show nI (3 * i) + 1 = nI (3 * i + 1) from nI_add _ 1) ?_
  refine bh_sld C hX hbl hbA (vp_in_nI (n := 3 * i + 1) (by omega) (by omega)) (congrArg xs (nI_clamp (n := 3 * i + 1) (by omega))) dL_law_1364 ?_
  refine bh_aload_n C dL_law_1365 rfl 1 rfl ?_
  refine bh_calli_W (As := [.ref (ad 0), .int (xs (3 * i + 1)), .ref o]) C hE (ct_L_placeOfScan l hl D cI cZ cL ad o M (xs (3 * i + 1)) g hI) (vx_cwSW 3 C.1.2.2.2.2 gL_law_L_placeOfScan rfl rfl rfl (by decide +kernel) ⟨Nat.le_of_ble_eq_true rfl, Nat.le_of_ble_eq_true rfl⟩) rfl rfl (Nat.le_of_ble_eq_true rfl) dL_law_1366 ⟨(show 26 + i + 1 ≤ 1065 by omega), (show 12900 + 6 * i + 6 ≤ 21124 by omega)⟩ (fun r g1 hp => ?_)
  obtain ⟨rfl, hg⟩ := hp
  refine bh_istore (lv' := [(5, .int (co_in (xs (3 * i + 1)) (mq_sc M))), (4, .int (nI (3 * i))), (3, .ref o), (2, .ref (bd 0)), (1, .ref (ad 0)), (0, .ref b)]) C dL_law_1369 (by decide) rfl ?_
  refine bh_aload_n C dL_law_1371 rfl 3 rfl ?_
  refine bh_aload_n C dL_law_1372 rfl 5 rfl ?_
  refine bh_iload C dL_law_1373 1 rfl ?_
  refine bh_iconst (v := 1) C dL_law_1375 (by decide) ?_
  refine bh_iadd C dL_law_1376 ?_
  refine bh_topi (show nI (3 * i) + 1 = nI (3 * i + 1) from nI_add _ 1) ?_
  refine bh_sld C hX hbl hbA (vp_in_nI (n := 3 * i + 1) (by omega) (by omega)) (congrArg xs (nI_clamp (n := 3 * i + 1) (by omega))) dL_law_1377 ?_
  refine bh_calli_L (As := [.int (xs (3 * i + 1))]) C (ct_X1_placeOfScan l D cI cZ cL bd M thr (xs (3 * i + 1)) hI) (cwV 1 C.1.2.2.2.2 gL_law_X1_placeOfScan rfl rfl rfl (by decide +kernel) ⟨Nat.le_of_ble_eq_true rfl, Nat.le_of_ble_eq_true rfl⟩) (ci := 1) rfl 0 rfl rfl rfl (Nat.le_of_ble_eq_true rfl) dL_law_1378 ⟨by show _ ≤ 1065; omega, by show _ ≤ 21124; omega⟩ (fun r1 u hq => ?_)
  refine bh_istore (lv' := [(6, .int r1), (5, .int (co_in (xs (3 * i + 1)) (mq_sc M))), (4, .int (nI (3 * i))), (3, .ref o), (2, .ref (bd 0)), (1, .ref (ad 0)), (0, .ref b)]) C dL_law_1381 (by decide) rfl ?_
  refine bh_aload_n C dL_law_1383 rfl 4 rfl ?_
  refine bh_calli_L (As := []) C (ct_X1_thrown l D cI cZ cL bd M (co_in (xs (3 * i + 1)) (mq_sc M))) (cwV 0 C.1.2.2.2.2 gL_law_X1_thrown rfl rfl rfl (by decide +kernel) ⟨Nat.le_of_ble_eq_true rfl, Nat.le_of_ble_eq_true rfl⟩) (ci := 1) rfl 0 rfl rfl rfl (Nat.le_of_ble_eq_true rfl) dL_law_1384 ⟨by show _ ≤ 1065; omega, by show _ ≤ 21124; omega⟩ (fun r u hq9 => ?_)
  subst hq9
  refine bh_iload C dL_law_1387 1 rfl ?_
  refine bh_icmp_eq (tgt := 1394) C dL_law_1389 (by decide) (fun c_1389 => ?_) (fun c_1389 => absurd rfl c_1389)
  refine bh_iload C dL_law_1394 1 rfl ?_
  refine bh_if_ne (tgt := 1411) C dL_law_1396 (by decide) (fun cn => ?_) (fun cn => ?_)
  · skip
    refine bh_goto (tgt := 1414) C dL_law_1411 (by decide) ?_
    refine bh_lv (lv' := [(4, .int (nI (3 * i))), (3, .ref o), (2, .ref (bd 0)), (1, .ref (ad 0)), (0, .ref b)]) [2, 3, 4, 5, 6] rfl ?_
    refine bh_widen (k := 26 + i + 1) (n := 12900 + 6 * i + 6) (by omega) (by omega) ?_
    exact kont _ _ _ (MO_M hI hK4 hT)
  · skip
    refine bh_aload_n C dL_law_1399 rfl 3 rfl ?_
    refine bh_iconst (v := 0) C dL_law_1400 (by decide) ?_
    refine bh_lald C 24 2 (f := g1) rfl rfl (vp_in_nI (n := 0) (by decide) (by decide)) (x := g1 0) (congrArg g1 (by decide +kernel)) dL_law_1401 ?_
    refine bh_iload C dL_law_1402 0 rfl ?_
    refine bh_i2l C dL_law_1404 rfl ?_
    refine bh_lcmp C dL_law_1405 ?_
    refine bh_if_eq (tgt := 1411) C dL_law_1406 (by decide) (fun _ => ?_) (fun c_1406 => absurd ((lg_cmp_eq _ _).mpr (by rw [hg cn, hq cn])) c_1406)
    refine bh_goto (tgt := 1414) C dL_law_1411 (by decide) ?_
    refine bh_lv (lv' := [(4, .int (nI (3 * i))), (3, .ref o), (2, .ref (bd 0)), (1, .ref (ad 0)), (0, .ref b)]) [2, 3, 4, 5, 6] rfl ?_
    refine bh_widen (k := 26 + i + 1) (n := 12900 + 6 * i + 6) (by omega) (by omega) ?_
    exact kont _ _ _ (MO_M hI hK4 hT)
