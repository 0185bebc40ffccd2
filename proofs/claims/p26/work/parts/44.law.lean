section
variable {K T : Nat} {M : MT}
theorem nI_nm3 {n : Nat} (hn : n < 2 ^ 31) : ¬ nI n = -3 := fun z => nI_pos (n := n) hn (by rw [z]; decide)
theorem add_rng {j : Nat} (h : j < 1000) : ¬ nI (1 + j) < 1 ∧ nI (1 + j) ≤ 1000 := by
  refine ⟨fun z => ?_, (nI_leI (a := 1 + j) (b := 1000) (by omega) (by decide)).mpr (by omega)⟩
  have := (nI_ltI (a := 1 + j) (b := 1) (by omega) (by decide)).mp z
  omega
theorem co_pass0 {j : Nat} (h : j < 200) : co_pass (nI (1 + j)) = 0 := by
  refine if_neg (fun z => ?_)
  rcases z with z | z
  · have := (nI_ltI (a := 1 + j) (b := 1) (by omega) (by decide)).mp z
    omega
  · have := (nI_ltI (a := 200) (b := 1 + j) (by decide) (by omega)).mp z
    omega
theorem low_in40 (x : Int32) : vp_in (lo_low x 40) 40 := by
  obtain ⟨j, hj, ej⟩ := lo_low_in x (n := 40) (by decide) (by decide)
  rw [show lo_low x 40 = nI j from ej]
  exact vp_in_nI hj (by decide)
theorem low_at (x : Int32) {c : Int32} {n : Nat} (h : nI n = c) (h0 : 0 < n) (hn : n < 2 ^ 31) : ∃ j, j < n ∧ lo_low x c = nI j := by
  rw [← h]; exact lo_low_in x h0 hn
end
set_option maxRecDepth 100000 in
set_option maxHeartbeats 4000000 in
theorem law_add {p : Program} {e : Env} {s : State} {m : MethodId} {below : List Frame} {meth : Method} {c : Code} {l : Launch} (hl : l.stackTraces = false) {D : va_G} {cI cZ cL : ClassId} {A : Nat → Prop} {rt : Option FieldType} {b : Nat} {ad : Nat → Nat} {Q : State → Prop} (C : bh_C p s m #[.ref b] meth c cL_law 11 wsL_law RL D (wh_tys cI cZ cL) A rt) (hE : xe_E A s s.heap) {i t : Nat} (hi : i < 60) {M : MT} {x7 v : Int32} (hP : PX (4 * i) (200 * i) M)
    (kont : ∀ (M9 : MT), PX (4 * i + 4) (200 * i + 200) M9 → bh_W p l e room_1 s m #[.ref b] below meth c 11 D A (14 + 2 * i + 2) (6521 + 12 * i + 12) Q (wh_hall cI cZ ad M9) [(3, .int 1), (2, .int (nI (mq_fc M9))), (5, .int (nI i)), (4, .int (nI t)), (1, .ref (ad 0)), (0, .ref b)] 487 [])  :
    bh_W p l e room_1 s m #[.ref b] below meth c 11 D A (14 + 2 * i) (6521 + 12 * i) Q (wh_hall cI cZ ad M) [(7, .int x7), (6, .int v), (5, .int (nI i)), (4, .int (nI t)), (3, .int 1), (2, .int (nI (mq_fc M))), (1, .ref (ad 0)), (0, .ref b)] 98 [] := by
  have hK4 : 4 * i + 4 ≤ 2048 := by omega
  have hT : 200 * i + 200 ≤ 102400 := by omega
  have hbc := MI_bc hP.1; have hfc := MI_fc hP.1; have hsc := MI_sc hP.1; have hnow := MI_now2 hP.1
  refine bh_aload_n C dL_law_98 rfl 6 rfl ?_
  refine bh_iconst (v := 1) C dL_law_99 (by decide) ?_
  refine bh_iload C dL_law_100 1 rfl ?_
  refine bh_iload C dL_law_102 1 rfl ?_
  refine bh_bipush (v := 12) C dL_law_104 (by decide) ?_
  refine bh_ishr C dL_law_106 ?_
  refine bh_iconst (v := 2) C dL_law_107 (by decide) ?_
  refine bh_calli_N (As := [.int (v >>> (12 &&& 31)), .int 2]) C (ct_L_low l D cI cZ cL (v >>> (12 &&& 31)) 2 (by decide)) ⟨callB_of 2 C.1.2.2.2.2 ggL_law_L_low rfl rfl rfl (C.1.2.2.2.2 _ (by decide +kernel)) (C.1.2.2.2.2 _ (by decide +kernel)) (by decide +kernel) ⟨Nat.le_of_ble_eq_true rfl, Nat.le_of_ble_eq_true rfl⟩, C.1.2.2.2.2 _ (by decide +kernel)⟩ rfl rfl (Nat.le_of_ble_eq_true rfl) dL_law_108 ⟨by show _ ≤ 202; omega, by show _ ≤ 7993; omega⟩ (fun r_108 u_108 hp_108 => ?_)
  subst hp_108
  refine bh_if_ne (tgt := 120) C dL_law_111 (by decide) (fun c_111 => ?_) (fun c_111 => ?_)
  · skip
    refine bh_bipush (v := 90) C dL_law_120 (by decide) ?_
    obtain ⟨j, hj, ej⟩ := low_at v (c := 90) (n := 90) rfl (by decide) (by decide)
    refine bh_calli_N (As := [.int v, .int 90]) C (ct_L_low l D cI cZ cL v 90 (by decide)) ⟨callB_of 2 C.1.2.2.2.2 ggL_law_L_low rfl rfl rfl (C.1.2.2.2.2 _ (by decide +kernel)) (C.1.2.2.2.2 _ (by decide +kernel)) (by decide +kernel) ⟨Nat.le_of_ble_eq_true rfl, Nat.le_of_ble_eq_true rfl⟩, C.1.2.2.2.2 _ (by decide +kernel)⟩ rfl rfl (Nat.le_of_ble_eq_true rfl) dL_law_122 ⟨by show _ ≤ 202; omega, by show _ ≤ 7993; omega⟩ (fun r_122 u_122 hp_122 => ?_)
    subst hp_122
    refine bh_topi ej ?_
    refine bh_iadd C dL_law_125 ?_
    refine bh_topi (show (1 : Int32) + nI j = nI (1 + j) from nI_add 1 j) ?_
    have hr := add_rng (j := j) (by omega)
    refine bh_calli_Z (As := [.ref (ad 0), .int (nI (1 + j))]) C hE (ct_L_addFlight l hl D cI cZ cL ad M (nI (1 + j)) hP.1 hr.1 hr.2) (vx_cwSW 2 C.1.2.2.2.2 gL_law_L_addFlight rfl rfl rfl (by decide +kernel) ⟨Nat.le_of_ble_eq_true rfl, Nat.le_of_ble_eq_true rfl⟩) rfl rfl (Nat.le_of_ble_eq_true rfl) dL_law_126 ⟨by show _ ≤ 202; omega, by show _ ≤ 7993; omega⟩ (fun r u hp => ?_)
    rcases hp with ⟨rfl, hco, rfl⟩ | ⟨rfl, h10, rfl⟩
    · have hP2 := PX_add hP hco
      refine bh_istore (lv' := [(8, .int (nI (mq_fc M))), (7, .int x7), (6, .int v), (5, .int (nI i)), (4, .int (nI t)), (3, .int 1), (2, .int (nI (mq_fc M))), (1, .ref (ad 0)), (0, .ref b)]) C dL_law_129 (by decide) rfl ?_
      refine bh_iload C dL_law_131 0 rfl ?_
      refine bh_bipush (v := (-3)) C dL_law_133 (by decide) ?_
      refine bh_icmp_ne (tgt := 152) C dL_law_135 (by decide) (fun c_135 => ?_) (fun c_135 => absurd c_135 (nI_nm3 (by omega)))
      refine bh_iload C dL_law_152 0 rfl ?_
      refine bh_iload_n C dL_law_154 rfl 6 rfl ?_
      refine bh_icmp_ne (tgt := 162) C dL_law_155 (by decide) (fun c_155 => absurd rfl c_155) (fun c_155 => ?_)
      refine bh_iconst (v := 1) C dL_law_158 (by decide) ?_
      refine bh_goto (tgt := 163) C dL_law_159 (by decide) ?_
      refine bh_istore_n (lv' := [(3, .int 1), (8, .int (nI (mq_fc M))), (7, .int x7), (6, .int v), (5, .int (nI i)), (4, .int (nI t)), (2, .int (nI (mq_fc M))), (1, .ref (ad 0)), (0, .ref b)]) C dL_law_163 rfl (by decide) rfl ?_
      refine bh_iload_n C dL_law_164 rfl 6 rfl ?_
      refine bh_iload C dL_law_165 1 rfl ?_
      refine bh_bipush (v := (-3)) C dL_law_167 (by decide) ?_
      refine bh_icmp_ne (tgt := 176) C dL_law_169 (by decide) (fun c_169 => ?_) (fun c_169 => absurd c_169 (nI_nm3 (by omega)))
      refine bh_iconst (v := 1) C dL_law_176 (by decide) ?_
      refine bh_iadd C dL_law_177 ?_
      refine bh_topi (nI_1 _) ?_
      refine bh_istore_n (lv' := [(2, .int (nI ((mq_fc M) + 1))), (3, .int 1), (8, .int (nI (mq_fc M))), (7, .int x7), (6, .int v), (5, .int (nI i)), (4, .int (nI t)), (1, .ref (ad 0)), (0, .ref b)]) C dL_law_178 rfl (by decide) rfl ?_
      refine bh_goto (tgt := 487) C dL_law_179 (by decide) ?_
      refine bh_lv (lv' := [(3, .int 1), (2, .int (nI ((mq_fc M) + 1))), (5, .int (nI i)), (4, .int (nI t)), (1, .ref (ad 0)), (0, .ref b)]) [1, 0, 5, 6, 7, 8] rfl ?_
      refine bh_eqlv (lv' := [(3, .int 1), (2, .int (nI (mq_fc (mo_add M (nI (1 + j)))))), (5, .int (nI i)), (4, .int (nI t)), (1, .ref (ad 0)), (0, .ref b)]) rfl ?_
      refine bh_widen (k := 14 + 2 * i + 2) (n := 6521 + 12 * i + 12) (by omega) (by omega) ?_
      exact kont _ (PX_mono hP2 (by omega) hK4 (by omega) hT)
    · have h10 : mq_fc M = 10 := by omega
      refine bh_istore (lv' := [(8, .int (-3)), (7, .int x7), (6, .int v), (5, .int (nI i)), (4, .int (nI t)), (3, .int 1), (2, .int (nI (mq_fc M))), (1, .ref (ad 0)), (0, .ref b)]) C dL_law_129 (by decide) rfl ?_
      refine bh_iload C dL_law_131 0 rfl ?_
      refine bh_bipush (v := (-3)) C dL_law_133 (by decide) ?_
      refine bh_icmp_ne (tgt := 152) C dL_law_135 (by decide) (fun c_135 => absurd c_135 (by decide)) (fun c_135 => ?_)
      refine bh_iload_n C dL_law_138 rfl 6 rfl ?_
      refine bh_bipush (v := 10) C dL_law_139 (by decide) ?_
      refine bh_icmp_ne (tgt := 148) C dL_law_141 (by decide) (fun c_141 => absurd (show nI (mq_fc M) = 10 by rw [h10]; rfl) c_141) (fun c_141 => ?_)
      refine bh_iconst (v := 1) C dL_law_144 (by decide) ?_
      refine bh_goto (tgt := 163) C dL_law_145 (by decide) ?_
      refine bh_istore_n (lv' := [(3, .int 1), (8, .int (-3)), (7, .int x7), (6, .int v), (5, .int (nI i)), (4, .int (nI t)), (2, .int (nI (mq_fc M))), (1, .ref (ad 0)), (0, .ref b)]) C dL_law_163 rfl (by decide) rfl ?_
      refine bh_iload_n C dL_law_164 rfl 6 rfl ?_
      refine bh_iload C dL_law_165 1 rfl ?_
      refine bh_bipush (v := (-3)) C dL_law_167 (by decide) ?_
      refine bh_icmp_ne (tgt := 176) C dL_law_169 (by decide) (fun c_169 => absurd c_169 (by decide)) (fun c_169 => ?_)
      refine bh_iconst (v := 0) C dL_law_172 (by decide) ?_
      refine bh_goto (tgt := 177) C dL_law_173 (by decide) ?_
      refine bh_iadd C dL_law_177 ?_
      refine bh_topi (Int32.add_zero _) ?_
      refine bh_istore_n (lv' := [(2, .int (nI (mq_fc M))), (3, .int 1), (8, .int (-3)), (7, .int x7), (6, .int v), (5, .int (nI i)), (4, .int (nI t)), (1, .ref (ad 0)), (0, .ref b)]) C dL_law_178 rfl (by decide) rfl ?_
      refine bh_goto (tgt := 487) C dL_law_179 (by decide) ?_
      refine bh_lv (lv' := [(3, .int 1), (2, .int (nI (mq_fc M))), (5, .int (nI i)), (4, .int (nI t)), (1, .ref (ad 0)), (0, .ref b)]) [1, 0, 5, 6, 7, 8] rfl ?_
      refine bh_eqlv (lv' := [(3, .int 1), (2, .int (nI (mq_fc M))), (5, .int (nI i)), (4, .int (nI t)), (1, .ref (ad 0)), (0, .ref b)]) rfl ?_
      refine bh_widen (k := 14 + 2 * i + 2) (n := 6521 + 12 * i + 12) (by omega) (by omega) ?_
      exact kont _ (PX_mono hP (by omega) hK4 (by omega) hT)
  · skip
    refine bh_sipush (v := 150) C dL_law_114 (by decide) ?_
    refine bh_goto (tgt := 122) C dL_law_117 (by decide) ?_
    obtain ⟨j, hj, ej⟩ := low_at v (c := 150) (n := 150) rfl (by decide) (by decide)
    refine bh_calli_N (As := [.int v, .int 150]) C (ct_L_low l D cI cZ cL v 150 (by decide)) ⟨callB_of 2 C.1.2.2.2.2 ggL_law_L_low rfl rfl rfl (C.1.2.2.2.2 _ (by decide +kernel)) (C.1.2.2.2.2 _ (by decide +kernel)) (by decide +kernel) ⟨Nat.le_of_ble_eq_true rfl, Nat.le_of_ble_eq_true rfl⟩, C.1.2.2.2.2 _ (by decide +kernel)⟩ rfl rfl (Nat.le_of_ble_eq_true rfl) dL_law_122 ⟨by show _ ≤ 202; omega, by show _ ≤ 7993; omega⟩ (fun r_122 u_122 hp_122 => ?_)
    subst hp_122
    refine bh_topi ej ?_
    refine bh_iadd C dL_law_125 ?_
    refine bh_topi (show (1 : Int32) + nI j = nI (1 + j) from nI_add 1 j) ?_
    have hr := add_rng (j := j) (by omega)
    refine bh_calli_Z (As := [.ref (ad 0), .int (nI (1 + j))]) C hE (ct_L_addFlight l hl D cI cZ cL ad M (nI (1 + j)) hP.1 hr.1 hr.2) (vx_cwSW 2 C.1.2.2.2.2 gL_law_L_addFlight rfl rfl rfl (by decide +kernel) ⟨Nat.le_of_ble_eq_true rfl, Nat.le_of_ble_eq_true rfl⟩) rfl rfl (Nat.le_of_ble_eq_true rfl) dL_law_126 ⟨by show _ ≤ 202; omega, by show _ ≤ 7993; omega⟩ (fun r u hp => ?_)
    rcases hp with ⟨rfl, hco, rfl⟩ | ⟨rfl, h10, rfl⟩
    · have hP2 := PX_add hP hco
      refine bh_istore (lv' := [(8, .int (nI (mq_fc M))), (7, .int x7), (6, .int v), (5, .int (nI i)), (4, .int (nI t)), (3, .int 1), (2, .int (nI (mq_fc M))), (1, .ref (ad 0)), (0, .ref b)]) C dL_law_129 (by decide) rfl ?_
      refine bh_iload C dL_law_131 0 rfl ?_
      refine bh_bipush (v := (-3)) C dL_law_133 (by decide) ?_
      refine bh_icmp_ne (tgt := 152) C dL_law_135 (by decide) (fun c_135 => ?_) (fun c_135 => absurd c_135 (nI_nm3 (by omega)))
      refine bh_iload C dL_law_152 0 rfl ?_
      refine bh_iload_n C dL_law_154 rfl 6 rfl ?_
      refine bh_icmp_ne (tgt := 162) C dL_law_155 (by decide) (fun c_155 => absurd rfl c_155) (fun c_155 => ?_)
      refine bh_iconst (v := 1) C dL_law_158 (by decide) ?_
      refine bh_goto (tgt := 163) C dL_law_159 (by decide) ?_
      refine bh_istore_n (lv' := [(3, .int 1), (8, .int (nI (mq_fc M))), (7, .int x7), (6, .int v), (5, .int (nI i)), (4, .int (nI t)), (2, .int (nI (mq_fc M))), (1, .ref (ad 0)), (0, .ref b)]) C dL_law_163 rfl (by decide) rfl ?_
      refine bh_iload_n C dL_law_164 rfl 6 rfl ?_
      refine bh_iload C dL_law_165 1 rfl ?_
      refine bh_bipush (v := (-3)) C dL_law_167 (by decide) ?_
      refine bh_icmp_ne (tgt := 176) C dL_law_169 (by decide) (fun c_169 => ?_) (fun c_169 => absurd c_169 (nI_nm3 (by omega)))
      refine bh_iconst (v := 1) C dL_law_176 (by decide) ?_
      refine bh_iadd C dL_law_177 ?_
      refine bh_topi (nI_1 _) ?_
      refine bh_istore_n (lv' := [(2, .int (nI ((mq_fc M) + 1))), (3, .int 1), (8, .int (nI (mq_fc M))), (7, .int x7), (6, .int v), (5, .int (nI i)), (4, .int (nI t)), (1, .ref (ad 0)), (0, .ref b)]) C dL_law_178 rfl (by decide) rfl ?_
      refine bh_goto (tgt := 487) C dL_law_179 (by decide) ?_
      refine bh_lv (lv' := [(3, .int 1), (2, .int (nI ((mq_fc M) + 1))), (5, .int (nI i)), (4, .int (nI t)), (1, .ref (ad 0)), (0, .ref b)]) [1, 0, 5, 6, 7, 8] rfl ?_
      refine bh_eqlv (lv' := [(3, .int 1), (2, .int (nI (mq_fc (mo_add M (nI (1 + j)))))), (5, .int (nI i)), (4, .int (nI t)), (1, .ref (ad 0)), (0, .ref b)]) rfl ?_
      refine bh_widen (k := 14 + 2 * i + 2) (n := 6521 + 12 * i + 12) (by omega) (by omega) ?_
      exact kont _ (PX_mono hP2 (by omega) hK4 (by omega) hT)
    · have h10 : mq_fc M = 10 := by omega
      refine bh_istore (lv' := [(8, .int (-3)), (7, .int x7), (6, .int v), (5, .int (nI i)), (4, .int (nI t)), (3, .int 1), (2, .int (nI (mq_fc M))), (1, .ref (ad 0)), (0, .ref b)]) C dL_law_129 (by decide) rfl ?_
      refine bh_iload C dL_law_131 0 rfl ?_
      refine bh_bipush (v := (-3)) C dL_law_133 (by decide) ?_
      refine bh_icmp_ne (tgt := 152) C dL_law_135 (by decide) (fun c_135 => absurd c_135 (by decide)) (fun c_135 => ?_)
      refine bh_iload_n C dL_law_138 rfl 6 rfl ?_
      refine bh_bipush (v := 10) C dL_law_139 (by decide) ?_
      refine bh_icmp_ne (tgt := 148) C dL_law_141 (by decide) (fun c_141 => absurd (show nI (mq_fc M) = 10 by rw [h10]; rfl) c_141) (fun c_141 => ?_)
      refine bh_iconst (v := 1) C dL_law_144 (by decide) ?_
      refine bh_goto (tgt := 163) C dL_law_145 (by decide) ?_
      refine bh_istore_n (lv' := [(3, .int 1), (8, .int (-3)), (7, .int x7), (6, .int v), (5, .int (nI i)), (4, .int (nI t)), (2, .int (nI (mq_fc M))), (1, .ref (ad 0)), (0, .ref b)]) C dL_law_163 rfl (by decide) rfl ?_
      refine bh_iload_n C dL_law_164 rfl 6 rfl ?_
      refine bh_iload C dL_law_165 1 rfl ?_
      refine bh_bipush (v := (-3)) C dL_law_167 (by decide) ?_
      refine bh_icmp_ne (tgt := 176) C dL_law_169 (by decide) (fun c_169 => absurd c_169 (by decide)) (fun c_169 => ?_)
      refine bh_iconst (v := 0) C dL_law_172 (by decide) ?_
      refine bh_goto (tgt := 177) C dL_law_173 (by decide) ?_
      refine bh_iadd C dL_law_177 ?_
      refine bh_topi (Int32.add_zero _) ?_
      refine bh_istore_n (lv' := [(2, .int (nI (mq_fc M))), (3, .int 1), (8, .int (-3)), (7, .int x7), (6, .int v), (5, .int (nI i)), (4, .int (nI t)), (1, .ref (ad 0)), (0, .ref b)]) C dL_law_178 rfl (by decide) rfl ?_
      refine bh_goto (tgt := 487) C dL_law_179 (by decide) ?_
      refine bh_lv (lv' := [(3, .int 1), (2, .int (nI (mq_fc M))), (5, .int (nI i)), (4, .int (nI t)), (1, .ref (ad 0)), (0, .ref b)]) [1, 0, 5, 6, 7, 8] rfl ?_
      refine bh_eqlv (lv' := [(3, .int 1), (2, .int (nI (mq_fc M))), (5, .int (nI i)), (4, .int (nI t)), (1, .ref (ad 0)), (0, .ref b)]) rfl ?_
      refine bh_widen (k := 14 + 2 * i + 2) (n := 6521 + 12 * i + 12) (by omega) (by omega) ?_
      exact kont _ (PX_mono hP (by omega) hK4 (by omega) hT)
set_option maxRecDepth 100000 in
set_option maxHeartbeats 4000000 in
theorem law_come {p : Program} {e : Env} {s : State} {m : MethodId} {below : List Frame} {meth : Method} {c : Code} {l : Launch} (hl : l.stackTraces = false) {D : va_G} {cI cZ cL : ClassId} {A : Nat → Prop} {rt : Option FieldType} {b : Nat} {ad : Nat → Nat} {Q : State → Prop} (C : bh_C p s m #[.ref b] meth c cL_law 11 wsL_law RL D (wh_tys cI cZ cL) A rt) (hE : xe_E A s s.heap) {i t : Nat} (hi : i < 60) {M : MT} {x7 v : Int32} (hP : PX (4 * i) (200 * i) M)
    (kont : ∀ (M9 : MT), PX (4 * i + 4) (200 * i + 200) M9 → bh_W p l e room_1 s m #[.ref b] below meth c 11 D A (14 + 2 * i + 2) (6521 + 12 * i + 12) Q (wh_hall cI cZ ad M9) [(3, .int 1), (2, .int (nI (mq_fc M9))), (5, .int (nI i)), (4, .int (nI t)), (1, .ref (ad 0)), (0, .ref b)] 487 []) (hf0 : 0 < mq_fc M) :
    bh_W p l e room_1 s m #[.ref b] below meth c 11 D A (14 + 2 * i) (6521 + 12 * i) Q (wh_hall cI cZ ad M) [(7, .int x7), (6, .int v), (5, .int (nI i)), (4, .int (nI t)), (3, .int 1), (2, .int (nI (mq_fc M))), (1, .ref (ad 0)), (0, .ref b)] 189 [] := by
  have hK4 : 4 * i + 4 ≤ 2048 := by omega
  have hT : 200 * i + 200 ≤ 102400 := by omega
  have hbc := MI_bc hP.1; have hfc := MI_fc hP.1; have hsc := MI_sc hP.1; have hnow := MI_now2 hP.1
  refine bh_aload_n C dL_law_189 rfl 6 rfl ?_
  refine bh_calli_0 (As := []) C (ct_X0_bags l D cI cZ cL ad M) (cwV 0 C.1.2.2.2.2 gL_law_X0_bags rfl rfl rfl (by decide +kernel) ⟨Nat.le_of_ble_eq_true rfl, Nat.le_of_ble_eq_true rfl⟩) (ci := 0) rfl 0 rfl rfl rfl (Nat.le_of_ble_eq_true rfl) dL_law_190 ⟨by show _ ≤ 202; omega, by show _ ≤ 7993; omega⟩ (fun r_190 u_190 hp_190 => ?_)
  subst hp_190
  refine bh_istore (lv' := [(8, .int (nI (mq_bc M))), (7, .int x7), (6, .int v), (5, .int (nI i)), (4, .int (nI t)), (3, .int 1), (2, .int (nI (mq_fc M))), (1, .ref (ad 0)), (0, .ref b)]) C dL_law_193 (by decide) rfl ?_
  refine bh_aload_n C dL_law_195 rfl 7 rfl ?_
  refine bh_calli_0 (As := []) C (ct_X0_scans l D cI cZ cL ad M) (cwV 0 C.1.2.2.2.2 gL_law_X0_scans rfl rfl rfl (by decide +kernel) ⟨Nat.le_of_ble_eq_true rfl, Nat.le_of_ble_eq_true rfl⟩) (ci := 0) rfl 0 rfl rfl rfl (Nat.le_of_ble_eq_true rfl) dL_law_196 ⟨by show _ ≤ 202; omega, by show _ ≤ 7993; omega⟩ (fun r_196 u_196 hp_196 => ?_)
  subst hp_196
  refine bh_istore (lv' := [(9, .int (nI (mq_sc M))), (8, .int (nI (mq_bc M))), (7, .int x7), (6, .int v), (5, .int (nI i)), (4, .int (nI t)), (3, .int 1), (2, .int (nI (mq_fc M))), (1, .ref (ad 0)), (0, .ref b)]) C dL_law_199 (by decide) rfl ?_
  refine bh_aload_n C dL_law_201 rfl 8 rfl ?_
  refine bh_iload C dL_law_202 3 rfl ?_
  refine bh_iconst (v := 3) C dL_law_204 (by decide) ?_
  refine bh_ishr C dL_law_205 ?_
  refine bh_iload_n C dL_law_206 rfl 7 rfl ?_
  obtain ⟨f, hf, ef⟩ := lo_low_in (v >>> (3 &&& 31)) (n := mq_fc M) hf0 (by omega)
  refine bh_calli_N (As := [.int (v >>> (3 &&& 31)), .int (nI (mq_fc M))]) C (ct_L_low l D cI cZ cL (v >>> (3 &&& 31)) (nI (mq_fc M)) (lo_low_ne hf0 (by omega))) ⟨callB_of 2 C.1.2.2.2.2 ggL_law_L_low rfl rfl rfl (C.1.2.2.2.2 _ (by decide +kernel)) (C.1.2.2.2.2 _ (by decide +kernel)) (by decide +kernel) ⟨Nat.le_of_ble_eq_true rfl, Nat.le_of_ble_eq_true rfl⟩, C.1.2.2.2.2 _ (by decide +kernel)⟩ rfl rfl (Nat.le_of_ble_eq_true rfl) dL_law_207 ⟨by show _ ≤ 202; omega, by show _ ≤ 7993; omega⟩ (fun r_207 u_207 hp_207 => ?_)
  subst hp_207
  refine bh_topi ef ?_
  refine bh_iload C dL_law_210 3 rfl ?_
  refine bh_bipush (v := 7) C dL_law_212 (by decide) ?_
  refine bh_ishr C dL_law_214 ?_
  refine bh_bipush (v := 40) C dL_law_215 (by decide) ?_
  refine bh_calli_N (As := [.int (v >>> (7 &&& 31)), .int 40]) C (ct_L_low l D cI cZ cL (v >>> (7 &&& 31)) 40 (by decide)) ⟨callB_of 2 C.1.2.2.2.2 ggL_law_L_low rfl rfl rfl (C.1.2.2.2.2 _ (by decide +kernel)) (C.1.2.2.2.2 _ (by decide +kernel)) (by decide +kernel) ⟨Nat.le_of_ble_eq_true rfl, Nat.le_of_ble_eq_true rfl⟩, C.1.2.2.2.2 _ (by decide +kernel)⟩ rfl rfl (Nat.le_of_ble_eq_true rfl) dL_law_217 ⟨by show _ ≤ 202; omega, by show _ ≤ 7993; omega⟩ (fun r_217 u_217 hp_217 => ?_)
  subst hp_217
  refine bh_iload C dL_law_220 2 rfl ?_
  refine bh_iconst (v := 4) C dL_law_222 (by decide) ?_
  refine bh_icmp_ge (tgt := 230) C dL_law_223 (by decide) (fun c_223 => ?_) (fun c_223 => ?_)
  · skip
    refine bh_iconst (v := 0) C dL_law_230 (by decide) ?_
    have hvf : vp_in (nI f) (mq_fc M) := vp_in_nI hf (by omega)
    have hvr := low_in40 (v >>> (7 &&& 31))
    refine bh_calli_Z (As := [.ref (ad 0), .int (nI f), .int (lo_low (v >>> (7 &&& 31)) 40), .int 0]) C hE (ct_L_comes l hl D cI cZ cL ad M (nI f) (lo_low (v >>> (7 &&& 31)) 40) 0 hP.1 hK4 hvf hvr) (vx_cwSW 4 C.1.2.2.2.2 gL_law_L_comes rfl rfl rfl (by decide +kernel) ⟨Nat.le_of_ble_eq_true rfl, Nat.le_of_ble_eq_true rfl⟩) rfl rfl (Nat.le_of_ble_eq_true rfl) dL_law_231 ⟨by show _ ≤ 202; omega, by show _ ≤ 7993; omega⟩ (fun r u hp => ?_)
    rcases hp with ⟨rfl, hb48, q9, rfl, hg, hz0⟩ | ⟨rfl, rfl⟩
    · have hP2 := PX_come hP hvf hvr hb48 hg hK4
      have hbN : mq_bc M < mq_bc (mo_bring (mo_take M (nI f) (lo_low (v >>> (7 &&& 31)) 40)) (mq_bc M) q9) := Nat.lt_succ_self _
      have hplN : mq_pl (mo_bring (mo_take M (nI f) (lo_low (v >>> (7 &&& 31)) 40)) (mq_bc M) q9) (mq_bc M) = q9 := bh_upd_same _ _ _
      refine bh_istore (lv' := [(10, .int (nI (mq_bc M))), (9, .int (nI (mq_sc M))), (8, .int (nI (mq_bc M))), (7, .int x7), (6, .int v), (5, .int (nI i)), (4, .int (nI t)), (3, .int 1), (2, .int (nI (mq_fc M))), (1, .ref (ad 0)), (0, .ref b)]) C dL_law_234 (by decide) rfl ?_
      refine bh_iload C dL_law_236 0 rfl ?_
      refine bh_bipush (v := (-3)) C dL_law_238 (by decide) ?_
      refine bh_icmp_ne (tgt := 269) C dL_law_240 (by decide) (fun c_240 => ?_) (fun c_240 => absurd c_240 (nI_nm3 (by omega)))
      refine bh_iload C dL_law_269 0 rfl ?_
      refine bh_iload C dL_law_271 2 rfl ?_
      refine bh_icmp_ne (tgt := 313) C dL_law_273 (by decide) (fun c_273 => absurd rfl c_273) (fun c_273 => ?_)
      refine bh_aload_n C dL_law_276 rfl 9 rfl ?_
      refine bh_iload C dL_law_277 1 rfl ?_
      refine bh_iload C dL_law_279 2 rfl ?_
      refine bh_aload_n C dL_law_281 rfl 9 rfl ?_
      refine bh_iload C dL_law_282 2 rfl ?_
      refine bh_ycalli (As := [.int (nI (mq_bc M))]) C hE (ct_X0_placeOf l hl D cI cZ cL ad (mo_bring (mo_take M (nI f) (lo_low (v >>> (7 &&& 31)) 40)) (mq_bc M) q9) (nI (mq_bc M)) hP2.1) (cwV 1 C.1.2.2.2.2 gL_law_X0_placeOf rfl rfl rfl (by decide +kernel) ⟨Nat.le_of_ble_eq_true rfl, Nat.le_of_ble_eq_true rfl⟩) (ci := 0) rfl 0 rfl rfl rfl (Nat.le_of_ble_eq_true rfl) dL_law_284 ⟨by show _ ≤ 202; omega, by show _ ≤ 7993; omega⟩ (fun E h9 => no_px (co_in0 (vp_in_nI (n := (mq_bc M)) (N := mq_bc (mo_bring (mo_take M (nI f) (lo_low (v >>> (7 &&& 31)) 40)) (mq_bc M) q9)) hbN (MI_bcb hP2.1))) h9) (fun r_284 u_284 hp_284 => ?_)
      obtain ⟨-, rfl⟩ := hp_284
      refine bh_topi (congrArg (mq_pl (mo_bring (mo_take M (nI f) (lo_low (v >>> (7 &&& 31)) 40)) (mq_bc M) q9)) (nI_clamp (n := (mq_bc M)) (by omega))) ?_
      refine bh_topi hplN ?_
      refine bh_calli_X (As := [.ref (ad 0), .int (nI (mq_sc M)), .int (nI (mq_bc M)), .int q9]) C hE (ct_L_scanned l hl D cI cZ cL ad (mo_bring (mo_take M (nI f) (lo_low (v >>> (7 &&& 31)) 40)) (mq_bc M) q9) (mq_sc M) (mq_bc M) q9 hP2.1 (SC_bring (mo_take M (nI f) (lo_low (v >>> (7 &&& 31)) 40)) (mq_bc M) q9) hbN) ⟨callB_of 4 C.1.2.2.2.2 ggL_law_L_scanned rfl rfl rfl (C.1.2.2.2.2 _ (by decide +kernel)) (C.1.2.2.2.2 _ (by decide +kernel)) (by decide +kernel) ⟨Nat.le_of_ble_eq_true rfl, Nat.le_of_ble_eq_true rfl⟩, C.1.2.2.2.2 _ (by decide +kernel)⟩ rfl rfl (Nat.le_of_ble_eq_true rfl) dL_law_287 ⟨by show _ ≤ 202; omega, by show _ ≤ 7993; omega⟩ (fun _ h9 => h9) (fun r_287 u_287 hp_287 => ?_)
      subst hp_287
      refine bh_if_eq (tgt := 313) C dL_law_290 (by decide) (fun c_290 => absurd c_290 (by decide)) (fun c_290 => ?_)
      refine bh_iload C dL_law_293 3 rfl ?_
      refine bh_iconst (v := 4) C dL_law_295 (by decide) ?_
      refine bh_icmp_lt (tgt := 309) C dL_law_296 (by decide) (fun c_296 => absurd c_296 (Int32.not_lt.mpr c_223)) (fun c_296 => ?_)
      refine bh_aload_n C dL_law_299 rfl 9 rfl ?_
      refine bh_iload C dL_law_300 2 rfl ?_
      refine bh_ycalli (As := [.int (nI (mq_bc M))]) C hE (ct_X0_placeOf l hl D cI cZ cL ad (mo_bring (mo_take M (nI f) (lo_low (v >>> (7 &&& 31)) 40)) (mq_bc M) q9) (nI (mq_bc M)) hP2.1) (cwV 1 C.1.2.2.2.2 gL_law_X0_placeOf rfl rfl rfl (by decide +kernel) ⟨Nat.le_of_ble_eq_true rfl, Nat.le_of_ble_eq_true rfl⟩) (ci := 0) rfl 0 rfl rfl rfl (Nat.le_of_ble_eq_true rfl) dL_law_302 ⟨by show _ ≤ 202; omega, by show _ ≤ 7993; omega⟩ (fun E h9 => no_px (co_in0 (vp_in_nI (n := (mq_bc M)) (N := mq_bc (mo_bring (mo_take M (nI f) (lo_low (v >>> (7 &&& 31)) 40)) (mq_bc M) q9)) hbN (MI_bcb hP2.1))) h9) (fun r_302 u_302 hp_302 => ?_)
      obtain ⟨-, rfl⟩ := hp_302
      refine bh_topi (congrArg (mq_pl (mo_bring (mo_take M (nI f) (lo_low (v >>> (7 &&& 31)) 40)) (mq_bc M) q9)) (nI_clamp (n := (mq_bc M)) (by omega))) ?_
      refine bh_iconst (v := 1) C dL_law_305 (by decide) ?_
      refine bh_icmp_ne (tgt := 313) C dL_law_306 (by decide) (fun c_306 => absurd (hplN.trans (hz0 rfl)) c_306) (fun c_306 => ?_)
      refine bh_iconst (v := 1) C dL_law_309 (by decide) ?_
      refine bh_goto (tgt := 314) C dL_law_310 (by decide) ?_
      refine bh_istore_n (lv' := [(3, .int 1), (10, .int (nI (mq_bc M))), (9, .int (nI (mq_sc M))), (8, .int (nI (mq_bc M))), (7, .int x7), (6, .int v), (5, .int (nI i)), (4, .int (nI t)), (2, .int (nI (mq_fc M))), (1, .ref (ad 0)), (0, .ref b)]) C dL_law_314 rfl (by decide) rfl ?_
      refine bh_goto (tgt := 487) C dL_law_315 (by decide) ?_
      refine bh_lv (lv' := [(3, .int 1), (2, .int (nI (mq_fc M))), (5, .int (nI i)), (4, .int (nI t)), (1, .ref (ad 0)), (0, .ref b)]) [0, 8, 6, 7, 9, 10] rfl ?_
      refine bh_eqlv (lv' := [(3, .int 1), (2, .int (nI (mq_fc (mo_bring (mo_take M (nI f) (lo_low (v >>> (7 &&& 31)) 40)) (mq_bc M) q9)))), (5, .int (nI i)), (4, .int (nI t)), (1, .ref (ad 0)), (0, .ref b)]) rfl ?_
      refine bh_widen (k := 14 + 2 * i + 2) (n := 6521 + 12 * i + 12) (by omega) (by omega) ?_
      exact kont _ (PX_mono hP2 (by omega) hK4 (by omega) hT)
    · skip
      refine bh_istore (lv' := [(10, .int (-3)), (9, .int (nI (mq_sc M))), (8, .int (nI (mq_bc M))), (7, .int x7), (6, .int v), (5, .int (nI i)), (4, .int (nI t)), (3, .int 1), (2, .int (nI (mq_fc M))), (1, .ref (ad 0)), (0, .ref b)]) C dL_law_234 (by decide) rfl ?_
      refine bh_iload C dL_law_236 0 rfl ?_
      refine bh_bipush (v := (-3)) C dL_law_238 (by decide) ?_
      refine bh_icmp_ne (tgt := 269) C dL_law_240 (by decide) (fun c_240 => absurd c_240 (by decide)) (fun c_240 => ?_)
      refine bh_aload_n C dL_law_243 rfl 9 rfl ?_
      refine bh_calli_0 (As := []) C (ct_X0_bags l D cI cZ cL ad M) (cwV 0 C.1.2.2.2.2 gL_law_X0_bags rfl rfl rfl (by decide +kernel) ⟨Nat.le_of_ble_eq_true rfl, Nat.le_of_ble_eq_true rfl⟩) (ci := 0) rfl 0 rfl rfl rfl (Nat.le_of_ble_eq_true rfl) dL_law_244 ⟨by show _ ≤ 202; omega, by show _ ≤ 7993; omega⟩ (fun r_244 u_244 hp_244 => ?_)
      subst hp_244
      refine bh_iload C dL_law_247 2 rfl ?_
      refine bh_icmp_ne (tgt := 265) C dL_law_249 (by decide) (fun c_249 => absurd rfl c_249) (fun c_249 => ?_)
      refine bh_aload_n C dL_law_252 rfl 9 rfl ?_
      refine bh_calli_0 (As := []) C (ct_X0_scans l D cI cZ cL ad M) (cwV 0 C.1.2.2.2.2 gL_law_X0_scans rfl rfl rfl (by decide +kernel) ⟨Nat.le_of_ble_eq_true rfl, Nat.le_of_ble_eq_true rfl⟩) (ci := 0) rfl 0 rfl rfl rfl (Nat.le_of_ble_eq_true rfl) dL_law_253 ⟨by show _ ≤ 202; omega, by show _ ≤ 7993; omega⟩ (fun r_253 u_253 hp_253 => ?_)
      subst hp_253
      refine bh_iload C dL_law_256 1 rfl ?_
      refine bh_icmp_ne (tgt := 265) C dL_law_258 (by decide) (fun c_258 => absurd rfl c_258) (fun c_258 => ?_)
      refine bh_iconst (v := 1) C dL_law_261 (by decide) ?_
      refine bh_goto (tgt := 314) C dL_law_262 (by decide) ?_
      refine bh_istore_n (lv' := [(3, .int 1), (10, .int (-3)), (9, .int (nI (mq_sc M))), (8, .int (nI (mq_bc M))), (7, .int x7), (6, .int v), (5, .int (nI i)), (4, .int (nI t)), (2, .int (nI (mq_fc M))), (1, .ref (ad 0)), (0, .ref b)]) C dL_law_314 rfl (by decide) rfl ?_
      refine bh_goto (tgt := 487) C dL_law_315 (by decide) ?_
      refine bh_lv (lv' := [(3, .int 1), (2, .int (nI (mq_fc M))), (5, .int (nI i)), (4, .int (nI t)), (1, .ref (ad 0)), (0, .ref b)]) [0, 8, 6, 7, 9, 10] rfl ?_
      refine bh_eqlv (lv' := [(3, .int 1), (2, .int (nI (mq_fc M))), (5, .int (nI i)), (4, .int (nI t)), (1, .ref (ad 0)), (0, .ref b)]) rfl ?_
      refine bh_widen (k := 14 + 2 * i + 2) (n := 6521 + 12 * i + 12) (by omega) (by omega) ?_
      exact kont _ (PX_mono hP (by omega) hK4 (by omega) hT)
  · skip
    refine bh_iconst (v := 1) C dL_law_226 (by decide) ?_
    refine bh_goto (tgt := 231) C dL_law_227 (by decide) ?_
    have hvf : vp_in (nI f) (mq_fc M) := vp_in_nI hf (by omega)
    have hvr := low_in40 (v >>> (7 &&& 31))
    refine bh_calli_Z (As := [.ref (ad 0), .int (nI f), .int (lo_low (v >>> (7 &&& 31)) 40), .int 1]) C hE (ct_L_comes l hl D cI cZ cL ad M (nI f) (lo_low (v >>> (7 &&& 31)) 40) 1 hP.1 hK4 hvf hvr) (vx_cwSW 4 C.1.2.2.2.2 gL_law_L_comes rfl rfl rfl (by decide +kernel) ⟨Nat.le_of_ble_eq_true rfl, Nat.le_of_ble_eq_true rfl⟩) rfl rfl (Nat.le_of_ble_eq_true rfl) dL_law_231 ⟨by show _ ≤ 202; omega, by show _ ≤ 7993; omega⟩ (fun r u hp => ?_)
    rcases hp with ⟨rfl, hb48, q9, rfl, hg, hz0⟩ | ⟨rfl, rfl⟩
    · have hP2 := PX_come hP hvf hvr hb48 hg hK4
      have hbN : mq_bc M < mq_bc (mo_bring (mo_take M (nI f) (lo_low (v >>> (7 &&& 31)) 40)) (mq_bc M) q9) := Nat.lt_succ_self _
      have hplN : mq_pl (mo_bring (mo_take M (nI f) (lo_low (v >>> (7 &&& 31)) 40)) (mq_bc M) q9) (mq_bc M) = q9 := bh_upd_same _ _ _
      refine bh_istore (lv' := [(10, .int (nI (mq_bc M))), (9, .int (nI (mq_sc M))), (8, .int (nI (mq_bc M))), (7, .int x7), (6, .int v), (5, .int (nI i)), (4, .int (nI t)), (3, .int 1), (2, .int (nI (mq_fc M))), (1, .ref (ad 0)), (0, .ref b)]) C dL_law_234 (by decide) rfl ?_
      refine bh_iload C dL_law_236 0 rfl ?_
      refine bh_bipush (v := (-3)) C dL_law_238 (by decide) ?_
      refine bh_icmp_ne (tgt := 269) C dL_law_240 (by decide) (fun c_240 => ?_) (fun c_240 => absurd c_240 (nI_nm3 (by omega)))
      refine bh_iload C dL_law_269 0 rfl ?_
      refine bh_iload C dL_law_271 2 rfl ?_
      refine bh_icmp_ne (tgt := 313) C dL_law_273 (by decide) (fun c_273 => absurd rfl c_273) (fun c_273 => ?_)
      refine bh_aload_n C dL_law_276 rfl 9 rfl ?_
      refine bh_iload C dL_law_277 1 rfl ?_
      refine bh_iload C dL_law_279 2 rfl ?_
      refine bh_aload_n C dL_law_281 rfl 9 rfl ?_
      refine bh_iload C dL_law_282 2 rfl ?_
      refine bh_ycalli (As := [.int (nI (mq_bc M))]) C hE (ct_X0_placeOf l hl D cI cZ cL ad (mo_bring (mo_take M (nI f) (lo_low (v >>> (7 &&& 31)) 40)) (mq_bc M) q9) (nI (mq_bc M)) hP2.1) (cwV 1 C.1.2.2.2.2 gL_law_X0_placeOf rfl rfl rfl (by decide +kernel) ⟨Nat.le_of_ble_eq_true rfl, Nat.le_of_ble_eq_true rfl⟩) (ci := 0) rfl 0 rfl rfl rfl (Nat.le_of_ble_eq_true rfl) dL_law_284 ⟨by show _ ≤ 202; omega, by show _ ≤ 7993; omega⟩ (fun E h9 => no_px (co_in0 (vp_in_nI (n := (mq_bc M)) (N := mq_bc (mo_bring (mo_take M (nI f) (lo_low (v >>> (7 &&& 31)) 40)) (mq_bc M) q9)) hbN (MI_bcb hP2.1))) h9) (fun r_284 u_284 hp_284 => ?_)
      obtain ⟨-, rfl⟩ := hp_284
      refine bh_topi (congrArg (mq_pl (mo_bring (mo_take M (nI f) (lo_low (v >>> (7 &&& 31)) 40)) (mq_bc M) q9)) (nI_clamp (n := (mq_bc M)) (by omega))) ?_
      refine bh_topi hplN ?_
      refine bh_calli_X (As := [.ref (ad 0), .int (nI (mq_sc M)), .int (nI (mq_bc M)), .int q9]) C hE (ct_L_scanned l hl D cI cZ cL ad (mo_bring (mo_take M (nI f) (lo_low (v >>> (7 &&& 31)) 40)) (mq_bc M) q9) (mq_sc M) (mq_bc M) q9 hP2.1 (SC_bring (mo_take M (nI f) (lo_low (v >>> (7 &&& 31)) 40)) (mq_bc M) q9) hbN) ⟨callB_of 4 C.1.2.2.2.2 ggL_law_L_scanned rfl rfl rfl (C.1.2.2.2.2 _ (by decide +kernel)) (C.1.2.2.2.2 _ (by decide +kernel)) (by decide +kernel) ⟨Nat.le_of_ble_eq_true rfl, Nat.le_of_ble_eq_true rfl⟩, C.1.2.2.2.2 _ (by decide +kernel)⟩ rfl rfl (Nat.le_of_ble_eq_true rfl) dL_law_287 ⟨by show _ ≤ 202; omega, by show _ ≤ 7993; omega⟩ (fun _ h9 => h9) (fun r_287 u_287 hp_287 => ?_)
      subst hp_287
      refine bh_if_eq (tgt := 313) C dL_law_290 (by decide) (fun c_290 => absurd c_290 (by decide)) (fun c_290 => ?_)
      refine bh_iload C dL_law_293 3 rfl ?_
      refine bh_iconst (v := 4) C dL_law_295 (by decide) ?_
      refine bh_icmp_lt (tgt := 309) C dL_law_296 (by decide) (fun c_296 => ?_) (fun c_296 => absurd (Int32.not_le.mp c_223) c_296)
      refine bh_iconst (v := 1) C dL_law_309 (by decide) ?_
      refine bh_goto (tgt := 314) C dL_law_310 (by decide) ?_
      refine bh_istore_n (lv' := [(3, .int 1), (10, .int (nI (mq_bc M))), (9, .int (nI (mq_sc M))), (8, .int (nI (mq_bc M))), (7, .int x7), (6, .int v), (5, .int (nI i)), (4, .int (nI t)), (2, .int (nI (mq_fc M))), (1, .ref (ad 0)), (0, .ref b)]) C dL_law_314 rfl (by decide) rfl ?_
      refine bh_goto (tgt := 487) C dL_law_315 (by decide) ?_
      refine bh_lv (lv' := [(3, .int 1), (2, .int (nI (mq_fc M))), (5, .int (nI i)), (4, .int (nI t)), (1, .ref (ad 0)), (0, .ref b)]) [0, 8, 6, 7, 9, 10] rfl ?_
      refine bh_eqlv (lv' := [(3, .int 1), (2, .int (nI (mq_fc (mo_bring (mo_take M (nI f) (lo_low (v >>> (7 &&& 31)) 40)) (mq_bc M) q9)))), (5, .int (nI i)), (4, .int (nI t)), (1, .ref (ad 0)), (0, .ref b)]) rfl ?_
      refine bh_widen (k := 14 + 2 * i + 2) (n := 6521 + 12 * i + 12) (by omega) (by omega) ?_
      exact kont _ (PX_mono hP2 (by omega) hK4 (by omega) hT)
    · skip
      refine bh_istore (lv' := [(10, .int (-3)), (9, .int (nI (mq_sc M))), (8, .int (nI (mq_bc M))), (7, .int x7), (6, .int v), (5, .int (nI i)), (4, .int (nI t)), (3, .int 1), (2, .int (nI (mq_fc M))), (1, .ref (ad 0)), (0, .ref b)]) C dL_law_234 (by decide) rfl ?_
      refine bh_iload C dL_law_236 0 rfl ?_
      refine bh_bipush (v := (-3)) C dL_law_238 (by decide) ?_
      refine bh_icmp_ne (tgt := 269) C dL_law_240 (by decide) (fun c_240 => absurd c_240 (by decide)) (fun c_240 => ?_)
      refine bh_aload_n C dL_law_243 rfl 9 rfl ?_
      refine bh_calli_0 (As := []) C (ct_X0_bags l D cI cZ cL ad M) (cwV 0 C.1.2.2.2.2 gL_law_X0_bags rfl rfl rfl (by decide +kernel) ⟨Nat.le_of_ble_eq_true rfl, Nat.le_of_ble_eq_true rfl⟩) (ci := 0) rfl 0 rfl rfl rfl (Nat.le_of_ble_eq_true rfl) dL_law_244 ⟨by show _ ≤ 202; omega, by show _ ≤ 7993; omega⟩ (fun r_244 u_244 hp_244 => ?_)
      subst hp_244
      refine bh_iload C dL_law_247 2 rfl ?_
      refine bh_icmp_ne (tgt := 265) C dL_law_249 (by decide) (fun c_249 => absurd rfl c_249) (fun c_249 => ?_)
      refine bh_aload_n C dL_law_252 rfl 9 rfl ?_
      refine bh_calli_0 (As := []) C (ct_X0_scans l D cI cZ cL ad M) (cwV 0 C.1.2.2.2.2 gL_law_X0_scans rfl rfl rfl (by decide +kernel) ⟨Nat.le_of_ble_eq_true rfl, Nat.le_of_ble_eq_true rfl⟩) (ci := 0) rfl 0 rfl rfl rfl (Nat.le_of_ble_eq_true rfl) dL_law_253 ⟨by show _ ≤ 202; omega, by show _ ≤ 7993; omega⟩ (fun r_253 u_253 hp_253 => ?_)
      subst hp_253
      refine bh_iload C dL_law_256 1 rfl ?_
      refine bh_icmp_ne (tgt := 265) C dL_law_258 (by decide) (fun c_258 => absurd rfl c_258) (fun c_258 => ?_)
      refine bh_iconst (v := 1) C dL_law_261 (by decide) ?_
      refine bh_goto (tgt := 314) C dL_law_262 (by decide) ?_
      refine bh_istore_n (lv' := [(3, .int 1), (10, .int (-3)), (9, .int (nI (mq_sc M))), (8, .int (nI (mq_bc M))), (7, .int x7), (6, .int v), (5, .int (nI i)), (4, .int (nI t)), (2, .int (nI (mq_fc M))), (1, .ref (ad 0)), (0, .ref b)]) C dL_law_314 rfl (by decide) rfl ?_
      refine bh_goto (tgt := 487) C dL_law_315 (by decide) ?_
      refine bh_lv (lv' := [(3, .int 1), (2, .int (nI (mq_fc M))), (5, .int (nI i)), (4, .int (nI t)), (1, .ref (ad 0)), (0, .ref b)]) [0, 8, 6, 7, 9, 10] rfl ?_
      refine bh_eqlv (lv' := [(3, .int 1), (2, .int (nI (mq_fc M))), (5, .int (nI i)), (4, .int (nI t)), (1, .ref (ad 0)), (0, .ref b)]) rfl ?_
      refine bh_widen (k := 14 + 2 * i + 2) (n := 6521 + 12 * i + 12) (by omega) (by omega) ?_
      exact kont _ (PX_mono hP (by omega) hK4 (by omega) hT)
set_option maxRecDepth 100000 in
set_option maxHeartbeats 4000000 in
theorem law_work {p : Program} {e : Env} {s : State} {m : MethodId} {below : List Frame} {meth : Method} {c : Code} {l : Launch} (hl : l.stackTraces = false) {D : va_G} {cI cZ cL : ClassId} {A : Nat → Prop} {rt : Option FieldType} {b : Nat} {ad : Nat → Nat} {Q : State → Prop} (C : bh_C p s m #[.ref b] meth c cL_law 11 wsL_law RL D (wh_tys cI cZ cL) A rt) (hE : xe_E A s s.heap) {i t : Nat} (hi : i < 60) {M : MT} {x7 v : Int32} (hP : PX (4 * i) (200 * i) M)
    (kont : ∀ (M9 : MT), PX (4 * i + 4) (200 * i + 200) M9 → bh_W p l e room_1 s m #[.ref b] below meth c 11 D A (14 + 2 * i + 2) (6521 + 12 * i + 12) Q (wh_hall cI cZ ad M9) [(3, .int 1), (2, .int (nI (mq_fc M9))), (5, .int (nI i)), (4, .int (nI t)), (1, .ref (ad 0)), (0, .ref b)] 487 []) (hf0 : 0 < mq_fc M) (hb0 : 0 < mq_bc M) :
    bh_W p l e room_1 s m #[.ref b] below meth c 11 D A (14 + 2 * i) (6521 + 12 * i) Q (wh_hall cI cZ ad M) [(7, .int x7), (6, .int v), (5, .int (nI i)), (4, .int (nI t)), (3, .int 1), (2, .int (nI (mq_fc M))), (1, .ref (ad 0)), (0, .ref b)] 332 [] := by
  have hK4 : 4 * i + 4 ≤ 2048 := by omega
  have hT : 200 * i + 200 ≤ 102400 := by omega
  have hbc := MI_bc hP.1; have hfc := MI_fc hP.1; have hsc := MI_sc hP.1; have hnow := MI_now2 hP.1
  refine bh_aload_n C dL_law_332 rfl 6 rfl ?_
  refine bh_iload C dL_law_333 1 rfl ?_
  refine bh_iload_n C dL_law_335 rfl 5 rfl ?_
  refine bh_calli_Y (As := [.ref (ad 0), .int v, .int (nI (mq_fc M))]) C hE (ct_L_works l hl D cI cZ cL ad M v hP hK4 hb0 hf0) ⟨callB_of 3 C.1.2.2.2.2 ggL_law_L_works rfl rfl rfl (C.1.2.2.2.2 _ (by decide +kernel)) (C.1.2.2.2.2 _ (by decide +kernel)) (by decide +kernel) ⟨Nat.le_of_ble_eq_true rfl, Nat.le_of_ble_eq_true rfl⟩, C.1.2.2.2.2 _ (by decide +kernel)⟩ rfl rfl (Nat.le_of_ble_eq_true rfl) dL_law_336 ⟨by show _ ≤ 202; omega, by show _ ≤ 7993; omega⟩ (fun r u hp => ?_)
  obtain ⟨rfl, hW⟩ := hp
  refine bh_istore_n (lv' := [(3, .int 1), (7, .int x7), (6, .int v), (5, .int (nI i)), (4, .int (nI t)), (2, .int (nI (mq_fc M))), (1, .ref (ad 0)), (0, .ref b)]) C dL_law_339 rfl (by decide) rfl ?_
  refine bh_goto (tgt := 487) C dL_law_340 (by decide) ?_
  refine bh_lv (lv' := [(3, .int 1), (2, .int (nI (mq_fc M))), (5, .int (nI i)), (4, .int (nI t)), (1, .ref (ad 0)), (0, .ref b)]) [0, 5, 3, 4, 6, 7] rfl ?_
  refine bh_eqlv (lv' := [(3, .int 1), (2, .int (nI (mq_fc u))), (5, .int (nI i)), (4, .int (nI t)), (1, .ref (ad 0)), (0, .ref b)]) (by rw [hW.2.2.1]) ?_
  refine bh_widen (k := 14 + 2 * i + 2) (n := 6521 + 12 * i + 12) (by omega) (by omega) ?_
  exact kont _ (PX_mono hW.1 (by omega) hK4 (by omega) hT)
set_option maxRecDepth 100000 in
set_option maxHeartbeats 4000000 in
theorem law_board {p : Program} {e : Env} {s : State} {m : MethodId} {below : List Frame} {meth : Method} {c : Code} {l : Launch} (hl : l.stackTraces = false) {D : va_G} {cI cZ cL : ClassId} {A : Nat → Prop} {rt : Option FieldType} {b : Nat} {ad : Nat → Nat} {Q : State → Prop} (C : bh_C p s m #[.ref b] meth c cL_law 11 wsL_law RL D (wh_tys cI cZ cL) A rt) (hE : xe_E A s s.heap) {i t : Nat} (hi : i < 60) {M : MT} {x7 v : Int32} (hP : PX (4 * i) (200 * i) M)
    (kont : ∀ (M9 : MT), PX (4 * i + 4) (200 * i + 200) M9 → bh_W p l e room_1 s m #[.ref b] below meth c 11 D A (14 + 2 * i + 2) (6521 + 12 * i + 12) Q (wh_hall cI cZ ad M9) [(3, .int 1), (2, .int (nI (mq_fc M9))), (5, .int (nI i)), (4, .int (nI t)), (1, .ref (ad 0)), (0, .ref b)] 487 [])  :
    bh_W p l e room_1 s m #[.ref b] below meth c 11 D A (14 + 2 * i) (6521 + 12 * i) Q (wh_hall cI cZ ad M) [(7, .int x7), (6, .int v), (5, .int (nI i)), (4, .int (nI t)), (3, .int 1), (2, .int (nI (mq_fc M))), (1, .ref (ad 0)), (0, .ref b)] 350 [] := by
  have hK4 : 4 * i + 4 ≤ 2048 := by omega
  have hT : 200 * i + 200 ≤ 102400 := by omega
  have hbc := MI_bc hP.1; have hfc := MI_fc hP.1; have hsc := MI_sc hP.1; have hnow := MI_now2 hP.1
  refine bh_iload C dL_law_350 1 rfl ?_
  refine bh_iconst (v := 2) C dL_law_352 (by decide) ?_
  refine bh_calli_N (As := [.int v, .int 2]) C (ct_L_low l D cI cZ cL v 2 (by decide)) ⟨callB_of 2 C.1.2.2.2.2 ggL_law_L_low rfl rfl rfl (C.1.2.2.2.2 _ (by decide +kernel)) (C.1.2.2.2.2 _ (by decide +kernel)) (by decide +kernel) ⟨Nat.le_of_ble_eq_true rfl, Nat.le_of_ble_eq_true rfl⟩, C.1.2.2.2.2 _ (by decide +kernel)⟩ rfl rfl (Nat.le_of_ble_eq_true rfl) dL_law_353 ⟨by show _ ≤ 202; omega, by show _ ≤ 7993; omega⟩ (fun r_353 u_353 hp_353 => ?_)
  subst hp_353
  refine bh_if_ne (tgt := 363) C dL_law_356 (by decide) (fun c_356 => ?_) (fun c_356 => ?_)
  · skip
    refine bh_iconst (v := 0) C dL_law_363 (by decide) ?_
    refine bh_istore (lv' := [(8, .int 0), (7, .int x7), (6, .int v), (5, .int (nI i)), (4, .int (nI t)), (3, .int 1), (2, .int (nI (mq_fc M))), (1, .ref (ad 0)), (0, .ref b)]) C dL_law_364 (by decide) rfl ?_
    refine bh_aload_n C dL_law_366 rfl 7 rfl ?_
    refine bh_iload C dL_law_367 2 rfl ?_
    refine bh_bipush (v := 7) C dL_law_369 (by decide) ?_
    refine bh_ishr C dL_law_371 ?_
    refine bh_bipush (v := 40) C dL_law_372 (by decide) ?_
    refine bh_calli_N (As := [.int (v >>> (7 &&& 31)), .int 40]) C (ct_L_low l D cI cZ cL (v >>> (7 &&& 31)) 40 (by decide)) ⟨callB_of 2 C.1.2.2.2.2 ggL_law_L_low rfl rfl rfl (C.1.2.2.2.2 _ (by decide +kernel)) (C.1.2.2.2.2 _ (by decide +kernel)) (by decide +kernel) ⟨Nat.le_of_ble_eq_true rfl, Nat.le_of_ble_eq_true rfl⟩, C.1.2.2.2.2 _ (by decide +kernel)⟩ rfl rfl (Nat.le_of_ble_eq_true rfl) dL_law_374 ⟨by show _ ≤ 202; omega, by show _ ≤ 7993; omega⟩ (fun r_374 u_374 hp_374 => ?_)
    subst hp_374
    refine bh_iload C dL_law_377 0 rfl ?_
    have hv9 := low_in40 (v >>> (7 &&& 31))
    refine bh_ycalli (As := [.int (lo_low (v >>> (7 &&& 31)) 40), .int 0]) C hE (ct_X0_board l hl D cI cZ cL ad M (lo_low (v >>> (7 &&& 31)) 40) 0 hP.1 (Or.inl rfl)) (cwV 2 C.1.2.2.2.2 gL_law_X0_board rfl rfl rfl (by decide +kernel) ⟨Nat.le_of_ble_eq_true rfl, Nat.le_of_ble_eq_true rfl⟩) (ci := 0) rfl 0 rfl rfl rfl (Nat.le_of_ble_eq_true rfl) dL_law_379 ⟨by show _ ≤ 202; omega, by show _ ≤ 7993; omega⟩ (fun E h9 => no_px (co_in0 hv9) h9) (fun r_379 u_379 hp_379 => ?_)
    have hP2 := PX_board (x := (lo_low (v >>> (7 &&& 31)) 40)) (z := 0) hP (Or.inl rfl)
    refine bh_pop C dL_law_382 rfl ?_
    refine bh_aload_n C dL_law_383 rfl 7 rfl ?_
    refine bh_iload C dL_law_384 2 rfl ?_
    refine bh_bipush (v := 7) C dL_law_386 (by decide) ?_
    refine bh_ishr C dL_law_388 ?_
    refine bh_bipush (v := 40) C dL_law_389 (by decide) ?_
    refine bh_calli_N (As := [.int (v >>> (7 &&& 31)), .int 40]) C (ct_L_low l D cI cZ cL (v >>> (7 &&& 31)) 40 (by decide)) ⟨callB_of 2 C.1.2.2.2.2 ggL_law_L_low rfl rfl rfl (C.1.2.2.2.2 _ (by decide +kernel)) (C.1.2.2.2.2 _ (by decide +kernel)) (by decide +kernel) ⟨Nat.le_of_ble_eq_true rfl, Nat.le_of_ble_eq_true rfl⟩, C.1.2.2.2.2 _ (by decide +kernel)⟩ rfl rfl (Nat.le_of_ble_eq_true rfl) dL_law_391 ⟨by show _ ≤ 202; omega, by show _ ≤ 7993; omega⟩ (fun r_391 u_391 hp_391 => ?_)
    subst hp_391
    refine bh_iload C dL_law_394 0 rfl ?_
    refine bh_ycalli (As := [.int (lo_low (v >>> (7 &&& 31)) 40), .int 0]) C hE (ct_X0_board l hl D cI cZ cL ad (mo_board M (lo_low (v >>> (7 &&& 31)) 40) 0) (lo_low (v >>> (7 &&& 31)) 40) 0 hP2.1 (Or.inl rfl)) (cwV 2 C.1.2.2.2.2 gL_law_X0_board rfl rfl rfl (by decide +kernel) ⟨Nat.le_of_ble_eq_true rfl, Nat.le_of_ble_eq_true rfl⟩) (ci := 0) rfl 0 rfl rfl rfl (Nat.le_of_ble_eq_true rfl) dL_law_396 ⟨by show _ ≤ 202; omega, by show _ ≤ 7993; omega⟩ (fun E h9 => no_px (co_in0 hv9) h9) (fun r_396 u_396 hp_396 => ?_)
    have hP3 := PX_board (x := (lo_low (v >>> (7 &&& 31)) 40)) (z := 0) hP2 (Or.inl rfl)
    have hr9 : r_396 = 0 := hp_396.2.trans (bh_upd_same _ _ _)
    subst hr9
    refine bh_iload C dL_law_399 0 rfl ?_
    refine bh_icmp_ne (tgt := 408) C dL_law_401 (by decide) (fun c_401 => absurd c_401 (by decide)) (fun c_401 => ?_)
    refine bh_iconst (v := 1) C dL_law_404 (by decide) ?_
    refine bh_goto (tgt := 409) C dL_law_405 (by decide) ?_
    refine bh_istore_n (lv' := [(3, .int 1), (8, .int 0), (7, .int x7), (6, .int v), (5, .int (nI i)), (4, .int (nI t)), (2, .int (nI (mq_fc M))), (1, .ref (ad 0)), (0, .ref b)]) C dL_law_409 rfl (by decide) rfl ?_
    refine bh_goto (tgt := 487) C dL_law_410 (by decide) ?_
    refine bh_lv (lv' := [(3, .int 1), (2, .int (nI (mq_fc M))), (5, .int (nI i)), (4, .int (nI t)), (1, .ref (ad 0)), (0, .ref b)]) [0, 6, 4, 5, 7, 8] rfl ?_
    refine bh_eqlv (lv' := [(3, .int 1), (2, .int (nI (mq_fc (mo_board (mo_board M (lo_low (v >>> (7 &&& 31)) 40) 0) (lo_low (v >>> (7 &&& 31)) 40) 0)))), (5, .int (nI i)), (4, .int (nI t)), (1, .ref (ad 0)), (0, .ref b)]) rfl ?_
    refine bh_widen (k := 14 + 2 * i + 2) (n := 6521 + 12 * i + 12) (by omega) (by omega) ?_
    exact kont _ (PX_mono hP3 (by omega) hK4 (by omega) hT)
  · skip
    refine bh_iconst (v := 1) C dL_law_359 (by decide) ?_
    refine bh_goto (tgt := 364) C dL_law_360 (by decide) ?_
    refine bh_istore (lv' := [(8, .int 1), (7, .int x7), (6, .int v), (5, .int (nI i)), (4, .int (nI t)), (3, .int 1), (2, .int (nI (mq_fc M))), (1, .ref (ad 0)), (0, .ref b)]) C dL_law_364 (by decide) rfl ?_
    refine bh_aload_n C dL_law_366 rfl 7 rfl ?_
    refine bh_iload C dL_law_367 2 rfl ?_
    refine bh_bipush (v := 7) C dL_law_369 (by decide) ?_
    refine bh_ishr C dL_law_371 ?_
    refine bh_bipush (v := 40) C dL_law_372 (by decide) ?_
    refine bh_calli_N (As := [.int (v >>> (7 &&& 31)), .int 40]) C (ct_L_low l D cI cZ cL (v >>> (7 &&& 31)) 40 (by decide)) ⟨callB_of 2 C.1.2.2.2.2 ggL_law_L_low rfl rfl rfl (C.1.2.2.2.2 _ (by decide +kernel)) (C.1.2.2.2.2 _ (by decide +kernel)) (by decide +kernel) ⟨Nat.le_of_ble_eq_true rfl, Nat.le_of_ble_eq_true rfl⟩, C.1.2.2.2.2 _ (by decide +kernel)⟩ rfl rfl (Nat.le_of_ble_eq_true rfl) dL_law_374 ⟨by show _ ≤ 202; omega, by show _ ≤ 7993; omega⟩ (fun r_374 u_374 hp_374 => ?_)
    subst hp_374
    refine bh_iload C dL_law_377 0 rfl ?_
    have hv9 := low_in40 (v >>> (7 &&& 31))
    refine bh_ycalli (As := [.int (lo_low (v >>> (7 &&& 31)) 40), .int 1]) C hE (ct_X0_board l hl D cI cZ cL ad M (lo_low (v >>> (7 &&& 31)) 40) 1 hP.1 (Or.inr rfl)) (cwV 2 C.1.2.2.2.2 gL_law_X0_board rfl rfl rfl (by decide +kernel) ⟨Nat.le_of_ble_eq_true rfl, Nat.le_of_ble_eq_true rfl⟩) (ci := 0) rfl 0 rfl rfl rfl (Nat.le_of_ble_eq_true rfl) dL_law_379 ⟨by show _ ≤ 202; omega, by show _ ≤ 7993; omega⟩ (fun E h9 => no_px (co_in0 hv9) h9) (fun r_379 u_379 hp_379 => ?_)
    have hP2 := PX_board (x := (lo_low (v >>> (7 &&& 31)) 40)) (z := 1) hP (Or.inr rfl)
    refine bh_pop C dL_law_382 rfl ?_
    refine bh_aload_n C dL_law_383 rfl 7 rfl ?_
    refine bh_iload C dL_law_384 2 rfl ?_
    refine bh_bipush (v := 7) C dL_law_386 (by decide) ?_
    refine bh_ishr C dL_law_388 ?_
    refine bh_bipush (v := 40) C dL_law_389 (by decide) ?_
    refine bh_calli_N (As := [.int (v >>> (7 &&& 31)), .int 40]) C (ct_L_low l D cI cZ cL (v >>> (7 &&& 31)) 40 (by decide)) ⟨callB_of 2 C.1.2.2.2.2 ggL_law_L_low rfl rfl rfl (C.1.2.2.2.2 _ (by decide +kernel)) (C.1.2.2.2.2 _ (by decide +kernel)) (by decide +kernel) ⟨Nat.le_of_ble_eq_true rfl, Nat.le_of_ble_eq_true rfl⟩, C.1.2.2.2.2 _ (by decide +kernel)⟩ rfl rfl (Nat.le_of_ble_eq_true rfl) dL_law_391 ⟨by show _ ≤ 202; omega, by show _ ≤ 7993; omega⟩ (fun r_391 u_391 hp_391 => ?_)
    subst hp_391
    refine bh_iload C dL_law_394 0 rfl ?_
    refine bh_ycalli (As := [.int (lo_low (v >>> (7 &&& 31)) 40), .int 1]) C hE (ct_X0_board l hl D cI cZ cL ad (mo_board M (lo_low (v >>> (7 &&& 31)) 40) 1) (lo_low (v >>> (7 &&& 31)) 40) 1 hP2.1 (Or.inr rfl)) (cwV 2 C.1.2.2.2.2 gL_law_X0_board rfl rfl rfl (by decide +kernel) ⟨Nat.le_of_ble_eq_true rfl, Nat.le_of_ble_eq_true rfl⟩) (ci := 0) rfl 0 rfl rfl rfl (Nat.le_of_ble_eq_true rfl) dL_law_396 ⟨by show _ ≤ 202; omega, by show _ ≤ 7993; omega⟩ (fun E h9 => no_px (co_in0 hv9) h9) (fun r_396 u_396 hp_396 => ?_)
    have hP3 := PX_board (x := (lo_low (v >>> (7 &&& 31)) 40)) (z := 1) hP2 (Or.inr rfl)
    have hr9 : r_396 = 1 := hp_396.2.trans (bh_upd_same _ _ _)
    subst hr9
    refine bh_iload C dL_law_399 0 rfl ?_
    refine bh_icmp_ne (tgt := 408) C dL_law_401 (by decide) (fun c_401 => absurd c_401 (by decide)) (fun c_401 => ?_)
    refine bh_iconst (v := 1) C dL_law_404 (by decide) ?_
    refine bh_goto (tgt := 409) C dL_law_405 (by decide) ?_
    refine bh_istore_n (lv' := [(3, .int 1), (8, .int 1), (7, .int x7), (6, .int v), (5, .int (nI i)), (4, .int (nI t)), (2, .int (nI (mq_fc M))), (1, .ref (ad 0)), (0, .ref b)]) C dL_law_409 rfl (by decide) rfl ?_
    refine bh_goto (tgt := 487) C dL_law_410 (by decide) ?_
    refine bh_lv (lv' := [(3, .int 1), (2, .int (nI (mq_fc M))), (5, .int (nI i)), (4, .int (nI t)), (1, .ref (ad 0)), (0, .ref b)]) [0, 6, 4, 5, 7, 8] rfl ?_
    refine bh_eqlv (lv' := [(3, .int 1), (2, .int (nI (mq_fc (mo_board (mo_board M (lo_low (v >>> (7 &&& 31)) 40) 1) (lo_low (v >>> (7 &&& 31)) 40) 1)))), (5, .int (nI i)), (4, .int (nI t)), (1, .ref (ad 0)), (0, .ref b)]) rfl ?_
    refine bh_widen (k := 14 + 2 * i + 2) (n := 6521 + 12 * i + 12) (by omega) (by omega) ?_
    exact kont _ (PX_mono hP3 (by omega) hK4 (by omega) hT)
set_option maxRecDepth 100000 in
set_option maxHeartbeats 4000000 in
theorem law_pass {p : Program} {e : Env} {s : State} {m : MethodId} {below : List Frame} {meth : Method} {c : Code} {l : Launch} (hl : l.stackTraces = false) {D : va_G} {cI cZ cL : ClassId} {A : Nat → Prop} {rt : Option FieldType} {b : Nat} {ad : Nat → Nat} {Q : State → Prop} (C : bh_C p s m #[.ref b] meth c cL_law 11 wsL_law RL D (wh_tys cI cZ cL) A rt) (hE : xe_E A s s.heap) {i t : Nat} (hi : i < 60) {M : MT} {x7 v : Int32} (hP : PX (4 * i) (200 * i) M)
    (kont : ∀ (M9 : MT), PX (4 * i + 4) (200 * i + 200) M9 → bh_W p l e room_1 s m #[.ref b] below meth c 11 D A (14 + 2 * i + 2) (6521 + 12 * i + 12) Q (wh_hall cI cZ ad M9) [(3, .int 1), (2, .int (nI (mq_fc M9))), (5, .int (nI i)), (4, .int (nI t)), (1, .ref (ad 0)), (0, .ref b)] 487 [])  :
    bh_W p l e room_1 s m #[.ref b] below meth c 11 D A (14 + 2 * i) (6521 + 12 * i) Q (wh_hall cI cZ ad M) [(7, .int x7), (6, .int v), (5, .int (nI i)), (4, .int (nI t)), (3, .int 1), (2, .int (nI (mq_fc M))), (1, .ref (ad 0)), (0, .ref b)] 413 [] := by
  have hK4 : 4 * i + 4 ≤ 2048 := by omega
  have hT : 200 * i + 200 ≤ 102400 := by omega
  have hbc := MI_bc hP.1; have hfc := MI_fc hP.1; have hsc := MI_sc hP.1; have hnow := MI_now2 hP.1
  refine bh_aload_n C dL_law_413 rfl 6 rfl ?_
  refine bh_calli_0 (As := []) C (ct_X0_time l D cI cZ cL ad M) (cwV 0 C.1.2.2.2.2 gL_law_X0_time rfl rfl rfl (by decide +kernel) ⟨Nat.le_of_ble_eq_true rfl, Nat.le_of_ble_eq_true rfl⟩) (ci := 0) rfl 0 rfl rfl rfl (Nat.le_of_ble_eq_true rfl) dL_law_414 ⟨by show _ ≤ 202; omega, by show _ ≤ 7993; omega⟩ (fun r_414 u_414 hp_414 => ?_)
  subst hp_414
  refine bh_istore (lv' := [(8, .int (nI (mq_now M))), (7, .int x7), (6, .int v), (5, .int (nI i)), (4, .int (nI t)), (3, .int 1), (2, .int (nI (mq_fc M))), (1, .ref (ad 0)), (0, .ref b)]) C dL_law_417 (by decide) rfl ?_
  refine bh_aload_n C dL_law_419 rfl 7 rfl ?_
  refine bh_calli_0 (As := []) C (ct_X0_scans l D cI cZ cL ad M) (cwV 0 C.1.2.2.2.2 gL_law_X0_scans rfl rfl rfl (by decide +kernel) ⟨Nat.le_of_ble_eq_true rfl, Nat.le_of_ble_eq_true rfl⟩) (ci := 0) rfl 0 rfl rfl rfl (Nat.le_of_ble_eq_true rfl) dL_law_420 ⟨by show _ ≤ 202; omega, by show _ ≤ 7993; omega⟩ (fun r_420 u_420 hp_420 => ?_)
  subst hp_420
  refine bh_istore (lv' := [(9, .int (nI (mq_sc M))), (8, .int (nI (mq_now M))), (7, .int x7), (6, .int v), (5, .int (nI i)), (4, .int (nI t)), (3, .int 1), (2, .int (nI (mq_fc M))), (1, .ref (ad 0)), (0, .ref b)]) C dL_law_423 (by decide) rfl ?_
  refine bh_iconst (v := 1) C dL_law_425 (by decide) ?_
  refine bh_iload C dL_law_426 3 rfl ?_
  refine bh_iload C dL_law_428 3 rfl ?_
  refine bh_bipush (v := 9) C dL_law_430 (by decide) ?_
  refine bh_ishr C dL_law_432 ?_
  refine bh_iconst (v := 3) C dL_law_433 (by decide) ?_
  refine bh_calli_N (As := [.int (v >>> (9 &&& 31)), .int 3]) C (ct_L_low l D cI cZ cL (v >>> (9 &&& 31)) 3 (by decide)) ⟨callB_of 2 C.1.2.2.2.2 ggL_law_L_low rfl rfl rfl (C.1.2.2.2.2 _ (by decide +kernel)) (C.1.2.2.2.2 _ (by decide +kernel)) (by decide +kernel) ⟨Nat.le_of_ble_eq_true rfl, Nat.le_of_ble_eq_true rfl⟩, C.1.2.2.2.2 _ (by decide +kernel)⟩ rfl rfl (Nat.le_of_ble_eq_true rfl) dL_law_434 ⟨by show _ ≤ 202; omega, by show _ ≤ 7993; omega⟩ (fun r_434 u_434 hp_434 => ?_)
  subst hp_434
  refine bh_if_ne (tgt := 445) C dL_law_437 (by decide) (fun c_437 => ?_) (fun c_437 => ?_)
  · skip
    refine bh_bipush (v := 6) C dL_law_445 (by decide) ?_
    obtain ⟨j, hj, ej⟩ := low_at v (c := 6) (n := 6) rfl (by decide) (by decide)
    refine bh_calli_N (As := [.int v, .int 6]) C (ct_L_low l D cI cZ cL v 6 (by decide)) ⟨callB_of 2 C.1.2.2.2.2 ggL_law_L_low rfl rfl rfl (C.1.2.2.2.2 _ (by decide +kernel)) (C.1.2.2.2.2 _ (by decide +kernel)) (by decide +kernel) ⟨Nat.le_of_ble_eq_true rfl, Nat.le_of_ble_eq_true rfl⟩, C.1.2.2.2.2 _ (by decide +kernel)⟩ rfl rfl (Nat.le_of_ble_eq_true rfl) dL_law_447 ⟨by show _ ≤ 202; omega, by show _ ≤ 7993; omega⟩ (fun r_447 u_447 hp_447 => ?_)
    subst hp_447
    refine bh_topi ej ?_
    refine bh_iadd C dL_law_450 ?_
    refine bh_topi (show (1 : Int32) + nI j = nI (1 + j) from nI_add 1 j) ?_
    refine bh_istore (lv' := [(10, .int (nI (1 + j))), (9, .int (nI (mq_sc M))), (8, .int (nI (mq_now M))), (7, .int x7), (6, .int v), (5, .int (nI i)), (4, .int (nI t)), (3, .int 1), (2, .int (nI (mq_fc M))), (1, .ref (ad 0)), (0, .ref b)]) C dL_law_451 (by decide) rfl ?_
    refine bh_aload_n C dL_law_453 rfl 9 rfl ?_
    refine bh_iload C dL_law_454 0 rfl ?_
    refine bh_ycalli (As := [.int (nI (1 + j))]) C hE (ct_X0_pass l hl D cI cZ cL ad M (nI (1 + j)) hP.1 hT) (cwV 1 C.1.2.2.2.2 gL_law_X0_pass rfl rfl rfl (by decide +kernel) ⟨Nat.le_of_ble_eq_true rfl, Nat.le_of_ble_eq_true rfl⟩) (ci := 0) rfl 0 rfl rfl rfl (Nat.le_of_ble_eq_true rfl) dL_law_456 ⟨by show _ ≤ 202; omega, by show _ ≤ 7993; omega⟩ (fun E h9 => no_px (co_pass0 (by omega)) h9) (fun r u hp => ?_)
    have hk9 : (nI (1 + j)).toNatClampNeg = 1 + j := nI_clamp (by omega)
    have hr : r = nI (mq_sc (mo_pass M (1 + j))) - nI (mq_sc M) := by rw [hp.2, hk9]
    subst hr
    have hP2 : PX (4 * i) (200 * i + 200) (mo_pass M (1 + j)) := PX_pass hP hT (by omega)
    obtain ⟨hnowN, hfcN, hbcN⟩ := KP_pass M (1 + j)
    refine bh_eqw (w' := wh_hall cI cZ ad (mo_pass M (1 + j))) (by rw [hk9]) ?_
    refine bh_aload_n C dL_law_459 rfl 9 rfl ?_
    refine bh_calli_0 (As := []) C (ct_X0_scans l D cI cZ cL ad (mo_pass M (1 + j))) (cwV 0 C.1.2.2.2.2 gL_law_X0_scans rfl rfl rfl (by decide +kernel) ⟨Nat.le_of_ble_eq_true rfl, Nat.le_of_ble_eq_true rfl⟩) (ci := 0) rfl 0 rfl rfl rfl (Nat.le_of_ble_eq_true rfl) dL_law_460 ⟨by show _ ≤ 202; omega, by show _ ≤ 7993; omega⟩ (fun r_460 u_460 hp_460 => ?_)
    subst hp_460
    refine bh_iload C dL_law_463 1 rfl ?_
    refine bh_isub C dL_law_465 ?_
    refine bh_icmp_ne (tgt := 485) C dL_law_466 (by decide) (fun c_466 => absurd rfl c_466) (fun c_466 => ?_)
    refine bh_aload_n C dL_law_469 rfl 9 rfl ?_
    refine bh_calli_0 (As := []) C (ct_X0_time l D cI cZ cL ad (mo_pass M (1 + j))) (cwV 0 C.1.2.2.2.2 gL_law_X0_time rfl rfl rfl (by decide +kernel) ⟨Nat.le_of_ble_eq_true rfl, Nat.le_of_ble_eq_true rfl⟩) (ci := 0) rfl 0 rfl rfl rfl (Nat.le_of_ble_eq_true rfl) dL_law_470 ⟨by show _ ≤ 202; omega, by show _ ≤ 7993; omega⟩ (fun r_470 u_470 hp_470 => ?_)
    subst hp_470
    refine bh_iload C dL_law_473 2 rfl ?_
    refine bh_iload C dL_law_475 0 rfl ?_
    refine bh_iadd C dL_law_477 ?_
    refine bh_topi (nI_add _ _) ?_
    refine bh_icmp_ne (tgt := 485) C dL_law_478 (by decide) (fun c_478 => absurd (congrArg nI hnowN) c_478) (fun c_478 => ?_)
    refine bh_iconst (v := 1) C dL_law_481 (by decide) ?_
    refine bh_goto (tgt := 486) C dL_law_482 (by decide) ?_
    refine bh_istore_n (lv' := [(3, .int 1), (10, .int (nI (1 + j))), (9, .int (nI (mq_sc M))), (8, .int (nI (mq_now M))), (7, .int x7), (6, .int v), (5, .int (nI i)), (4, .int (nI t)), (2, .int (nI (mq_fc M))), (1, .ref (ad 0)), (0, .ref b)]) C dL_law_486 rfl (by decide) rfl ?_
    refine bh_lv (lv' := [(3, .int 1), (2, .int (nI (mq_fc M))), (5, .int (nI i)), (4, .int (nI t)), (1, .ref (ad 0)), (0, .ref b)]) [0, 8, 6, 7, 9, 10] rfl ?_
    refine bh_eqlv (lv' := [(3, .int 1), (2, .int (nI (mq_fc (mo_pass M (1 + j))))), (5, .int (nI i)), (4, .int (nI t)), (1, .ref (ad 0)), (0, .ref b)]) (by rw [hfcN]) ?_
    refine bh_widen (k := 14 + 2 * i + 2) (n := 6521 + 12 * i + 12) (by omega) (by omega) ?_
    exact kont _ (PX_mono hP2 (by omega) hK4 (Nat.le_refl _) hT)
  · skip
    refine bh_bipush (v := 60) C dL_law_440 (by decide) ?_
    refine bh_goto (tgt := 447) C dL_law_442 (by decide) ?_
    obtain ⟨j, hj, ej⟩ := low_at v (c := 60) (n := 60) rfl (by decide) (by decide)
    refine bh_calli_N (As := [.int v, .int 60]) C (ct_L_low l D cI cZ cL v 60 (by decide)) ⟨callB_of 2 C.1.2.2.2.2 ggL_law_L_low rfl rfl rfl (C.1.2.2.2.2 _ (by decide +kernel)) (C.1.2.2.2.2 _ (by decide +kernel)) (by decide +kernel) ⟨Nat.le_of_ble_eq_true rfl, Nat.le_of_ble_eq_true rfl⟩, C.1.2.2.2.2 _ (by decide +kernel)⟩ rfl rfl (Nat.le_of_ble_eq_true rfl) dL_law_447 ⟨by show _ ≤ 202; omega, by show _ ≤ 7993; omega⟩ (fun r_447 u_447 hp_447 => ?_)
    subst hp_447
    refine bh_topi ej ?_
    refine bh_iadd C dL_law_450 ?_
    refine bh_topi (show (1 : Int32) + nI j = nI (1 + j) from nI_add 1 j) ?_
    refine bh_istore (lv' := [(10, .int (nI (1 + j))), (9, .int (nI (mq_sc M))), (8, .int (nI (mq_now M))), (7, .int x7), (6, .int v), (5, .int (nI i)), (4, .int (nI t)), (3, .int 1), (2, .int (nI (mq_fc M))), (1, .ref (ad 0)), (0, .ref b)]) C dL_law_451 (by decide) rfl ?_
    refine bh_aload_n C dL_law_453 rfl 9 rfl ?_
    refine bh_iload C dL_law_454 0 rfl ?_
    refine bh_ycalli (As := [.int (nI (1 + j))]) C hE (ct_X0_pass l hl D cI cZ cL ad M (nI (1 + j)) hP.1 hT) (cwV 1 C.1.2.2.2.2 gL_law_X0_pass rfl rfl rfl (by decide +kernel) ⟨Nat.le_of_ble_eq_true rfl, Nat.le_of_ble_eq_true rfl⟩) (ci := 0) rfl 0 rfl rfl rfl (Nat.le_of_ble_eq_true rfl) dL_law_456 ⟨by show _ ≤ 202; omega, by show _ ≤ 7993; omega⟩ (fun E h9 => no_px (co_pass0 (by omega)) h9) (fun r u hp => ?_)
    have hk9 : (nI (1 + j)).toNatClampNeg = 1 + j := nI_clamp (by omega)
    have hr : r = nI (mq_sc (mo_pass M (1 + j))) - nI (mq_sc M) := by rw [hp.2, hk9]
    subst hr
    have hP2 : PX (4 * i) (200 * i + 200) (mo_pass M (1 + j)) := PX_pass hP hT (by omega)
    obtain ⟨hnowN, hfcN, hbcN⟩ := KP_pass M (1 + j)
    refine bh_eqw (w' := wh_hall cI cZ ad (mo_pass M (1 + j))) (by rw [hk9]) ?_
    refine bh_aload_n C dL_law_459 rfl 9 rfl ?_
    refine bh_calli_0 (As := []) C (ct_X0_scans l D cI cZ cL ad (mo_pass M (1 + j))) (cwV 0 C.1.2.2.2.2 gL_law_X0_scans rfl rfl rfl (by decide +kernel) ⟨Nat.le_of_ble_eq_true rfl, Nat.le_of_ble_eq_true rfl⟩) (ci := 0) rfl 0 rfl rfl rfl (Nat.le_of_ble_eq_true rfl) dL_law_460 ⟨by show _ ≤ 202; omega, by show _ ≤ 7993; omega⟩ (fun r_460 u_460 hp_460 => ?_)
    subst hp_460
    refine bh_iload C dL_law_463 1 rfl ?_
    refine bh_isub C dL_law_465 ?_
    refine bh_icmp_ne (tgt := 485) C dL_law_466 (by decide) (fun c_466 => absurd rfl c_466) (fun c_466 => ?_)
    refine bh_aload_n C dL_law_469 rfl 9 rfl ?_
    refine bh_calli_0 (As := []) C (ct_X0_time l D cI cZ cL ad (mo_pass M (1 + j))) (cwV 0 C.1.2.2.2.2 gL_law_X0_time rfl rfl rfl (by decide +kernel) ⟨Nat.le_of_ble_eq_true rfl, Nat.le_of_ble_eq_true rfl⟩) (ci := 0) rfl 0 rfl rfl rfl (Nat.le_of_ble_eq_true rfl) dL_law_470 ⟨by show _ ≤ 202; omega, by show _ ≤ 7993; omega⟩ (fun r_470 u_470 hp_470 => ?_)
    subst hp_470
    refine bh_iload C dL_law_473 2 rfl ?_
    refine bh_iload C dL_law_475 0 rfl ?_
    refine bh_iadd C dL_law_477 ?_
    refine bh_topi (nI_add _ _) ?_
    refine bh_icmp_ne (tgt := 485) C dL_law_478 (by decide) (fun c_478 => absurd (congrArg nI hnowN) c_478) (fun c_478 => ?_)
    refine bh_iconst (v := 1) C dL_law_481 (by decide) ?_
    refine bh_goto (tgt := 486) C dL_law_482 (by decide) ?_
    refine bh_istore_n (lv' := [(3, .int 1), (10, .int (nI (1 + j))), (9, .int (nI (mq_sc M))), (8, .int (nI (mq_now M))), (7, .int x7), (6, .int v), (5, .int (nI i)), (4, .int (nI t)), (2, .int (nI (mq_fc M))), (1, .ref (ad 0)), (0, .ref b)]) C dL_law_486 rfl (by decide) rfl ?_
    refine bh_lv (lv' := [(3, .int 1), (2, .int (nI (mq_fc M))), (5, .int (nI i)), (4, .int (nI t)), (1, .ref (ad 0)), (0, .ref b)]) [0, 8, 6, 7, 9, 10] rfl ?_
    refine bh_eqlv (lv' := [(3, .int 1), (2, .int (nI (mq_fc (mo_pass M (1 + j))))), (5, .int (nI i)), (4, .int (nI t)), (1, .ref (ad 0)), (0, .ref b)]) (by rw [hfcN]) ?_
    refine bh_widen (k := 14 + 2 * i + 2) (n := 6521 + 12 * i + 12) (by omega) (by omega) ?_
    exact kont _ (PX_mono hP2 (by omega) hK4 (Nat.le_refl _) hT)
