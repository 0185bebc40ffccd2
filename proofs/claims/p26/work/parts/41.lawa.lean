/-- the law's number from 0 to n - 1 -/
def lo_low (x n : Int32) : Int32 := (x &&& 2147483647) - (x &&& 2147483647) / n * n
theorem lo_divI {a b : Nat} (ha : a < 2 ^ 31) (hb : b < 2 ^ 31) : nI a / nI b = nI (a / b) := by
  have hab : a / b < 2 ^ 31 := Nat.lt_of_le_of_lt (Nat.div_le_self _ _) ha
  apply Int32.toInt_inj.mp
  rw [Int32.toInt_div, nI_toInt ha, nI_toInt hb, nI_toInt hab]
  have hz : (0 : Int) ≤ (a : Int) / (b : Int) := Int.ediv_nonneg (by omega) (by omega)
  have e : (a : Int).tdiv (b : Int) = ((a / b : Nat) : Int) := by
    rw [Int.tdiv_eq_ediv_of_nonneg (by omega)]; rfl
  rw [e, Int.bmod_eq_of_le (by omega) (by omega)]
theorem lo_low_in (x : Int32) {n : Nat} (h0 : 0 < n) (hn : n < 2 ^ 31) : ∃ j, j < n ∧ lo_low x (nI n) = nI j := by
  obtain ⟨a, ha, ea⟩ := pk_andE x (m := 2147483647) 31 (by decide +kernel)
  have hq : a / n * n ≤ a := Nat.div_mul_le_self a n
  refine ⟨a % n, Nat.mod_lt _ h0, ?_⟩
  unfold lo_low
  rw [ea, lo_divI ha hn, show nI (a / n) * nI n = nI (a / n * n) from (Int32.ofNat_mul _ _).symm]
  have e : a = a / n * n + a % n := by
    have := Nat.div_add_mod a n
    rw [Nat.mul_comm] at this
    exact this.symm
  obtain ⟨u, hu⟩ : ∃ u, u = a / n * n := ⟨_, rfl⟩
  obtain ⟨v, hv⟩ : ∃ v, v = a % n := ⟨_, rfl⟩
  rw [← hu, ← hv] at e
  rw [← hu, ← hv, e, ← nI_add, Int32.add_comm, Int32.add_sub_cancel]
theorem lo_low_ne {n : Nat} (h0 : 0 < n) (hn : n < 2 ^ 31) : ¬ nI n = 0 := nI_ne0 h0 hn
set_option maxRecDepth 100000 in
set_option maxHeartbeats 4000000 in
theorem ct_L_low (l : Launch) (D : va_G) (cI cZ cL : ClassId) (x n : Int32) (hn : ¬ n = 0) : bh_Mi l D (wh_tys cI cZ cL) yL_low wsL_low ({ frames := 0, cells := 0, slots := 0, locals := 0 } : Room) [.int x, .int n] [] (fun r (_ : Unit) => r = lo_low x n) (fun _ => []) 0 0 := by
  refine bh_ofi (cc := cL_low) (maxL := 2) (by decide +kernel) rfl (Nat.le_of_ble_eq_true rfl) ?_
  intro p e s m args below meth c A Q _ C hQ
  refine bh_eqlv (lv' := [(0, .int x), (1, .int n)]) rfl ?_
  refine bh_iload_n C dL_low_0 rfl 0 rfl ?_
  refine bh_ldc (v := 2147483647) C (by decide +kernel) dL_low_1 ?_
  refine bh_iand C dL_low_3 ?_
  refine bh_iload_n C dL_low_4 rfl 1 rfl ?_
  refine bh_irem C dL_low_5 hn ?_
  exact bh_zret C hQ dL_low_6 () (v := lo_low x n) (w := []) rfl rfl (Nat.le_of_ble_eq_true rfl) (Nat.le_of_ble_eq_true rfl) rfl
set_option maxRecDepth 100000 in
set_option maxHeartbeats 4000000 in
theorem ct_L_cell (l : Launch) (D : va_G) (cI cZ cL : ClassId) {b L : Nat} {xs : Nat → Int32} (hL : L ≤ 260) (k : Nat) (hk : k < 1000) : bh_Si l D (wh_tys cI cZ cL) yL_cell wsL_cell ({ frames := 0, cells := 0, slots := 0, locals := 0 } : Room) [.ref b, .int (nI k)] b L xs (fun _ _ => True) := by
  refine bh_ofSi (cc := cL_cell) (maxL := 2) (by decide +kernel) rfl (Nat.le_of_ble_eq_true rfl) ?_
  intro p e s m args below meth c A Q C hQ hX hbl hbA
  refine bh_eqlv (lv' := [(0, .ref b), (1, .int (nI k))]) rfl ?_
  refine bh_iload_n C dL_cell_0 rfl 1 rfl ?_
  refine bh_aload_n C dL_cell_1 rfl 0 rfl ?_
  refine bh_slen C hX hbl hbA dL_cell_2 ?_
  refine bh_icmp_ge (tgt := 12) C dL_cell_3 (by decide) (fun _ => ?_) (fun c3 => ?_)
  · refine bh_ldc (v := 40503) C (by decide +kernel) dL_cell_12 ?_
    refine bh_iload_n C dL_cell_14 rfl 1 rfl ?_
    refine bh_imul C dL_cell_15 ?_
    refine bh_sipush (v := 977) C dL_cell_16 (by decide) ?_
    refine bh_iadd C dL_cell_19 ?_
    exact bh_zret C hQ dL_cell_20 () (wf := fun _ => []) (w := []) rfl rfl (Nat.le_of_ble_eq_true rfl) (Nat.le_of_ble_eq_true rfl) trivial
  · refine bh_aload_n C dL_cell_6 rfl 0 rfl ?_
    refine bh_iload_n C dL_cell_7 rfl 1 rfl ?_
    refine bh_sld C hX hbl hbA (vp_in_nI (n := k) (bh_nle2 (by omega) (by omega) c3) (by omega)) rfl dL_cell_8 ?_
    refine bh_goto (tgt := 20) C dL_cell_9 (by decide) ?_
    exact bh_zret C hQ dL_cell_20 () (wf := fun _ => []) (w := []) rfl rfl (Nat.le_of_ble_eq_true rfl) (Nat.le_of_ble_eq_true rfl) trivial
section
variable {K T : Nat} {M : MT}
theorem co_add_n1 {x : Int32} (h1 : ¬ x < 1) (h2 : x ≤ 1000) : co_add M x ≠ 1 := by
  unfold co_add
  rw [if_neg (fun z => z.elim h1 (fun q => absurd h2 (Int32.not_le.mpr q)))]
  split <;> decide
theorem co_add_2 {x : Int32} (h : co_add M x = 2) : ¬ mq_fc M < 10 := by
  unfold co_add at h
  split at h
  · exact absurd h (by decide)
  · split at h
    · omega
    · exact absurd h (by decide)
theorem co_take_n1 {x r : Int32} (h1 : vp_in x (mq_fc M)) (h2 : vp_in r 40) : co_take M x r ≠ 1 := by
  unfold co_take
  rw [if_pos ⟨mo_in_t h1, mo_in_t h2⟩]
  split <;> decide
theorem co_deci_n1 {b : Int32} (h1 : vp_in b (mq_bc M)) : co_deci M b ≠ 1 := by
  unfold co_deci
  rw [if_pos (mo_in_t h1)]
  split <;> decide
theorem co_send_n1 {b x : Int32} (h1 : vp_in b (mq_bc M)) (h2 : vp_in x (mq_fc M)) : co_send M b x ≠ 1 := by
  unfold co_send
  rw [if_pos ⟨mo_in_t h1, mo_in_t h2⟩]
  split <;> decide
/-- a decision is a move -/
theorem dec_go {k : Nat} (h3 : mq_pl M k = 1 ∨ mq_pl M k = 2 ∨ mq_pl M k = 3) (z : Int32) : ∃ p, mo_dec M k z = mo_bring M k p ∧ GO M k p ∧ (z = 0 → p = mq_pl M k + 1) ∧ (z ≠ 0 → p = 5 ∨ p = 6 ∨ p = 7 ∨ p = 11) := by
  by_cases hz : z = 0
  · refine ⟨mo_nx (mq_pl M k), if_pos hz, ?_, fun _ => ?_, fun h => absurd hz h⟩
    · rcases h3 with q | q | q <;> rw [q] <;> exact GO_lit (by decide +kernel)
    · rcases h3 with q | q | q <;> rw [q] <;> decide +kernel
  · refine ⟨mo_way M (mq_bf M k), (if_neg hz).trans (mo_route_b ?_), GO_way M k, fun h => absurd h hz, fun _ => ?_⟩
    · rcases h3 with q | q | q <;> rw [q] <;> decide
    · rcases mo_way_or M (mq_bf M k) with q | q | q | q
      · exact Or.inr (Or.inr (Or.inr q))
      · exact Or.inr (Or.inr (Or.inl q))
      · exact Or.inl q
      · exact Or.inr (Or.inl q)
theorem send_go {k : Nat} (h3 : mq_pl M k = 10 ∨ mq_pl M k = 11) (x : Int32) : mo_route (mo_snd M k x) k = mo_bring (mo_snd M k x) k (mo_way (mo_snd M k x) (mq_bf (mo_snd M k x) k)) := by
  refine mo_route_b ?_
  show mq_pl M k ≠ 6
  rcases h3 with q | q <;> rw [q] <;> decide
theorem come_go (hI : MI K T M) (x r : Int32) : mo_route (mo_take M x r) (mq_bc M) = mo_bring (mo_take M x r) (mq_bc M) (mo_way (mo_take M x r) (mq_bf (mo_take M x r) (mq_bc M))) := by
  refine mo_route_b ?_
  rw [pl_take hI, (MI_beyond hI (Nat.le_refl _)).1]
  decide
end
set_option maxRecDepth 100000 in
set_option maxHeartbeats 4000000 in
theorem ct_L_addFlight (l : Launch) (hl : l.stackTraces = false) (D : va_G) (cI cZ cL : ClassId) (ad : Nat → Nat) {K T : Nat} (M : MT) (x : Int32) (hI : MI K T M) (hx1 : ¬ x < 1) (hx2 : x ≤ 1000) : bh_Wi l D (wh_tys cI cZ cL) yL_addFlight wsL_addFlight ({ frames := 7, cells := 1, slots := 6, locals := 113 } : Room) [.ref (ad 0), .int x] (wh_hall cI cZ ad M) (fun (r : Int32) (u : MT) => (r = nI (mq_fc M) ∧ co_add M x = 0 ∧ u = mo_add M x) ∨ (r = -3 ∧ ¬ mq_fc M < 10 ∧ M = u)) (fun u => wh_hall cI cZ ad u) 1 6 := by
  refine bh_ofWi (cc := cL_addFlight) (maxL := 3) (by decide +kernel) rfl (Nat.le_of_ble_eq_true rfl) ?_
  intro p e s m args below meth c A Q C hQ hE htab
  refine bh_eqlv (lv' := [(0, .ref (ad 0)), (1, .int x)]) rfl ?_
  refine bh_aload_n C dL_addFlight_0 rfl 0 rfl ?_
  refine bh_iload_n C dL_addFlight_1 rfl 1 rfl ?_
  refine bh_zcalli (As := [.int x]) C hE (ct_X0_addFlight l hl D cI cZ cL ad M x hI) (cwV 1 C.1.2.2.2.2 gL_addFlight_X0_addFlight rfl rfl rfl (by decide +kernel) ⟨Nat.le_of_ble_eq_true rfl, Nat.le_of_ble_eq_true rfl⟩) (ci := 0) rfl 0 rfl rfl rfl (Nat.le_of_ble_eq_true rfl) dL_addFlight_2 ⟨Nat.le_of_ble_eq_true rfl, Nat.le_of_ble_eq_true rfl⟩ (fun E hp => ?_) (fun r u hp => ?_)
  · rcases hp with ⟨rfl, hco⟩ | ⟨rfl, hco⟩
    · exact absurd hco (co_add_n1 hx1 hx2)
    · refine bh_catch C hE htab (E := xe_S) (name := xe_S) [] ⟨0, 5, 6, 15⟩ [] rfl (fun z hz => absurd hz List.not_mem_nil) (by decide) (by decide) (by decide +kernel) (by decide) (fun q9 => ?_)
      refine bh_astore_n (lv' := [(2, .ref q9), (0, .ref (ad 0)), (1, .int x)]) C dL_addFlight_6 rfl (by decide) rfl ?_
      refine bh_bipush (v := (-3)) C dL_addFlight_7 (by decide) ?_
      exact bh_zret C hQ dL_addFlight_9 M (v := (-3)) (w := wh_hall cI cZ ad M) rfl rfl (Nat.le_of_ble_eq_true rfl) (Nat.le_of_ble_eq_true rfl) (Or.inr ⟨rfl, co_add_2 hco, rfl⟩)
  · skip
    obtain ⟨hco, rfl⟩ := hp
    exact bh_zret C hQ dL_addFlight_5 (mo_add M x) (v := (nI (mq_fc M))) (w := wh_hall cI cZ ad (mo_add M x)) rfl rfl (Nat.le_of_ble_eq_true rfl) (Nat.le_of_ble_eq_true rfl) (Or.inl ⟨rfl, hco, rfl⟩)
set_option maxRecDepth 100000 in
set_option maxHeartbeats 4000000 in
theorem ct_L_comes (l : Launch) (hl : l.stackTraces = false) (D : va_G) (cI cZ cL : ClassId) (ad : Nat → Nat) {K T : Nat} (M : MT) (x r0 z : Int32) (hI : MI K T M) (hK4 : K + 4 ≤ 2048) (hx : vp_in x (mq_fc M)) (hr : vp_in r0 40) : bh_Wi l D (wh_tys cI cZ cL) yL_comes wsL_comes ({ frames := 9, cells := 1, slots := 6, locals := 157 } : Room) [.ref (ad 0), .int x, .int r0, .int z] (wh_hall cI cZ ad M) (fun (r : Int32) (u : MT) => (r = nI (mq_bc M) ∧ mq_bc M < 48 ∧ ∃ p, u = mo_bring (mo_take M x r0) (mq_bc M) p ∧ GO (mo_take M x r0) (mq_bc M) p ∧ (z = 0 → p = 1)) ∨ (r = -3 ∧ M = u)) (fun u => wh_hall cI cZ ad u) 1 6 := by
  refine bh_ofWi (cc := cL_comes) (maxL := 5) (by decide +kernel) rfl (Nat.le_of_ble_eq_true rfl) ?_
  intro p e s m args below meth c A Q C hQ hE htab
  refine bh_eqlv (lv' := [(0, .ref (ad 0)), (1, .int x), (2, .int r0), (3, .int z)]) rfl ?_
  refine bh_iload_n C dL_comes_0 rfl 3 rfl ?_
  refine bh_if_eq (tgt := 13) C dL_comes_1 (by decide) (fun cz => ?_) (fun cz => ?_)
  · skip
    refine bh_aload_n C dL_comes_13 rfl 0 rfl ?_
    refine bh_iload_n C dL_comes_14 rfl 1 rfl ?_
    refine bh_iload_n C dL_comes_15 rfl 2 rfl ?_
    refine bh_zcalli (As := [.int x, .int r0]) C hE (ct_X0_checkIn l hl D cI cZ cL ad M x r0 hI hK4) (cwV 2 C.1.2.2.2.2 gL_comes_X0_checkIn rfl rfl rfl (by decide +kernel) ⟨Nat.le_of_ble_eq_true rfl, Nat.le_of_ble_eq_true rfl⟩) (ci := 0) rfl 0 rfl rfl rfl (Nat.le_of_ble_eq_true rfl) dL_comes_16 ⟨Nat.le_of_ble_eq_true rfl, Nat.le_of_ble_eq_true rfl⟩ (fun E hp => ?_) (fun r u hp => ?_)
    · rcases hp with ⟨rfl, hco⟩ | ⟨rfl, hco⟩
      · exact absurd hco (co_take_n1 hx hr)
      · refine bh_catch C hE htab (E := xe_S) (name := xe_S) [] ⟨0, 19, 20, 15⟩ [] rfl (fun z hz => absurd hz List.not_mem_nil) (by decide) (by decide) (by decide +kernel) (by decide) (fun q9 => ?_)
        refine bh_astore (lv' := [(4, .ref q9), (0, .ref (ad 0)), (1, .int x), (2, .int r0), (3, .int z)]) C dL_comes_20 (by decide) rfl ?_
        refine bh_bipush (v := (-3)) C dL_comes_22 (by decide) ?_
        exact bh_zret C hQ dL_comes_24 M (v := (-3)) (w := wh_hall cI cZ ad M) rfl rfl (Nat.le_of_ble_eq_true rfl) (Nat.le_of_ble_eq_true rfl) (Or.inr ⟨rfl, rfl⟩)
    · skip
      obtain ⟨hco, -, -, hb48, rfl⟩ := hp
      exact bh_zret C hQ dL_comes_19 (mo_bring (mo_take M x r0) (mq_bc M) 1) (v := (nI (mq_bc M))) (w := wh_hall cI cZ ad (mo_bring (mo_take M x r0) (mq_bc M) 1)) rfl rfl (Nat.le_of_ble_eq_true rfl) (Nat.le_of_ble_eq_true rfl) (Or.inl ⟨rfl, hb48, 1, rfl, GO_lit (by decide), fun _ => rfl⟩)
  · skip
    refine bh_aload_n C dL_comes_4 rfl 0 rfl ?_
    refine bh_iload_n C dL_comes_5 rfl 1 rfl ?_
    refine bh_iload_n C dL_comes_6 rfl 2 rfl ?_
    refine bh_zcalli (As := [.int x, .int r0]) C hE (ct_X0_transfer l hl D cI cZ cL ad M x r0 hI hK4) (cwV 2 C.1.2.2.2.2 gL_comes_X0_transfer rfl rfl rfl (by decide +kernel) ⟨Nat.le_of_ble_eq_true rfl, Nat.le_of_ble_eq_true rfl⟩) (ci := 0) rfl 0 rfl rfl rfl (Nat.le_of_ble_eq_true rfl) dL_comes_7 ⟨Nat.le_of_ble_eq_true rfl, Nat.le_of_ble_eq_true rfl⟩ (fun E hp => ?_) (fun r u hp => ?_)
    · rcases hp with ⟨rfl, hco⟩ | ⟨rfl, hco⟩
      · exact absurd hco (co_take_n1 hx hr)
      · refine bh_catch C hE htab (E := xe_S) (name := xe_S) [] ⟨0, 19, 20, 15⟩ [] rfl (fun z hz => absurd hz List.not_mem_nil) (by decide) (by decide) (by decide +kernel) (by decide) (fun q9 => ?_)
        refine bh_astore (lv' := [(4, .ref q9), (0, .ref (ad 0)), (1, .int x), (2, .int r0), (3, .int z)]) C dL_comes_20 (by decide) rfl ?_
        refine bh_bipush (v := (-3)) C dL_comes_22 (by decide) ?_
        exact bh_zret C hQ dL_comes_24 M (v := (-3)) (w := wh_hall cI cZ ad M) rfl rfl (Nat.le_of_ble_eq_true rfl) (Nat.le_of_ble_eq_true rfl) (Or.inr ⟨rfl, rfl⟩)
    · skip
      obtain ⟨hco, -, -, hb48, rfl⟩ := hp
      refine bh_goto (tgt := 19) C dL_comes_10 (by decide) ?_
      exact bh_zret C hQ dL_comes_19 (mo_route (mo_take M x r0) (mq_bc M)) (v := (nI (mq_bc M))) (w := wh_hall cI cZ ad (mo_route (mo_take M x r0) (mq_bc M))) rfl rfl (Nat.le_of_ble_eq_true rfl) (Nat.le_of_ble_eq_true rfl) (Or.inl ⟨rfl, hb48, _, come_go hI x r0, GO_way _ _, fun q => absurd q cz⟩)
set_option maxRecDepth 100000 in
set_option maxHeartbeats 4000000 in
theorem ct_L_decide (l : Launch) (hl : l.stackTraces = false) (D : va_G) (cI cZ cL : ClassId) (ad : Nat → Nat) {K T : Nat} (M : MT) (k : Nat) (z : Int32) (hI : MI K T M) (hK4 : K + 4 ≤ 2048) (hk : k < mq_bc M) (h3 : mq_pl M k = 1 ∨ mq_pl M k = 2 ∨ mq_pl M k = 3) : bh_Wi l D (wh_tys cI cZ cL) yL_decide wsL_decide ({ frames := 8, cells := 1, slots := 6, locals := 134 } : Room) [.ref (ad 0), .int (nI k), .int z] (wh_hall cI cZ ad M) (fun (r : Int32) (u : MT) => (u = mo_bring M k r ∧ GO M k r ∧ (z = 0 → r = mq_pl M k + 1) ∧ (z ≠ 0 → r = 5 ∨ r = 6 ∨ r = 7 ∨ r = 11)) ∨ (r = -3 ∧ M = u)) (fun u => wh_hall cI cZ ad u) 1 6 := by
  refine bh_ofWi (cc := cL_decide) (maxL := 4) (by decide +kernel) rfl (Nat.le_of_ble_eq_true rfl) ?_
  intro p e s m args below meth c A Q C hQ hE htab
  refine bh_eqlv (lv' := [(0, .ref (ad 0)), (1, .int (nI k)), (2, .int z)]) rfl ?_
  refine bh_aload_n C dL_decide_0 rfl 0 rfl ?_
  refine bh_iload_n C dL_decide_1 rfl 1 rfl ?_
  refine bh_iload_n C dL_decide_2 rfl 2 rfl ?_
  refine bh_zcalli (As := [.int (nI k), .int z]) C hE (ct_X0_decide l hl D cI cZ cL ad M (nI k) z hI hK4) (cwV 2 C.1.2.2.2.2 gL_decide_X0_decide rfl rfl rfl (by decide +kernel) ⟨Nat.le_of_ble_eq_true rfl, Nat.le_of_ble_eq_true rfl⟩) (ci := 0) rfl 0 rfl rfl rfl (Nat.le_of_ble_eq_true rfl) dL_decide_3 ⟨Nat.le_of_ble_eq_true rfl, Nat.le_of_ble_eq_true rfl⟩ (fun E hp => ?_) (fun r u hp => ?_)
  · rcases hp with ⟨rfl, hco⟩ | ⟨rfl, hco⟩
    · exact absurd hco (co_deci_n1 (vp_in_nI hk (by have := MI_bc hI; omega)))
    · refine bh_catch C hE htab (E := xe_S) (name := xe_S) [] ⟨0, 6, 7, 15⟩ [] rfl (fun z hz => absurd hz List.not_mem_nil) (by decide) (by decide) (by decide +kernel) (by decide) (fun q9 => ?_)
      refine bh_astore_n (lv' := [(3, .ref q9), (0, .ref (ad 0)), (1, .int (nI k)), (2, .int z)]) C dL_decide_7 rfl (by decide) rfl ?_
      refine bh_bipush (v := (-3)) C dL_decide_8 (by decide) ?_
      exact bh_zret C hQ dL_decide_10 M (v := (-3)) (w := wh_hall cI cZ ad M) rfl rfl (Nat.le_of_ble_eq_true rfl) (Nat.le_of_ble_eq_true rfl) (Or.inr ⟨rfl, rfl⟩)
  · skip
    have hb := MI_bc hI
    have hk9 : (nI k).toNatClampNeg = k := nI_clamp (by omega)
    obtain ⟨pp, e1, hg, h0, h1⟩ := dec_go h3 z
    have hr : r = pp := by rw [hp.2, hk9, e1]; exact bh_upd_same _ _ _
    subst hr
    exact bh_zret C hQ dL_decide_6 (mo_bring M k r) (v := r) (w := wh_hall cI cZ ad (mo_dec M (nI k).toNatClampNeg z)) (by rw [hk9, e1]) rfl (Nat.le_of_ble_eq_true rfl) (Nat.le_of_ble_eq_true rfl) (Or.inl ⟨rfl, hg, h0, h1⟩)
set_option maxRecDepth 100000 in
set_option maxHeartbeats 4000000 in
theorem ct_L_sendOn (l : Launch) (hl : l.stackTraces = false) (D : va_G) (cI cZ cL : ClassId) (ad : Nat → Nat) {K T : Nat} (M : MT) (k : Nat) (x : Int32) (hI : MI K T M) (hK4 : K + 4 ≤ 2048) (hk : k < mq_bc M) (hx : vp_in x (mq_fc M)) (h3 : mq_pl M k = 10 ∨ mq_pl M k = 11) : bh_Wi l D (wh_tys cI cZ cL) yL_sendOn wsL_sendOn ({ frames := 8, cells := 1, slots := 6, locals := 133 } : Room) [.ref (ad 0), .int (nI k), .int x] (wh_hall cI cZ ad M) (fun (r : Int32) (u : MT) => (u = mo_bring (mo_snd M k x) k r ∧ GO (mo_snd M k x) k r) ∨ (r = -3 ∧ M = u)) (fun u => wh_hall cI cZ ad u) 1 6 := by
  refine bh_ofWi (cc := cL_sendOn) (maxL := 4) (by decide +kernel) rfl (Nat.le_of_ble_eq_true rfl) ?_
  intro p e s m args below meth c A Q C hQ hE htab
  refine bh_eqlv (lv' := [(0, .ref (ad 0)), (1, .int (nI k)), (2, .int x)]) rfl ?_
  refine bh_aload_n C dL_sendOn_0 rfl 0 rfl ?_
  refine bh_iload_n C dL_sendOn_1 rfl 1 rfl ?_
  refine bh_iload_n C dL_sendOn_2 rfl 2 rfl ?_
  refine bh_zcalli (As := [.int (nI k), .int x]) C hE (ct_X0_sendOn l hl D cI cZ cL ad M (nI k) x hI hK4) (cwV 2 C.1.2.2.2.2 gL_sendOn_X0_sendOn rfl rfl rfl (by decide +kernel) ⟨Nat.le_of_ble_eq_true rfl, Nat.le_of_ble_eq_true rfl⟩) (ci := 0) rfl 0 rfl rfl rfl (Nat.le_of_ble_eq_true rfl) dL_sendOn_3 ⟨Nat.le_of_ble_eq_true rfl, Nat.le_of_ble_eq_true rfl⟩ (fun E hp => ?_) (fun r u hp => ?_)
  · rcases hp with ⟨rfl, hco⟩ | ⟨rfl, hco⟩
    · exact absurd hco (co_send_n1 (vp_in_nI hk (by have := MI_bc hI; omega)) hx)
    · refine bh_catch C hE htab (E := xe_S) (name := xe_S) [] ⟨0, 6, 7, 15⟩ [] rfl (fun z hz => absurd hz List.not_mem_nil) (by decide) (by decide) (by decide +kernel) (by decide) (fun q9 => ?_)
      refine bh_astore_n (lv' := [(3, .ref q9), (0, .ref (ad 0)), (1, .int (nI k)), (2, .int x)]) C dL_sendOn_7 rfl (by decide) rfl ?_
      refine bh_bipush (v := (-3)) C dL_sendOn_8 (by decide) ?_
      exact bh_zret C hQ dL_sendOn_10 M (v := (-3)) (w := wh_hall cI cZ ad M) rfl rfl (Nat.le_of_ble_eq_true rfl) (Nat.le_of_ble_eq_true rfl) (Or.inr ⟨rfl, rfl⟩)
  · skip
    have hb := MI_bc hI
    have hk9 : (nI k).toNatClampNeg = k := nI_clamp (by omega)
    have e1 := send_go h3 x
    have hr : r = mo_way (mo_snd M k x) (mq_bf (mo_snd M k x) k) := by rw [hp.2, hk9, e1]; exact bh_upd_same _ _ _
    rw [← hr] at e1
    exact bh_zret C hQ dL_sendOn_6 (mo_bring (mo_snd M k x) k r) (v := r) (w := wh_hall cI cZ ad (mo_route (mo_snd M (nI k).toNatClampNeg x) (nI k).toNatClampNeg)) (by rw [hk9, e1]) rfl (Nat.le_of_ble_eq_true rfl) (Nat.le_of_ble_eq_true rfl) (Or.inl ⟨rfl, by rw [hr]; exact GO_way _ _⟩)
