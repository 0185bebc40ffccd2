section
variable {K T : Nat} {M : MT}
theorem mo_cn_pos {f : Nat → Bool} {n j : Nat} (hj : j < n) (h : f j = true) : 0 < mo_cn f n := by
  induction n with
  | zero => exact absurd hj (by omega)
  | succ n ih =>
    simp only [mo_cn]
    rcases Nat.lt_succ_iff_lt_or_eq.mp hj with q | q
    · have := ih q; omega
    · rw [← q, h]; simp
theorem mo_phi_ge {f : Nat → Int32} {n j : Nat} (hj : j < n) : mo_phi1 (f j) ≤ mo_phi f n := by
  induction n with
  | zero => exact absurd hj (by omega)
  | succ n ih =>
    simp only [mo_phi]
    rcases Nat.lt_succ_iff_lt_or_eq.mp hj with q | q
    · have := ih q; omega
    · rw [← q]; omega
theorem bh_upd_same (f : Nat → Int32) (k : Nat) (v : Int32) : upd f k v k = v := if_pos rfl
theorem bh_upd_ne (f : Nat → Int32) {k j : Nat} (v : Int32) (h : j ≠ k) : upd f k v j = f j := if_neg h
theorem mo_phi_upd (f : Nat → Int32) (k : Nat) (v : Int32) (n : Nat) : (k < n → mo_phi (upd f k v) n + mo_phi1 (f k) = mo_phi f n + mo_phi1 v) ∧ (n ≤ k → mo_phi (upd f k v) n = mo_phi f n) := by
  induction n with
  | zero => exact ⟨fun h => absurd h (by omega), fun _ => rfl⟩
  | succ n ih =>
    simp only [mo_phi]
    refine ⟨fun h => ?_, fun h => ?_⟩
    · rcases Nat.lt_succ_iff_lt_or_eq.mp h with q | q
      · have := ih.1 q
        rw [bh_upd_ne f v (by omega : n ≠ k)]; omega
      · have := ih.2 (by omega)
        rw [← q, bh_upd_same]; rw [← q] at this; omega
    · rw [ih.2 (by omega), bh_upd_ne f v (by omega : n ≠ k)]
theorem mo_cn_upd (f : Nat → Int32) (k : Nat) (v x : Int32) (n : Nat) : (k < n → mo_cn (fun j => decide (upd f k v j = x)) n + (if f k = x then 1 else 0) = mo_cn (fun j => decide (f j = x)) n + (if v = x then 1 else 0)) ∧ (n ≤ k → mo_cn (fun j => decide (upd f k v j = x)) n = mo_cn (fun j => decide (f j = x)) n) := by
  induction n with
  | zero => exact ⟨fun h => absurd h (by omega), fun _ => rfl⟩
  | succ n ih =>
    simp only [mo_cn, decide_eq_true_eq]
    refine ⟨fun h => ?_, fun h => ?_⟩
    · rcases Nat.lt_succ_iff_lt_or_eq.mp h with q | q
      · have := ih.1 q
        rw [bh_upd_ne f v (by omega : n ≠ k)]; omega
      · have := ih.2 (by omega)
        rw [← q, bh_upd_same]; rw [← q] at this; omega
    · rw [ih.2 (by omega), bh_upd_ne f v (by omega : n ≠ k)]
theorem MI_bring {K2 : Nat} (hI : MI K T M) {k : Nat} (hk : k < mq_bc M) {q : Int32} (hq : vp_in q 12) (hKK : K ≤ K2) (hK2 : K2 ≤ 2048) (hphi : K + 1 + mo_phi1 q ≤ K2 + mo_phi1 (mq_pl M k)) (hsc : mq_sc M < 2048) : MI K2 T (mo_bring M k q) := by
  have hb := MI_bc hI
  have hn := MI_now2 hI
  have gn := MI_now hI
  obtain ⟨j0, hj0, ej0⟩ := vp_in_of (MI_pl hI k) (by decide)
  obtain ⟨j1, hj1, ej1⟩ := vp_in_of hq (by decide)
  have c0 : (mq_pl M k).toNatClampNeg = j0 := by rw [ej0]; exact nI_clamp (by omega)
  have c1 : q.toNatClampNeg = j1 := by rw [ej1]; exact nI_clamp (by omega)
  obtain ⟨a1, a2, a3, a4, a5, a6, a7, a8, a9, a10, a11, a12, a13, a14, a15, a16, a17⟩ := id hI
  refine ⟨a1, hb, a3, a4, fun i => ?_, fun i => ?_, a7, a8, fun a ha => ?_, fun i hi => ⟨?_, (a10 i hi).2⟩, fun i => ⟨?_, ?_, ?_⟩, fun i hi => ?_, a13, ?_, a15, hK2, a17⟩
  · show vp_in (upd (mq_pl M) k q i) 12
    unfold upd
    split
    · exact hq
    · exact MI_pl hI i
  · show vp_in (upd (mq_ls M) k (nI (mq_sc M)) i) 2048
    unfold upd
    split
    · exact vp_in_nI hsc (by decide)
    · exact MI_ls hI i
  · show upd (mo_at1 M k) q.toNatClampNeg (mo_at1 M k q.toNatClampNeg + 1) a = nI (mo_cn (fun j => decide (upd (mq_pl M) k q j = nI a)) 48)
    have hcnt := (mo_cn_upd (mq_pl M) k q (nI a) 48).1 (by omega)
    have e0 : (mq_pl M k = nI a) ↔ j0 = a := by rw [ej0]; exact nI_eq (by omega) (by omega)
    have e1 : (q = nI a) ↔ j1 = a := by rw [ej1]; exact nI_eq (by omega) (by omega)
    have hat : mq_at M a = nI (mo_cn (fun j => decide (mq_pl M j = nI a)) 48) := MI_at hI ha
    have h1 : mo_at1 M k a = nI (mo_cn (fun j => decide (mq_pl M j = nI a)) 48 - (if j0 = a then 1 else 0)) := by
      unfold mo_at1 upd
      rw [c0]
      by_cases z : a = j0
      · rw [if_pos z, if_pos z.symm, ← z, hat]
        have hp : 0 < mo_cn (fun j => decide (mq_pl M j = nI a)) 48 := mo_cn_pos (j := k) (by omega) (decide_eq_true (e0.mpr z.symm))
        obtain ⟨u, hu⟩ : ∃ u, mo_cn (fun j => decide (mq_pl M j = nI a)) 48 = u + 1 := ⟨_, (Nat.succ_pred_eq_of_pos hp).symm⟩
        rw [hu, nI_pred]; rfl
      · rw [if_neg z, if_neg (fun y => z y.symm), hat]; rfl
    rw [c1]
    by_cases z : a = j1
    · rw [← z, bh_upd_same, h1, nI_1]
      rw [if_pos (e1.mpr z.symm)] at hcnt
      congr 1
      by_cases y : j0 = a
      · have hp : 0 < mo_cn (fun j => decide (mq_pl M j = nI a)) 48 := mo_cn_pos (j := k) (by omega) (decide_eq_true (e0.mpr y))
        rw [if_pos (e0.mpr y)] at hcnt
        rw [if_pos y]; omega
      · rw [if_neg (fun z => y (e0.mp z))] at hcnt
        rw [if_neg y]; omega
    · rw [bh_upd_ne _ _ z, h1]
      rw [if_neg (fun y => z (e1.mp y).symm)] at hcnt
      congr 1
      by_cases y : j0 = a
      · rw [if_pos (e0.mpr y)] at hcnt
        rw [if_pos y]; omega
      · rw [if_neg (fun z => y (e0.mp z))] at hcnt
        rw [if_neg y]; omega
  · show upd (mq_pl M) k q i = 0
    have hi : mq_bc M ≤ i := hi
    rw [bh_upd_ne _ _ (by omega)]
    exact (MI_beyond hI hi).1
  · show vp_in (upd (mq_sb M) (mq_sc M) (nI k) i) 48
    unfold upd
    split
    · exact vp_in_nI (by omega) (by decide)
    · exact (MI_scan hI i).1
  · show vp_in (upd (mq_sp M) (mq_sc M) q i) 12
    unfold upd
    split
    · exact hq
    · exact (MI_scan hI i).2.1
  · show vp_in (upd (mq_st M) (mq_sc M) (nI (mq_now M)) i) 131072
    unfold upd
    split
    · exact vp_in_nI (by omega) (by decide)
    · exact (MI_scan hI i).2.2
  · show upd (mq_ca M) k (nI (mq_now M)) i = upd (mq_st M) (mq_sc M) (nI (mq_now M)) (upd (mq_ls M) k (nI (mq_sc M)) i).toNatClampNeg ∧ (upd (mq_ls M) k (nI (mq_sc M)) i).toNatClampNeg < mq_sc M + 1
    by_cases z : i = k
    · subst z
      rw [bh_upd_same, bh_upd_same, nI_clamp (by omega), bh_upd_same]
      exact ⟨rfl, by omega⟩
    · have hi2 : upd (mq_pl M) k q i ≠ 0 := hi
      rw [bh_upd_ne _ _ z] at hi2
      obtain ⟨g1, g2⟩ := MI_ca hI hi2
      rw [bh_upd_ne _ _ z, bh_upd_ne _ _ z, bh_upd_ne _ _ (by omega)]
      exact ⟨g1, by omega⟩
  · show mq_sc M + 1 + mo_phi (upd (mq_pl M) k q) 48 ≤ K2
    have := (mo_phi_upd (mq_pl M) k q 48).1 (by omega)
    have := MI_phi hI
    omega
theorem MI_room (hI : MI K T M) {k : Nat} (hk : k < 48) (h : mo_phi1 (mq_pl M k) ≠ 0) : mq_sc M < 2048 := by
  have := MI_phi hI
  have := MI_K hI
  have := mo_phi_ge (f := mq_pl M) hk
  omega
theorem mo_phi1_le (q : Int32) : mo_phi1 q ≤ 3 := by
  unfold mo_phi1
  split
  · omega
  · split
    · omega
    · split <;> omega
end
section
variable {K T : Nat} {M : MT}
theorem MI_at5 (h : MI K T M) : mq_at M (5 : Int32).toNatClampNeg = nI (mo_at M 5) := by
  rw [show (5 : Int32).toNatClampNeg = 5 from by decide +kernel, MI_at h (by decide), show nI 5 = 5 from by decide +kernel]
theorem MI_at6 (h : MI K T M) : mq_at M (6 : Int32).toNatClampNeg = nI (mo_at M 6) := by
  rw [show (6 : Int32).toNatClampNeg = 6 from by decide +kernel, MI_at h (by decide), show nI 6 = 6 from by decide +kernel]
theorem mo_cn_le (f : Nat → Bool) (n : Nat) : mo_cn f n ≤ n := by
  induction n with
  | zero => exact Nat.le_refl _
  | succ n ih => simp only [mo_cn]; split <;> omega
theorem mo_at_le (M : MT) (p : Int32) : mo_at M p ≤ 48 := mo_cn_le _ _
theorem mo_first_or (M : MT) (n : Nat) : mo_first M n = -1 ∨ ∃ j, j < n ∧ mo_first M n = nI j ∧ mq_pl M j = 5 := by
  induction n with
  | zero => exact Or.inl rfl
  | succ n ih =>
    simp only [mo_first]
    split
    · rename_i z
      exact Or.inr ⟨n, by omega, rfl, z.1.1⟩
    · rcases ih with z | ⟨j, h1, h2, h3⟩
      · exact Or.inl z
      · exact Or.inr ⟨j, by omega, h2, h3⟩
theorem mo_first_none (hI : MI K T M) (h : mo_at M 5 = 0) : mo_first M (mq_bc M) = -1 := by
  rcases mo_first_or M (mq_bc M) with z | ⟨j, h1, -, h3⟩
  · exact z
  · have hb := MI_bc hI
    have : 0 < mo_at M 5 := mo_cn_pos (j := j) (by omega) (decide_eq_true h3)
    omega
theorem mo_emp_none (h : mo_first M (mq_bc M) = -1) : mo_emp M = M := if_pos h
theorem mo_emp_some {j : Nat} (hj : j < 48) (h : mo_first M (mq_bc M) = nI j) : mo_emp M = mo_bring M j 7 := by
  have hne : ¬ mo_first M (mq_bc M) = -1 := by
    rw [h]
    intro z
    exact nI_pos (n := j) (by omega) (by rw [z]; decide)
  unfold mo_emp
  rw [if_neg hne, h, nI_clamp (by omega)]
theorem MI_emp (hI : MI K T M) : MI K T (mo_emp M) := by
  rcases mo_first_or M (mq_bc M) with z | ⟨j, h1, h2, h3⟩
  · rw [mo_emp_none z]; exact hI
  · have hb := MI_bc hI
    rw [mo_emp_some (by omega) h2]
    refine MI_bring hI h1 (vp_in_nI (n := 7) (by decide) (by decide)) (Nat.le_refl _) (MI_K hI) ?_ (MI_room hI (k := j) (by omega) (by rw [h3]; decide))
    rw [h3, show mo_phi1 7 = 1 from by decide, show mo_phi1 5 = 2 from by decide]
    omega
theorem bc_emp (M : MT) : mq_bc (mo_emp M) = mq_bc M := by
  unfold mo_emp
  split <;> rfl
theorem MI_tick (hI : MI K T M) (hT : T + 1 ≤ 102400) : MI K (T + 1) (mo_tick M) := by
  have h1 := MI_now hI
  have gp := MI_phi hI
  obtain ⟨a1, a2, a3, a4, a5, a6, a7, a8, a9, a10, a11, a12, a13, a14, a15, a16, a17⟩ := id hI
  exact ⟨a1, a2, a3, a4, a5, a6, a7, a8, a9, a10, a11, a12, a13, a14, (show mq_now M + 1 ≤ T + 1 by omega), a16, hT⟩
theorem mo_way_or (M : MT) (x : Int32) : mo_way M x = 11 ∨ mo_way M x = 7 ∨ mo_way M x = 5 ∨ mo_way M x = 6 := by
  unfold mo_way
  split
  · exact Or.inl rfl
  · split
    · exact Or.inr (Or.inl rfl)
    · split
      · exact Or.inr (Or.inr (Or.inl rfl))
      · exact Or.inr (Or.inr (Or.inr rfl))
theorem mo_way_in (M : MT) (x : Int32) : vp_in (mo_way M x) 12 := by
  rcases mo_way_or M x with z | z | z | z <;> rw [z]
  · exact vp_in_nI (n := 11) (by decide) (by decide)
  · exact vp_in_nI (n := 7) (by decide) (by decide)
  · exact vp_in_nI (n := 5) (by decide) (by decide)
  · exact vp_in_nI (n := 6) (by decide) (by decide)
theorem MI_route1 (hI : MI K T M) {k : Nat} (hk : k < mq_bc M) (h : mq_pl M k = 6) : MI K T (mo_route M k) := by
  have hb := MI_bc hI
  unfold mo_route
  split
  · exact hI
  · rename_i z
    have hw : mo_way M (mq_bf M k) ≠ 6 := fun y => z ⟨y, h⟩
    refine MI_bring hI hk (mo_way_in _ _) (Nat.le_refl _) (MI_K hI) ?_ (MI_room hI (k := k) (by omega) (by rw [h]; decide))
    rw [h, show mo_phi1 6 = 3 from by decide]
    rcases mo_way_or M (mq_bf M k) with y | y | y | y
    · rw [y, show mo_phi1 11 = 0 from by decide]; omega
    · rw [y, show mo_phi1 7 = 1 from by decide]; omega
    · rw [y, show mo_phi1 5 = 2 from by decide]; omega
    · exact absurd y hw
theorem bc_route (M : MT) (k : Nat) : mq_bc (mo_route M k) = mq_bc M := by
  unfold mo_route
  split <;> rfl
theorem fc_route (M : MT) (k : Nat) : mq_fc (mo_route M k) = mq_fc M := by
  unfold mo_route
  split <;> rfl
theorem bc_loop (M : MT) (n : Nat) : mq_bc (mo_it mo_loop1 M n) = mq_bc M := by
  induction n with
  | zero => rfl
  | succ n ih =>
    show mq_bc (mo_loop1 (mo_it mo_loop1 M n) n) = mq_bc M
    unfold mo_loop1
    split
    · rw [bc_route]; exact ih
    · exact ih
theorem bc_settle (M : MT) (k : Nat) : mq_bc (mo_settle M k) = mq_bc M := by
  unfold mo_settle
  split
  · split <;> rfl
  · split <;> rfl
theorem fc_settle (M : MT) (k : Nat) : mq_fc (mo_settle M k) = mq_fc M := by
  unfold mo_settle
  split
  · split <;> rfl
  · split <;> rfl
theorem MI_settle (hI : MI K T M) {k : Nat} (hk : k < mq_bc M) : MI K T (mo_settle M k) := by
  have hb := MI_bc hI
  unfold mo_settle
  split
  · rename_i z
    have hr := MI_room hI (k := k) (by omega) (by rw [z]; decide)
    split
    · refine MI_bring hI hk (vp_in_nI (n := 9) (by decide) (by decide)) (Nat.le_refl _) (MI_K hI) ?_ hr
      rw [z, show mo_phi1 9 = 0 from by decide, show mo_phi1 8 = 1 from by decide]; omega
    · refine MI_bring hI hk (vp_in_nI (n := 10) (by decide) (by decide)) (Nat.le_refl _) (MI_K hI) ?_ hr
      rw [z, show mo_phi1 10 = 0 from by decide, show mo_phi1 8 = 1 from by decide]; omega
  · split
    · rename_i z
      have hz : 1 ≤ mo_phi1 (mq_pl M k) := by
        rcases z with z | z | z <;> rw [z] <;> decide
      refine MI_bring hI hk (vp_in_nI (n := 11) (by decide) (by decide)) (Nat.le_refl _) (MI_K hI) ?_ (MI_room hI (k := k) (by omega) (by omega))
      rw [show mo_phi1 11 = 0 from by decide]; omega
    · exact hI
theorem MI_loop (hI : MI K T M) {n : Nat} (hn : n ≤ mq_bc M) : MI K T (mo_it mo_loop1 M n) := by
  induction n with
  | zero => exact hI
  | succ n ih =>
    have ih := ih (by omega)
    show MI K T (mo_loop1 (mo_it mo_loop1 M n) n)
    unfold mo_loop1
    split
    · rename_i z
      exact MI_route1 ih (by rw [bc_loop]; omega) z
    · exact ih
theorem mo_loop_none (hI : MI K T M) (h : mo_at M 6 = 0) : mo_loop M = M := by
  have hb := MI_bc hI
  have hne : ∀ j, j < 48 → mq_pl M j ≠ 6 := fun j hj z => by
    have : 0 < mo_at M 6 := mo_cn_pos (j := j) hj (decide_eq_true z)
    omega
  have : ∀ n, n ≤ 48 → mo_it mo_loop1 M n = M := by
    intro n
    induction n with
    | zero => exact fun _ => rfl
    | succ n ih =>
      intro hn
      show mo_loop1 (mo_it mo_loop1 M n) n = M
      rw [ih (by omega)]
      exact if_neg (hne n (by omega))
  exact this _ hb
theorem bc_sbags (f : Int32) (M : MT) (n : Nat) : mq_bc (mo_it (mo_sbag f) M n) = mq_bc M := by
  induction n with
  | zero => rfl
  | succ n ih =>
    show mq_bc (mo_sbag f (mo_it (mo_sbag f) M n) n) = mq_bc M
    unfold mo_sbag
    split
    · rw [bc_settle]; exact ih
    · exact ih
theorem fc_sbags (f : Int32) (M : MT) (n : Nat) : mq_fc (mo_it (mo_sbag f) M n) = mq_fc M := by
  induction n with
  | zero => rfl
  | succ n ih =>
    show mq_fc (mo_sbag f (mo_it (mo_sbag f) M n) n) = mq_fc M
    unfold mo_sbag
    split
    · rw [fc_settle]; exact ih
    · exact ih
theorem MI_sbags (hI : MI K T M) (f : Int32) {n : Nat} (hn : n ≤ mq_bc M) : MI K T (mo_it (mo_sbag f) M n) := by
  induction n with
  | zero => exact hI
  | succ n ih =>
    have ih := ih (by omega)
    show MI K T (mo_sbag f (mo_it (mo_sbag f) M n) n)
    unfold mo_sbag
    split
    · exact MI_settle ih (by rw [bc_sbags]; omega)
    · exact ih
theorem MI_dep1 (hI : MI K T M) (n : Nat) : MI K T (mo_it mo_dep1 M n) := by
  induction n with
  | zero => exact hI
  | succ n ih =>
    show MI K T (mo_dep1 (mo_it mo_dep1 M n) n)
    unfold mo_dep1
    split
    · exact MI_sbags ih _ (Nat.le_refl _)
    · exact ih
theorem fc_dep1 (M : MT) (n : Nat) : mq_fc (mo_it mo_dep1 M n) = mq_fc M := by
  induction n with
  | zero => rfl
  | succ n ih =>
    show mq_fc (mo_dep1 (mo_it mo_dep1 M n) n) = mq_fc M
    unfold mo_dep1
    split
    · rw [fc_sbags]; exact ih
    · exact ih
theorem mo_way_a {x : Int32} (h : mo_closed M x) : mo_way M x = 11 := if_pos (Or.inl h)
theorem mo_way_b {x : Int32} (h : mq_lat M x.toNatClampNeg = -1) : mo_way M x = 11 := if_pos (Or.inr h)
theorem mo_way_7 {x : Int32} (h1 : ¬ mo_closed M x) (h2 : ¬ mq_lat M x.toNatClampNeg = -1) (h3 : mo_opened M x) : mo_way M x = 7 := (if_neg (fun z => z.elim h1 h2)).trans (if_pos h3)
theorem mo_way_5 {x : Int32} (h1 : ¬ mo_closed M x) (h2 : ¬ mq_lat M x.toNatClampNeg = -1) (h3 : ¬ mo_opened M x) (h4 : mo_at M 5 < 8) : mo_way M x = 5 := (if_neg (fun z => z.elim h1 h2)).trans ((if_neg h3).trans (if_pos h4))
theorem mo_way_6 {x : Int32} (h1 : ¬ mo_closed M x) (h2 : ¬ mq_lat M x.toNatClampNeg = -1) (h3 : ¬ mo_opened M x) (h4 : 8 ≤ mo_at M 5) : mo_way M x = 6 := (if_neg (fun z => z.elim h1 h2)).trans ((if_neg h3).trans (if_neg (Nat.not_lt.mpr h4)))
end
section
variable {K T : Nat} {M : MT}
theorem mo_first_in (M : MT) (k : Nat) (h : ¬ mo_first M k = -1) (hk : k ≤ 48) : vp_in (mo_first M k) 48 := by
  rcases mo_first_or M k with q | ⟨j, hj, q, -⟩
  · exact absurd q h
  · rw [q]; exact vp_in_nI (by omega) (by decide)
theorem bh_nI0 {n : Nat} (hn : n < 2 ^ 31) (h : nI n = 0) : n = 0 := (nI_eq hn (by decide)).mp (h.trans nI_0.symm)
theorem bh_nm1 {n : Nat} (hn : n < 2 ^ 31) : ¬ nI n = -1 := fun h => nI_pos hn (by rw [h]; decide)
theorem mo_first_phi {j n : Nat} (h : mo_first M n = nI j) (hj : j < 48) (hn : n ≤ 48) : mo_phi1 (mq_pl M j) ≠ 0 := by
  rcases mo_first_or M n with q | ⟨i, hi, q, e⟩
  · exact absurd (h.symm.trans q) (bh_nm1 (by omega))
  · have := (nI_eq (by omega) (by omega)).mp (h.symm.trans q)
    rw [this, e]; decide
theorem mo_settle_9 {k : Nat} (h : mq_pl M k = 8) (h2 : mo_fly M k) : mo_settle M k = mo_bring M k 9 := (if_pos h).trans (if_pos h2)
theorem mo_settle_10 {k : Nat} (h : mq_pl M k = 8) (h2 : ¬ mo_fly M k) : mo_settle M k = mo_bring M k 10 := (if_pos h).trans (if_neg h2)
theorem mo_settle_11 {k : Nat} (h : ¬ mq_pl M k = 8) (h2 : mq_pl M k = 5 ∨ mq_pl M k = 6 ∨ mq_pl M k = 7) : mo_settle M k = mo_bring M k 11 := (if_neg h).trans (if_pos h2)
theorem mo_settle_0 {k : Nat} (h : ¬ mq_pl M k = 8) (h2 : ¬ (mq_pl M k = 5 ∨ mq_pl M k = 6 ∨ mq_pl M k = 7)) : mo_settle M k = M := (if_neg h).trans (if_neg h2)
theorem MI_empt (hI : MI K T M) : MI K T (mo_empt M) := MI_emp (MI_emp (MI_emp hI))
theorem MI_loopA (hI : MI K T M) : MI K T (mo_loop M) := MI_loop hI (Nat.le_refl _)
end
/-- which exception a call ends with: 0 none, else its place in the throws clause -/
def mo_in (x : Int32) (n : Nat) : Bool := decide (¬ x < 0) && decide (x.toNatClampNeg < n)
theorem mo_in_iff {x : Int32} {n : Nat} : mo_in x n = true ↔ vp_in x n := by
  simp only [mo_in, Bool.and_eq_true, decide_eq_true_eq, vp_in, not_or, Nat.not_le]
theorem mo_in_t {x : Int32} {n : Nat} (h : vp_in x n) : mo_in x n = true := mo_in_iff.mpr h
theorem mo_in_f {x : Int32} {n : Nat} (h : ¬ vp_in x n) : ¬ mo_in x n = true := fun q => h (mo_in_iff.mp q)
def co_in (x : Int32) (n : Nat) : Int32 := if mo_in x n = true then 0 else 1
theorem co_in0 {x : Int32} {n : Nat} (h : vp_in x n) : co_in x n = 0 := if_pos (mo_in_t h)
theorem co_in1 {x : Int32} {n : Nat} (h : ¬ vp_in x n) : co_in x n = 1 := if_neg (mo_in_f h)
def co_add (M : MT) (x : Int32) : Int32 := if x < 1 ∨ 1000 < x then 1 else if 10 ≤ mq_fc M then 2 else 0
def co_pass (x : Int32) : Int32 := if x < 1 ∨ 200 < x then 1 else 0
def co_count (x : Int32) : Int32 := if x < 1 ∨ 11 < x then 1 else 0
def co_take (M : MT) (x r : Int32) : Int32 := if mo_in x (mq_fc M) = true ∧ mo_in r 40 = true then (if 48 ≤ mq_bc M ∨ mq_dep M x.toNatClampNeg ≤ nI (mq_now M) then 2 else 0) else 1
def co_deci (M : MT) (b : Int32) : Int32 := if mo_in b (mq_bc M) = true then (if ¬ (mq_pl M b.toNatClampNeg = 1 ∨ mq_pl M b.toNatClampNeg = 2 ∨ mq_pl M b.toNatClampNeg = 3) ∨ nI (mq_now M) - mq_ca M b.toNatClampNeg < mo_dt (mq_pl M b.toNatClampNeg) then 2 else 0) else 1
def co_place (M : MT) (b q : Int32) : Int32 := if mo_in b (mq_bc M) = true then (if mq_pl M b.toNatClampNeg = q then 0 else 2) else 1
def co_send (M : MT) (b x : Int32) : Int32 := if mo_in b (mq_bc M) = true ∧ mo_in x (mq_fc M) = true then (if ¬ (mq_pl M b.toNatClampNeg = 10 ∨ mq_pl M b.toNatClampNeg = 11) ∨ mq_dep M x.toNatClampNeg ≤ nI (mq_now M) then 2 else 0) else 1
def co_pbs (M : MT) (b t : Int32) : Int32 := if mo_in b (mq_bc M) = true then (if t < 0 ∨ nI (mq_now M) < t then 2 else 0) else 1
/-- E is the first, or the second, of the throws clause, as the number says -/
def mo_px (E1 E2 : String) (c : Int32) (E : String) : Prop := (E = E1 ∧ c = 1) ∨ (E = E2 ∧ c = 2)
def mo_dec (M : MT) (k : Nat) (z : Int32) : MT := if z = 0 then mo_bring M k (mo_nx (mq_pl M k)) else mo_route M k
def mo_snd (M : MT) (k : Nat) (f : Int32) : MT := (mq_now M, mq_fc M, mq_bc M, mq_sc M, mq_dep M, mq_lat M, mq_brd M, upd (mq_bf M) k f, mq_br M, upd (mq_pu M) k 1, mq_pl M, mq_ls M, mq_ca M, mq_at M, mq_sb M, mq_sp M, mq_st M)
def mo_board (M : MT) (x z : Int32) : MT := (mq_now M, mq_fc M, mq_bc M, mq_sc M, mq_dep M, mq_lat M, upd (mq_brd M) x.toNatClampNeg z, mq_bf M, mq_br M, mq_pu M, mq_pl M, mq_ls M, mq_ca M, mq_at M, mq_sb M, mq_sp M, mq_st M)
section
variable {K T : Nat} {M : MT}
theorem MI_phi0 (hI : MI K T M) : mq_sc M ≤ K := Nat.le_trans (Nat.le_add_right _ _) (MI_phi hI)
theorem MI_minute (hI : MI K T M) (hT : T + 1 ≤ 102400) : MI K (T + 1) (mo_minute M) := MI_dep1 (MI_loopA (MI_empt (MI_tick hI hT))) _
theorem mo_it_s (f : MT → Nat → MT) (M : MT) (n : Nat) : mo_it f M (n + 1) = f (mo_it f M n) n := rfl
theorem mo_pass_s (M : MT) (n : Nat) : mo_pass M (n + 1) = mo_minute (mo_pass M n) := by
  unfold mo_pass
  rw [mo_it_s]
theorem mo_loop_t {k : Nat} (h : mq_pl (mo_it mo_loop1 M k) k = 6) : mo_it mo_loop1 M (k + 1) = mo_route (mo_it mo_loop1 M k) k := by
  rw [mo_it_s, mo_loop1, if_pos h]
theorem mo_loop_f {k : Nat} (h : ¬ mq_pl (mo_it mo_loop1 M k) k = 6) : mo_it mo_loop1 M (k + 1) = mo_it mo_loop1 M k := by
  rw [mo_it_s, mo_loop1, if_neg h]
theorem mo_sbag_t {f : Int32} {k : Nat} (h : mq_bf (mo_it (mo_sbag f) M k) k = f) : mo_it (mo_sbag f) M (k + 1) = mo_settle (mo_it (mo_sbag f) M k) k := by
  rw [mo_it_s, mo_sbag, if_pos h]
theorem mo_sbag_f {f : Int32} {k : Nat} (h : ¬ mq_bf (mo_it (mo_sbag f) M k) k = f) : mo_it (mo_sbag f) M (k + 1) = mo_it (mo_sbag f) M k := by
  rw [mo_it_s, mo_sbag, if_neg h]
theorem mo_dep_t {k : Nat} (h : mq_dep (mo_it mo_dep1 M k) k = nI (mq_now (mo_it mo_dep1 M k))) : mo_it mo_dep1 M (k + 1) = mo_it (mo_sbag (nI k)) (mo_it mo_dep1 M k) (mq_bc (mo_it mo_dep1 M k)) := by
  rw [mo_it_s, mo_dep1, if_pos h]
theorem mo_dep_f {k : Nat} (h : ¬ mq_dep (mo_it mo_dep1 M k) k = nI (mq_now (mo_it mo_dep1 M k))) : mo_it mo_dep1 M (k + 1) = mo_it mo_dep1 M k := by
  rw [mo_it_s, mo_dep1, if_neg h]
theorem MI_pass (hI : MI K T M) (hT : T + 200 ≤ 102400) {k : Nat} (hk : k ≤ 200) : MI K (T + k) (mo_pass M k) := by
  have key : ∀ n, n ≤ 200 → MI K (T + n) (mo_pass M n) := by
    intro n
    induction n with
    | zero => exact fun _ => hI
    | succ n ih =>
      intro hn
      have g := MI_minute (ih (by omega)) (by omega)
      rw [← mo_pass_s] at g
      exact g
  exact key k hk
theorem MI_take (hI : MI K T M) {x r : Int32} (hx : vp_in x 10) (hr : vp_in r 40) (hb : mq_bc M < 48) : MI K T (mo_take M x r) := by
  have hz := MI_beyond hI (Nat.le_refl (mq_bc M))
  have gn := MI_now hI
  have gp := MI_phi hI
  have e : upd (mq_pl M) (mq_bc M) 0 = mq_pl M := funext fun i => by
    unfold upd
    split
    · rename_i z
      rw [z]; exact hz.1.symm
    · rfl
  have hpl : mq_pl (mo_take M x r) = mq_pl M := e
  obtain ⟨a1, a2, a3, a4, a5, a6, a7, a8, a9, a10, a11, a12, a13, a14, a15, a16, a17⟩ := id hI
  refine ⟨a1, hb, fun i => ?_, fun i => ?_, fun i => ?_, a6, a7, a8, fun q hq => ?_, fun i hi => ?_, a11, fun i hi => ?_, a13, ?_, a15, a16, a17⟩
  · show vp_in (upd (mq_bf M) (mq_bc M) x i) 10
    unfold upd
    split
    · exact hx
    · exact MI_bf hI i
  · show vp_in (upd (mq_br M) (mq_bc M) r i) 40
    unfold upd
    split
    · exact hr
    · exact MI_br hI i
  · rw [hpl]; exact MI_pl hI i
  · show mq_at M q = nI (mo_cn (fun j => decide (mq_pl (mo_take M x r) j = nI q)) 48)
    rw [hpl]; exact MI_at hI hq
  · rw [hpl]
    have hi2 : mq_bc M + 1 ≤ i := hi
    exact MI_beyond hI (by omega)
  · rw [hpl] at hi
    exact MI_ca hI hi
  · rw [hpl]; exact gp
theorem MI_bringC (hI : MI K T M) {k : Nat} (hk : k < mq_bc M) {q : Int32} (hq : vp_in q 12) (hK : K + 4 ≤ 2048) : MI (K + 4) T (mo_bring M k q) := by
  have h1 := MI_phi0 hI
  have h2 := mo_phi1_le q
  exact MI_bring hI hk hq (by omega) hK (by omega) (by omega)
theorem MI_send (hI : MI K T M) {k : Nat} (hk : k < mq_bc M) {f : Int32} (hf : vp_in f 10) : MI K T (mo_snd M k f) := by
  have gn := MI_now hI
  have gp := MI_phi hI
  obtain ⟨a1, a2, a3, a4, a5, a6, a7, a8, a9, a10, a11, a12, a13, a14, a15, a16, a17⟩ := id hI
  refine ⟨a1, a2, fun i => ?_, a4, a5, a6, fun i => ?_, a8, a9, fun i hi => ⟨(a10 i hi).1, ?_⟩, a11, a12, a13, a14, a15, a16, a17⟩
  · show vp_in (upd (mq_bf M) k f i) 10
    unfold upd
    split
    · exact hf
    · exact MI_bf hI i
  · show upd (mq_pu M) k 1 i = 0 ∨ upd (mq_pu M) k 1 i = 1
    unfold upd
    split
    · exact Or.inr rfl
    · exact MI_pu hI i
  · show upd (mq_pu M) k 1 i = 0
    have hi2 : mq_bc M ≤ i := hi
    rw [bh_upd_ne _ _ (by omega)]
    exact (MI_beyond hI hi).2
theorem mo_nx_in (q : Int32) : vp_in (mo_nx q) 12 := by
  unfold mo_nx
  split
  · exact vp_in_nI (n := 2) (by decide) (by decide)
  · split
    · exact vp_in_nI (n := 3) (by decide) (by decide)
    · exact vp_in_nI (n := 4) (by decide) (by decide)
theorem bh_dIn {n : Nat} {x : Int32} (hn : n ≤ 102400) (h1 : ¬ x < 1) (h2 : x ≤ 1000) : vp_in (nI n + x) 200000 := by
  rw [vp_in_iff, Int32.toInt_add]
  rw [Int32.lt_iff_toInt_lt] at h1
  rw [Int32.le_iff_toInt_le] at h2
  have e1 : (1 : Int32).toInt = 1 := by decide
  have e2 : (1000 : Int32).toInt = 1000 := by decide
  rw [e1] at h1
  rw [e2] at h2
  rw [nI_toInt (by omega), Int.bmod_eq_of_le (by omega) (by omega)]
  omega
theorem bh_rng {x : Int32} {n : Nat} (hn : n < 2 ^ 31) (h1 : ¬ x < 1) (h2 : x ≤ nI n) : ∃ k : Nat, k ≤ n ∧ 1 ≤ k ∧ x = nI k := by
  rw [Int32.lt_iff_toInt_lt, show (1 : Int32).toInt = 1 from by decide] at h1
  rw [Int32.le_iff_toInt_le, nI_toInt hn] at h2
  obtain ⟨j, hj, rfl⟩ := nI_of (x := x) (by rw [Int32.lt_iff_toInt_lt, Int32.toInt_zero]; omega)
  rw [nI_toInt hj] at h1 h2
  exact ⟨j, by omega, by omega, rfl⟩
theorem bh_inW {x : Int32} {a b : Nat} (h : vp_in x a) (hab : a ≤ b) : vp_in x b := by
  rw [vp_in_iff] at h ⊢
  omega
theorem bh_nle3 {a b : Int32} (h : ¬ a ≤ b) : b < a := Int32.not_le.mp h
theorem mo_pbs_1 {b t : Int32} {k : Nat} (h1 : mq_sb M k = b) (h2 : mq_st M k ≤ t) : mo_pbs M b t (k + 1) = mq_sp M k := if_pos ⟨h1, h2⟩
theorem mo_pbs_0 {b t : Int32} {k : Nat} (h : ¬ (mq_sb M k = b ∧ mq_st M k ≤ t)) : mo_pbs M b t (k + 1) = mo_pbs M b t k := if_neg h
end
section
variable {K T : Nat} {M : MT}
theorem co_take1 {x r : Int32} (h : ¬ (vp_in x (mq_fc M) ∧ vp_in r 40)) : co_take M x r = 1 := if_neg (fun z => h ⟨mo_in_iff.mp z.1, mo_in_iff.mp z.2⟩)
theorem co_take2 {x r : Int32} (h1 : vp_in x (mq_fc M)) (h2 : vp_in r 40) (h : 48 ≤ mq_bc M ∨ mq_dep M x.toNatClampNeg ≤ nI (mq_now M)) : co_take M x r = 2 := (if_pos ⟨mo_in_t h1, mo_in_t h2⟩).trans (if_pos h)
theorem co_take0 {x r : Int32} (h1 : vp_in x (mq_fc M)) (h2 : vp_in r 40) (h3 : mq_bc M < 48) (h4 : nI (mq_now M) < mq_dep M x.toNatClampNeg) : co_take M x r = 0 := (if_pos ⟨mo_in_t h1, mo_in_t h2⟩).trans (if_neg (fun z => z.elim (fun q => absurd q (by omega)) (fun q => absurd h4 (Int32.not_lt.mpr q))))
theorem co_deci2 {b : Int32} (h1 : vp_in b (mq_bc M)) (h : ¬ (mq_pl M b.toNatClampNeg = 1 ∨ mq_pl M b.toNatClampNeg = 2 ∨ mq_pl M b.toNatClampNeg = 3) ∨ nI (mq_now M) - mq_ca M b.toNatClampNeg < mo_dt (mq_pl M b.toNatClampNeg)) : co_deci M b = 2 := (if_pos (mo_in_t h1)).trans (if_pos h)
theorem co_deci0 {b : Int32} (h1 : vp_in b (mq_bc M)) (h2 : mq_pl M b.toNatClampNeg = 1 ∨ mq_pl M b.toNatClampNeg = 2 ∨ mq_pl M b.toNatClampNeg = 3) (h3 : mo_dt (mq_pl M b.toNatClampNeg) ≤ nI (mq_now M) - mq_ca M b.toNatClampNeg) : co_deci M b = 0 := (if_pos (mo_in_t h1)).trans (if_neg (fun z => z.elim (fun q => q h2) (fun q => absurd h3 (Int32.not_le.mpr q))))
theorem co_place2 {b q : Int32} (h1 : vp_in b (mq_bc M)) (h : mq_pl M b.toNatClampNeg ≠ q) : co_place M b q = 2 := (if_pos (mo_in_t h1)).trans (if_neg h)
theorem co_place0 {b q : Int32} (h1 : vp_in b (mq_bc M)) (h : mq_pl M b.toNatClampNeg = q) : co_place M b q = 0 := (if_pos (mo_in_t h1)).trans (if_pos h)
theorem co_send2 {b x : Int32} (h1 : vp_in b (mq_bc M)) (h2 : vp_in x (mq_fc M)) (h : ¬ (mq_pl M b.toNatClampNeg = 10 ∨ mq_pl M b.toNatClampNeg = 11) ∨ mq_dep M x.toNatClampNeg ≤ nI (mq_now M)) : co_send M b x = 2 := (if_pos ⟨mo_in_t h1, mo_in_t h2⟩).trans (if_pos h)
theorem co_send0 {b x : Int32} (h1 : vp_in b (mq_bc M)) (h2 : vp_in x (mq_fc M)) (h3 : mq_pl M b.toNatClampNeg = 10 ∨ mq_pl M b.toNatClampNeg = 11) (h4 : nI (mq_now M) < mq_dep M x.toNatClampNeg) : co_send M b x = 0 := (if_pos ⟨mo_in_t h1, mo_in_t h2⟩).trans (if_neg (fun z => z.elim (fun q => q h3) (fun q => absurd h4 (Int32.not_lt.mpr q))))
theorem co_pbs2 {b t : Int32} (h1 : vp_in b (mq_bc M)) (h : t < 0 ∨ nI (mq_now M) < t) : co_pbs M b t = 2 := (if_pos (mo_in_t h1)).trans (if_pos h)
theorem co_pbs0 {b t : Int32} (h1 : vp_in b (mq_bc M)) (h2 : ¬ t < 0) (h3 : t ≤ nI (mq_now M)) : co_pbs M b t = 0 := (if_pos (mo_in_t h1)).trans (if_neg (fun z => z.elim h2 (fun q => absurd h3 (Int32.not_le.mpr q))))
theorem bh_nar {z : Int32} (h : z = 0 ∨ z = 1) : vp_nar .boolean z = z := by rcases h with rfl | rfl <;> decide +kernel
theorem bh_nar2 {z : Int32} (h : z = 0 ∨ z = 1) : narrow .boolean (.int z) = .int z := by rcases h with rfl | rfl <;> decide +kernel
theorem bh_cntIn {x : Int32} (h1 : ¬ x < 1) (h2 : x ≤ 11) : vp_in x 12 := by
  obtain ⟨j, h3, -, rfl⟩ := bh_rng (n := 11) (by decide) h1 h2
  exact vp_in_nI (by omega) (by decide)
theorem mo_cn_ext {f g : Nat → Bool} {n : Nat} (h : ∀ j, j < n → f j = g j) : mo_cn f n = mo_cn g n := by
  induction n with
  | zero => rfl
  | succ n ih =>
    simp only [mo_cn]
    rw [ih (fun j hj => h j (by omega)), h n (by omega)]
theorem mo_cn_cut {f : Nat → Bool} {a : Nat} (n : Nat) (h : ∀ j, a ≤ j → f j = false) : mo_cn f (a + n) = mo_cn f a := by
  induction n with
  | zero => rfl
  | succ n ih => rw [← Nat.add_assoc]; simp only [mo_cn]; rw [ih, h (a + n) (by omega)]; rfl
theorem MI_cn (hI : MI K T M) {x : Int32} (hx : x ≠ 0) : mo_at M x = mo_cn (fun j => decide (mq_pl M j = x)) (mq_bc M) := by
  have hb := MI_bc hI
  have := mo_cn_cut (f := fun j => decide (mq_pl M j = x)) (a := mq_bc M) (48 - mq_bc M) (fun j hj => by rw [(MI_beyond hI hj).1]; exact decide_eq_false (fun q => hx q.symm))
  rw [show mq_bc M + (48 - mq_bc M) = 48 by omega] at this
  exact this
theorem MI_count (hI : MI K T M) {x : Int32} (h1 : ¬ x < 1) (h2 : x ≤ 11) : mq_at M x.toNatClampNeg = nI (mo_cn (fun j => decide (mq_pl M j = x)) (mq_bc M)) := by
  obtain ⟨j, h3, h4, rfl⟩ := bh_rng (n := 11) (by decide) h1 h2
  rw [nI_clamp (by omega), MI_at hI (by omega), MI_cn hI (nI_ne0 (by omega) (by omega))]
end
