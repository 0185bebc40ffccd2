section
variable {K T : Nat} {M : MT}
theorem MI_at5 (h : MI K T M) : mq_at M (5 : Int32).toNatClampNeg = nI (mo_at M 5) := by
  rw [show (5 : Int32).toNatClampNeg = 5 from by decide +kernel, MI_at h (by decide), show nI 5 = 5 from by decide +kernel]
theorem MI_at6 (h : MI K T M) : mq_at M (6 : Int32).toNatClampNeg = nI (mo_at M 6) := by
  rw [show (6 : Int32).toNatClampNeg = 6 from by decide +kernel, MI_at h (by decide), show nI 6 = 6 from by decide +kernel]
theorem mo_cn_le (f : Nat → Bool) (n : Nat) : mo_cn f n ≤ n := by
  induction n with
  | zero => exact Nat.le_refl _
  | succ n ih => simp only [mo_cn]; split <;> omega
theorem mo_at_le (M : MT) (p : Int32) : mo_at M p ≤ 48 := mo_cn_le _ _
theorem mo_first_or (M : MT) (n : Nat) : mo_first M n = -1 ∨ ∃ j, j < n ∧ mo_first M n = nI j ∧ mq_pl M j = 5 := sorry
theorem mo_first_none (hI : MI K T M) (h : mo_at M 5 = 0) : mo_first M (mq_bc M) = -1 := sorry
theorem mo_emp_none (h : mo_first M (mq_bc M) = -1) : mo_emp M = M := if_pos h
theorem mo_emp_some {j : Nat} (hj : j < 48) (h : mo_first M (mq_bc M) = nI j) : mo_emp M = mo_bring M j 7 := sorry
theorem MI_emp (hI : MI K T M) : MI K T (mo_emp M) := sorry
theorem bc_emp (M : MT) : mq_bc (mo_emp M) = mq_bc M := sorry
theorem MI_tick (hI : MI K T M) (hT : T + 1 ≤ 102400) : MI K (T + 1) (mo_tick M) := sorry
theorem MI_loop (hI : MI K T M) {n : Nat} (hn : n ≤ mq_bc M) : MI K T (mo_it mo_loop1 M n) := sorry
theorem bc_loop (M : MT) (n : Nat) : mq_bc (mo_it mo_loop1 M n) = mq_bc M := sorry
theorem mo_loop_none (hI : MI K T M) (h : mo_at M 6 = 0) : mo_loop M = M := sorry
theorem MI_sbags (hI : MI K T M) (f : Int32) {n : Nat} (hn : n ≤ mq_bc M) : MI K T (mo_it (mo_sbag f) M n) := sorry
theorem bc_sbags (f : Int32) (M : MT) (n : Nat) : mq_bc (mo_it (mo_sbag f) M n) = mq_bc M := sorry
theorem MI_dep1 (hI : MI K T M) (n : Nat) : MI K T (mo_it mo_dep1 M n) := sorry
theorem fc_dep1 (M : MT) (n : Nat) : mq_fc (mo_it mo_dep1 M n) = mq_fc M := sorry
theorem MI_room (hI : MI K T M) {k : Nat} (hk : k < 48) (h : mo_phi1 (mq_pl M k) ≠ 0) : mq_sc M < 2048 := sorry
theorem mo_way_in (M : MT) (x : Int32) : vp_in (mo_way M x) 12 := sorry
theorem mo_way_a {x : Int32} (h : mo_closed M x) : mo_way M x = 11 := if_pos (Or.inl h)
theorem mo_way_b {x : Int32} (h : mq_lat M x.toNatClampNeg = -1) : mo_way M x = 11 := if_pos (Or.inr h)
theorem mo_way_7 {x : Int32} (h1 : ¬ mo_closed M x) (h2 : ¬ mq_lat M x.toNatClampNeg = -1) (h3 : mo_opened M x) : mo_way M x = 7 := (if_neg (fun z => z.elim h1 h2)).trans (if_pos h3)
theorem mo_way_5 {x : Int32} (h1 : ¬ mo_closed M x) (h2 : ¬ mq_lat M x.toNatClampNeg = -1) (h3 : ¬ mo_opened M x) (h4 : mo_at M 5 < 8) : mo_way M x = 5 := (if_neg (fun z => z.elim h1 h2)).trans ((if_neg h3).trans (if_pos h4))
theorem mo_way_6 {x : Int32} (h1 : ¬ mo_closed M x) (h2 : ¬ mq_lat M x.toNatClampNeg = -1) (h3 : ¬ mo_opened M x) (h4 : 8 ≤ mo_at M 5) : mo_way M x = 6 := (if_neg (fun z => z.elim h1 h2)).trans ((if_neg h3).trans (if_neg (Nat.not_lt.mpr h4)))
end
