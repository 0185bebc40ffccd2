/-- the state behind a call of the reference: unchanged where it refuses -/
def mo_sel (c : Int32) (a b : MT) : MT := if c = 0 then a else b
theorem mo_sel0 {c : Int32} {a b : MT} (h : c = 0) : mo_sel c a b = a := if_pos h
theorem mo_sel1 {c d : Int32} {a b : MT} (h : c = d) (hd : d ≠ 0) : mo_sel c a b = b := if_neg (by rw [h]; exact hd)
theorem wh_sel0 {cI : ClassId} {bd : Nat → Nat} {c : Int32} {a b : MT} (h : c = 0) : wh_modl cI bd (mo_sel c a b) c = wh_modl cI bd a 0 := by rw [mo_sel0 h, h]
theorem wh_sel1 {cI : ClassId} {bd : Nat → Nat} {c d : Int32} {a b : MT} (h : c = d) (hd : d ≠ 0) : wh_modl cI bd (mo_sel c a b) c = wh_modl cI bd b d := by rw [mo_sel1 h hd, h]
theorem bh_inR {x : Int32} {n : Nat} (hn : n < 2 ^ 31) : (0 ≤ x ∧ x ≤ nI n - 1) ↔ vp_in x n := by
  have h1 : (1 : Int32).toInt = 1 := by decide
  rw [vp_in_iff, Int32.le_iff_toInt_le, Int32.le_iff_toInt_le, Int32.toInt_zero, Int32.toInt_sub, nI_toInt hn, h1, Int.bmod_eq_of_le (by omega) (by omega)]
  omega
theorem bh_inR40 {x : Int32} : (0 ≤ x ∧ x ≤ 39) ↔ vp_in x 40 := bh_inR (n := 40) (by decide)
theorem bh_inR4 {x : Int32} : (0 ≤ x ∧ x ≤ 3) ↔ vp_in x 4 := bh_inR (n := 4) (by decide)
theorem bh_rowsI {a b c : Nat} (ha : a < 64) (hb : b < 16) (hc : c < 131072) : nI a + 64 * nI b + 1024 * nI c = nI (a + 64 * b + 1024 * c) := by
  rw [show (64 : Int32) = nI 64 from by decide +kernel, show (1024 : Int32) = nI 1024 from by decide +kernel]
  simp only [nI]
  rw [← Int32.ofNat_mul, ← Int32.ofNat_mul, ← Int32.ofNat_add, ← Int32.ofNat_add]
theorem bh_divI {a b : Nat} (ha : a < 2 ^ 31) (hb : b < 2 ^ 31) : nI a / nI b = nI (a / b) := by
  have hab : a / b < 2 ^ 31 := Nat.lt_of_le_of_lt (Nat.div_le_self _ _) ha
  apply Int32.toInt_inj.mp
  rw [Int32.toInt_div, nI_toInt ha, nI_toInt hb, nI_toInt hab]
  have hz : (0 : Int) ≤ (a : Int) / (b : Int) := Int.ediv_nonneg (by omega) (by omega)
  have e : (a : Int).tdiv (b : Int) = ((a / b : Nat) : Int) := by
    rw [Int.tdiv_eq_ediv_of_nonneg (by omega)]; rfl
  rw [e, Int.bmod_eq_of_le (by omega) (by omega)]
theorem bh_subI {a b : Nat} (h : b ≤ a) : nI a - nI b = nI (a - b) := by
  obtain ⟨c, rfl⟩ : ∃ c, a = b + c := ⟨a - b, by omega⟩
  rw [← nI_add, Nat.add_sub_cancel_left, Int32.add_comm, Int32.add_sub_cancel]
theorem bh_mulI (a b : Nat) : nI a * nI b = nI (a * b) := (Int32.ofNat_mul a b).symm
section
variable {K T : Nat} {M : MT}
theorem bh_row {M : MT} (hI : MI K T M) (i : Nat) : ∃ a b c : Nat, a < 48 ∧ b < 12 ∧ c < 131072 ∧ mq_sb M i = nI a ∧ mq_sp M i = nI b ∧ mq_st M i = nI c ∧ mq_rows M i = nI (a + 64 * b + 1024 * c) := by
  obtain ⟨h1, h2, h3⟩ := MI_scan hI i
  obtain ⟨a, ha, ea⟩ := vp_in_of h1 (by decide)
  obtain ⟨b, hb, eb⟩ := vp_in_of h2 (by decide)
  obtain ⟨c, hc, ec⟩ := vp_in_of h3 (by decide)
  refine ⟨a, b, c, ha, hb, hc, ea, eb, ec, ?_⟩
  show mq_sb M i + 64 * mq_sp M i + 1024 * mq_st M i = _
  rw [ea, eb, ec]
  exact bh_rowsI (by omega) (by omega) hc
theorem rows_sb (hI : MI K T M) (i : Nat) : mq_rows M i - mq_rows M i / 64 * 64 = mq_sb M i := by
  obtain ⟨a, b, c, ha, hb, hc, ea, eb, ec, er⟩ := bh_row hI i
  rw [er, ea, show (64 : Int32) = nI 64 from by decide +kernel, bh_divI (by omega) (by decide), bh_mulI, bh_subI (Nat.div_mul_le_self _ _)]
  congr 1
  omega
theorem rows_st (hI : MI K T M) (i : Nat) : mq_rows M i / 1024 = mq_st M i := by
  obtain ⟨a, b, c, ha, hb, hc, ea, eb, ec, er⟩ := bh_row hI i
  rw [er, ec, show (1024 : Int32) = nI 1024 from by decide +kernel, bh_divI (by omega) (by decide)]
  congr 1
  omega
theorem rows_sp (hI : MI K T M) (i : Nat) : mq_rows M i / 64 - mq_rows M i / 64 / 16 * 16 = mq_sp M i := by
  obtain ⟨a, b, c, ha, hb, hc, ea, eb, ec, er⟩ := bh_row hI i
  rw [er, eb, show (64 : Int32) = nI 64 from by decide +kernel, show (16 : Int32) = nI 16 from by decide +kernel, bh_divI (by omega) (by decide), bh_divI (by omega) (by decide), bh_mulI, bh_subI (Nat.div_mul_le_self _ _)]
  congr 1
  omega
theorem rows_bring (M : MT) (k : Nat) (v : Int32) : upd (mq_rows M) (mq_sc M) (nI k + 64 * v + 1024 * nI (mq_now M)) = mq_rows (mo_bring M k v) := by
  funext i
  show upd (mq_rows M) (mq_sc M) (nI k + 64 * v + 1024 * nI (mq_now M)) i = upd (mq_sb M) (mq_sc M) (nI k) i + 64 * upd (mq_sp M) (mq_sc M) v i + 1024 * upd (mq_st M) (mq_sc M) (nI (mq_now M)) i
  unfold upd
  split <;> rfl
theorem wh_comes {cI : ClassId} {bd : Nat → Nat} {thr : Int32} (M : MT) (k : Nat) (v : Int32) : wh_modlX cI bd (mq_now M) (mq_fc M) (mq_bc M) (mq_sc M + 1) (mq_dep M) (mq_lat M) (mq_brd M) (upd (mq_pl M) k v) (mq_bf M) (mq_br M) (mq_pu M) (upd (mq_ls M) k (nI (mq_sc M))) (upd (mq_rows M) (mq_sc M) (nI k + 64 * v + 1024 * nI (mq_now M))) thr = wh_modl cI bd (mo_bring M k v) thr := by
  rw [rows_bring]
  rfl
theorem mo_first_lt {k : Nat} (hk : k ≤ 48) (h : mo_first M k < 0) : mo_first M k = -1 := by
  rcases mo_first_or M k with q | ⟨j, hj, q, -⟩
  · exact q
  · rw [q] at h
    exact absurd h (nI_pos (by omega))
theorem mo_first_ge {k : Nat} (h : ¬ mo_first M k < 0) : ¬ mo_first M k = -1 := fun q => h (by rw [q]; decide)
theorem MI_pu1 (hI : MI K T M) {i : Nat} (h : mq_pu M i = 1) : mq_pu M i ≠ 0 := by rw [h]; decide
theorem MI_pu0 (hI : MI K T M) {i : Nat} (h : ¬ mq_pu M i = 1) : ¬ mq_pu M i ≠ 0 := fun q => (MI_pu hI i).elim q h
theorem MI_brd1 (hI : MI K T M) {i : Nat} (h : mq_brd M i = 1) : mq_brd M i ≠ 0 := by rw [h]; decide
theorem MI_brd0 (hI : MI K T M) {i : Nat} (h : ¬ mq_brd M i = 1) : ¬ mq_brd M i ≠ 0 := fun q => (MI_brd hI i).elim q h
theorem MI_brdz (hI : MI K T M) {i : Nat} (h : ¬ mq_brd M i = 1) : mq_brd M i = 0 := (MI_brd hI i).resolve_right h
theorem bh_apart {a d : Int32} (ha : vp_in a 200000) (hd : vp_in d 200000) : (d - a < 60 ∧ -60 < d - a) ↔ (a - d < 60 ∧ -60 < a - d) := by
  have h1 := bh_subInt (Nat.le_refl _) ha hd
  have h2 := bh_subInt (Nat.le_refl _) hd ha
  have e60 : (60 : Int32).toInt = 60 := by decide
  have em60 : (-60 : Int32).toInt = -60 := by decide
  rw [Int32.lt_iff_toInt_lt, Int32.lt_iff_toInt_lt, Int32.lt_iff_toInt_lt, Int32.lt_iff_toInt_lt, h1, h2, e60, em60]
  omega
theorem mo_low_at {d : Int32} {a : Nat} (ha : a < 4) (h : ∀ i, i < a → ¬ mo_free M d (nI i)) (hf : mo_free M d (nI a)) : mo_low M d = nI a := by
  have e0 : nI 0 = 0 := by decide +kernel
  have e1 : nI 1 = 1 := by decide +kernel
  have e2 : nI 2 = 2 := by decide +kernel
  have e3 : nI 3 = 3 := by decide +kernel
  unfold mo_low
  rcases (show a = 0 ∨ a = 1 ∨ a = 2 ∨ a = 3 by omega) with rfl | rfl | rfl | rfl
  · rw [e0] at hf ⊢; rw [if_pos hf]
  · have h0 := h 0 (by omega)
    rw [e0] at h0; rw [e1] at hf ⊢; rw [if_neg h0, if_pos hf]
  · have h0 := h 0 (by omega)
    have h1 := h 1 (by omega)
    rw [e0] at h0; rw [e1] at h1; rw [e2] at hf ⊢; rw [if_neg h0, if_neg h1, if_pos hf]
  · have h0 := h 0 (by omega)
    have h1 := h 1 (by omega)
    have h2 := h 2 (by omega)
    rw [e0] at h0; rw [e1] at h1; rw [e2] at h2; rw [e3] at hf ⊢; rw [if_neg h0, if_neg h1, if_neg h2, if_pos hf]
theorem mo_low_no {d : Int32} (h : ∀ i, i < 4 → ¬ mo_free M d (nI i)) : mo_low M d = -1 := by
  have h0 := h 0 (by omega)
  have h1 := h 1 (by omega)
  have h2 := h 2 (by omega)
  have h3 := h 3 (by omega)
  rw [show nI 0 = 0 from by decide +kernel] at h0
  rw [show nI 1 = 1 from by decide +kernel] at h1
  rw [show nI 2 = 2 from by decide +kernel] at h2
  rw [show nI 3 = 3 from by decide +kernel] at h3
  unfold mo_low
  rw [if_neg h0, if_neg h1, if_neg h2, if_neg h3]
theorem bh_pl3 {q : Int32} (hq : vp_in q 12) : (1 ≤ q ∧ q ≤ 3) ↔ (q = 1 ∨ q = 2 ∨ q = 3) := by
  obtain ⟨j, hj, rfl⟩ := vp_in_of hq (by decide)
  rw [show (1 : Int32) = nI 1 from by decide +kernel, show (2 : Int32) = nI 2 from by decide +kernel, show (3 : Int32) = nI 3 from by decide +kernel, nI_leI (by decide) (by omega), nI_leI (by omega) (by decide), nI_eq (by omega) (by decide), nI_eq (by omega) (by decide), nI_eq (by omega) (by decide)]
  omega
theorem mo_nx_1 {q : Int32} (h : q = 1 ∨ q = 2 ∨ q = 3) : mo_nx q = q + 1 := by
  rcases h with rfl | rfl | rfl <;> decide +kernel
end
theorem wh_tsel0 {cI : ClassId} {bd : Nat → Nat} {t c : Int32} {a b : MT} (ht : t = 0) (h : c = 0) : wh_modl cI bd a t = wh_modl cI bd (mo_sel c a b) c := by rw [wh_sel0 h, ht]
theorem wh_tsel1 {cI : ClassId} {bd : Nat → Nat} {t c d : Int32} {a b : MT} (ht : t = d) (h : c = d) (hd : d ≠ 0) : wh_modl cI bd b t = wh_modl cI bd (mo_sel c a b) c := by rw [wh_sel1 h hd, ht]
theorem bh_nR {x : Int32} (h : ¬ (1 ≤ x ∧ x ≤ 11)) : x < 1 ∨ 11 < x := by
  by_cases q : x < 1
  · exact Or.inl q
  · exact Or.inr (Int32.not_le.mp (fun z => h ⟨Int32.not_lt.mp q, z⟩))
theorem bh_yR {x : Int32} (h : 1 ≤ x ∧ x ≤ 11) : ¬ (x < 1 ∨ 11 < x) := fun z => z.elim (fun q => absurd h.1 (Int32.not_le.mpr q)) (fun q => absurd h.2 (Int32.not_le.mpr q))
section
variable {K T : Nat} {M : MT}
theorem bh_updpu (hI : MI K T M) : upd (mq_pu M) (mq_bc M) 0 = mq_pu M := funext fun i => by
  unfold upd
  split
  · rename_i z
    rw [z]; exact (MI_beyond hI (Nat.le_refl _)).2.symm
  · rfl
theorem co_take_0 {x r : Int32} (h : co_take M x r = 0) : vp_in x (mq_fc M) ∧ vp_in r 40 ∧ mq_bc M < 48 := by
  unfold co_take at h
  split at h
  · rename_i z
    split at h
    · exact absurd h (by decide)
    · rename_i y
      exact ⟨mo_in_iff.mp z.1, mo_in_iff.mp z.2, Nat.lt_of_not_le (fun q => y (Or.inl q))⟩
  · exact absurd h (by decide)
end
theorem bh_nR2 {x : Int32} {n : Nat} (h : ¬ (1 ≤ x ∧ x ≤ nI n)) : x < 1 ∨ nI n < x := by
  by_cases q : x < 1
  · exact Or.inl q
  · exact Or.inr (Int32.not_le.mp (fun z => h ⟨Int32.not_lt.mp q, z⟩))
theorem bh_yR2 {x : Int32} {n : Nat} (h : 1 ≤ x ∧ x ≤ nI n) : ¬ (x < 1 ∨ nI n < x) := fun z => z.elim (fun q => absurd h.1 (Int32.not_le.mpr q)) (fun q => absurd h.2 (Int32.not_le.mpr q))
theorem bh_nT {x y : Int32} (h : ¬ (0 ≤ x ∧ x ≤ y)) : x < 0 ∨ y < x := by
  by_cases q : x < 0
  · exact Or.inl q
  · exact Or.inr (Int32.not_le.mp (fun z => h ⟨Int32.not_lt.mp q, z⟩))
theorem bh_pne {q : Int32} (h : q = 1 ∨ q = 2 ∨ q = 3) : q ≠ 0 := by
  rcases h with rfl | rfl | rfl <;> decide
section
variable {K T : Nat} {M : MT}
theorem dec_lt (hI : MI K T M) {k : Nat} (hne : mq_pl M k ≠ 0) {d : Int32} (hd : mo_dt (mq_pl M k) = d) (h : ¬ d ≤ nI (mq_now M) - mq_st M (mq_ls M k).toNatClampNeg) : nI (mq_now M) - mq_ca M k < mo_dt (mq_pl M k) := by
  rw [hd, (MI_ca hI hne).1]
  exact Int32.not_le.mp h
theorem dec_ge (hI : MI K T M) {k : Nat} (hne : mq_pl M k ≠ 0) {d : Int32} (hd : mo_dt (mq_pl M k) = d) (h : d ≤ nI (mq_now M) - mq_st M (mq_ls M k).toNatClampNeg) : mo_dt (mq_pl M k) ≤ nI (mq_now M) - mq_ca M k := by
  rw [hd, (MI_ca hI hne).1]
  exact h
theorem dec_b {k : Nat} {z : Int32} (hz : z = 0) (h : mq_pl M k = 1 ∨ mq_pl M k = 2 ∨ mq_pl M k = 3) : mo_dec M k z = mo_bring M k (mq_pl M k + 1) := by
  unfold mo_dec
  rw [if_pos hz, mo_nx_1 h]
end
