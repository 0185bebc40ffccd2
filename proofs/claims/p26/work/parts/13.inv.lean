/-- what holds of every state that a run comes to: K bounds the scans that are still to come with those that were, T the time -/
def mo_phi1 (p : Int32) : Nat := if p = 6 then 3 else if p = 5 then 2 else if p = 7 ∨ p = 8 then 1 else 0
def mo_phi (f : Nat → Int32) : Nat → Nat
  | 0 => 0
  | n + 1 => mo_phi f n + mo_phi1 (f n)
def MI (K T : Nat) (M : MT) : Prop :=
  mq_fc M ≤ 10 ∧ mq_bc M ≤ 48 ∧ (∀ i, vp_in (mq_bf M i) 10) ∧ (∀ i, vp_in (mq_br M i) 40) ∧ (∀ i, vp_in (mq_pl M i) 12) ∧ (∀ i, vp_in (mq_ls M i) 2048) ∧ (∀ i, mq_pu M i = 0 ∨ mq_pu M i = 1) ∧ (∀ i, mq_brd M i = 0 ∨ mq_brd M i = 1) ∧
  (∀ q, q < 12 → mq_at M q = nI (mo_at M (nI q))) ∧ (∀ i, mq_bc M ≤ i → mq_pl M i = 0 ∧ mq_pu M i = 0) ∧ (∀ i, vp_in (mq_sb M i) 48 ∧ vp_in (mq_sp M i) 12 ∧ vp_in (mq_st M i) 131072) ∧
  (∀ i, mq_pl M i ≠ 0 → mq_ca M i = mq_st M (mq_ls M i).toNatClampNeg ∧ (mq_ls M i).toNatClampNeg < mq_sc M) ∧ (∀ i, vp_in (mq_dep M i) 200000) ∧ mq_sc M + mo_phi (mq_pl M) 48 ≤ K ∧ mq_now M ≤ T ∧ K ≤ 2048 ∧ T ≤ 102400
section
variable {K T : Nat} {M : MT}
theorem MI_fc (h : MI K T M) : mq_fc M ≤ 10 := h.1
theorem MI_bc (h : MI K T M) : mq_bc M ≤ 48 := h.2.1
theorem MI_bf (h : MI K T M) (i : Nat) : vp_in (mq_bf M i) 10 := h.2.2.1 i
theorem MI_br (h : MI K T M) (i : Nat) : vp_in (mq_br M i) 40 := h.2.2.2.1 i
theorem MI_pl (h : MI K T M) (i : Nat) : vp_in (mq_pl M i) 12 := h.2.2.2.2.1 i
theorem MI_ls (h : MI K T M) (i : Nat) : vp_in (mq_ls M i) 2048 := h.2.2.2.2.2.1 i
theorem MI_pu (h : MI K T M) (i : Nat) : mq_pu M i = 0 ∨ mq_pu M i = 1 := h.2.2.2.2.2.2.1 i
theorem MI_brd (h : MI K T M) (i : Nat) : mq_brd M i = 0 ∨ mq_brd M i = 1 := h.2.2.2.2.2.2.2.1 i
theorem MI_at (h : MI K T M) {q : Nat} (hq : q < 12) : mq_at M q = nI (mo_at M (nI q)) := h.2.2.2.2.2.2.2.2.1 q hq
theorem MI_beyond (h : MI K T M) {i : Nat} (hi : mq_bc M ≤ i) : mq_pl M i = 0 ∧ mq_pu M i = 0 := h.2.2.2.2.2.2.2.2.2.1 i hi
theorem MI_scan (h : MI K T M) (i : Nat) : vp_in (mq_sb M i) 48 ∧ vp_in (mq_sp M i) 12 ∧ vp_in (mq_st M i) 131072 := h.2.2.2.2.2.2.2.2.2.2.1 i
theorem MI_ca (h : MI K T M) {i : Nat} (hi : mq_pl M i ≠ 0) : mq_ca M i = mq_st M (mq_ls M i).toNatClampNeg ∧ (mq_ls M i).toNatClampNeg < mq_sc M := h.2.2.2.2.2.2.2.2.2.2.2.1 i hi
theorem MI_dep (h : MI K T M) (i : Nat) : vp_in (mq_dep M i) 200000 := h.2.2.2.2.2.2.2.2.2.2.2.2.1 i
theorem MI_phi (h : MI K T M) : mq_sc M + mo_phi (mq_pl M) 48 ≤ K := h.2.2.2.2.2.2.2.2.2.2.2.2.2.1
theorem MI_now (h : MI K T M) : mq_now M ≤ T := h.2.2.2.2.2.2.2.2.2.2.2.2.2.2.1
theorem MI_K (h : MI K T M) : K ≤ 2048 := h.2.2.2.2.2.2.2.2.2.2.2.2.2.2.2.1
theorem MI_T (h : MI K T M) : T ≤ 102400 := h.2.2.2.2.2.2.2.2.2.2.2.2.2.2.2.2
theorem MI_sc (h : MI K T M) : mq_sc M ≤ 2048 := by
  have := MI_phi h
  have := MI_K h
  omega
theorem MI_now2 (h : MI K T M) : mq_now M ≤ 102400 := Nat.le_trans (MI_now h) (MI_T h)
end
theorem bh_eq0 {P : Prop} [Decidable P] (h : (if P then (1 : Int32) else 0) = 0) : ¬ P := fun q => by rw [if_pos q] at h; exact absurd h (by decide)
theorem bh_ne0 {P : Prop} [Decidable P] (h : ¬ (if P then (1 : Int32) else 0) = 0) : P := by
  by_cases q : P
  · exact q
  · rw [if_neg q] at h; exact absurd rfl h
theorem bh_nlt {a b : Int32} (h : ¬ a < b) : b ≤ a := Int32.not_lt.mp h
theorem bh_nle {a b : Int32} (h : a < b) : ¬ b ≤ a := Int32.not_le.mpr h
theorem bh_le {a b : Nat} (ha : a < 2 ^ 31) (hb : b < 2 ^ 31) (h : nI a ≤ nI b) : a ≤ b := (nI_leI ha hb).mp h
theorem bh_nle2 {a b : Nat} (ha : a < 2 ^ 31) (hb : b < 2 ^ 31) (h : ¬ nI a ≤ nI b) : b < a := Nat.lt_of_not_le (fun q => h ((nI_leI ha hb).mpr q))
theorem bh_cn1 {f : Nat → Bool} {k : Nat} (h : f k = true) : mo_cn f (k + 1) = mo_cn f k + 1 := by simp [mo_cn, h]
theorem bh_cn0 {f : Nat → Bool} {k : Nat} (h : f k = false) : mo_cn f (k + 1) = mo_cn f k := by simp [mo_cn, h]
theorem bh_clamp {x : Int32} {n : Nat} (h : vp_in x n) (hn : n < 2 ^ 31) : x.toNatClampNeg < n ∧ x = nI x.toNatClampNeg := by
  obtain ⟨j, hj, rfl⟩ := vp_in_of h hn
  rw [nI_clamp (by omega)]
  exact ⟨hj, rfl⟩
theorem bh_in {x : Int32} {n : Nat} (hn : n < 2 ^ 31) (h1 : ¬ x < 0) (h2 : x < nI n) : vp_in x n := by
  rw [vp_in_iff]
  rw [Int32.lt_iff_toInt_lt, Int32.toInt_zero] at h1
  rw [Int32.lt_iff_toInt_lt, nI_toInt hn] at h2
  omega
theorem bh_out1 {x : Int32} {n : Nat} (h1 : x < 0) : ¬ vp_in x n := by
  rw [vp_in_iff]
  rw [Int32.lt_iff_toInt_lt, Int32.toInt_zero] at h1
  omega
theorem bh_out2 {x : Int32} {n : Nat} (hn : n < 2 ^ 31) (h2 : ¬ x < nI n) : ¬ vp_in x n := by
  rw [vp_in_iff]
  rw [Int32.lt_iff_toInt_lt, nI_toInt hn] at h2
  omega
theorem bh_subInt {a b : Int32} {n : Nat} (hn : n ≤ 200000) (ha : vp_in a n) (hb : vp_in b n) : (a - b).toInt = a.toInt - b.toInt := by
  rw [vp_in_iff] at ha hb
  rw [Int32.toInt_sub]
  exact Int.bmod_eq_of_le (by omega) (by omega)
theorem bh_absT {a d : Int32} (ha : vp_in a 200000) (hd : vp_in d 200000) (h : a - d < 60 ∧ -60 < a - d) : ¬ (60 : Int32) ≤ (if 0 ≤ a - d then a - d else 0 - (a - d)) := by
  have hs := bh_subInt (Nat.le_refl _) ha hd
  rw [vp_in_iff] at ha hd
  obtain ⟨h1, h2⟩ := h
  rw [Int32.lt_iff_toInt_lt] at h1 h2
  have e60 : (60 : Int32).toInt = 60 := by decide
  have em60 : (-60 : Int32).toInt = -60 := by decide
  rw [hs, e60] at h1
  rw [hs, em60] at h2
  by_cases q : 0 ≤ a - d
  · rw [if_pos q, Int32.le_iff_toInt_le, hs, e60]; omega
  · rw [if_neg q, Int32.le_iff_toInt_le, Int32.toInt_sub, hs, e60, Int32.toInt_zero, Int.bmod_eq_of_le (by omega) (by omega)]; omega
theorem bh_absF {a d : Int32} (ha : vp_in a 200000) (hd : vp_in d 200000) (h : (if 0 ≤ a - d then a - d else 0 - (a - d)) < (60 : Int32)) : a - d < 60 ∧ -60 < a - d := by
  have hs := bh_subInt (Nat.le_refl _) ha hd
  rw [vp_in_iff] at ha hd
  have e60 : (60 : Int32).toInt = 60 := by decide
  have em60 : (-60 : Int32).toInt = -60 := by decide
  rw [Int32.lt_iff_toInt_lt, Int32.lt_iff_toInt_lt, hs, e60, em60]
  by_cases q : 0 ≤ a - d
  · rw [if_pos q, Int32.lt_iff_toInt_lt, hs, e60] at h
    rw [Int32.le_iff_toInt_le, hs, Int32.toInt_zero] at q
    omega
  · rw [if_neg q, Int32.lt_iff_toInt_lt, Int32.toInt_sub, hs, e60, Int32.toInt_zero, Int.bmod_eq_of_le (by omega) (by omega)] at h
    rw [Int32.le_iff_toInt_le, hs, Int32.toInt_zero] at q
    omega
theorem bh_dec (x : Int32) : x + Int32.ofInt (-1) = x - 1 := by
  rw [Int32.sub_eq_add_neg]
  rfl
