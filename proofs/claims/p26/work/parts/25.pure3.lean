section
variable {K T : Nat} {M : MT}
theorem MI_mono {K2 T2 : Nat} (hI : MI K T M) (hK : K ≤ K2) (hK2 : K2 ≤ 2048) (hT : T ≤ T2) (hT2 : T2 ≤ 102400) : MI K2 T2 M := by
  obtain ⟨a1, a2, a3, a4, a5, a6, a7, a8, a9, a10, a11, a12, a13, a14, a15, a16, a17⟩ := id hI
  exact ⟨a1, a2, a3, a4, a5, a6, a7, a8, a9, a10, a11, a12, a13, Nat.le_trans a14 hK, Nat.le_trans a15 hT, hK2, hT2⟩
theorem co_add_0 {x : Int32} (h : co_add M x = 0) : ¬ x < 1 ∧ x ≤ 1000 ∧ mq_fc M < 10 := by
  unfold co_add at h
  split at h
  · exact absurd h (by decide)
  · rename_i z
    split at h
    · exact absurd h (by decide)
    · rename_i y
      exact ⟨fun q => z (Or.inl q), Int32.not_lt.mp (fun q => z (Or.inr q)), by omega⟩
theorem MI_addF (hI : MI K T M) {x : Int32} (h : co_add M x = 0) : MI K T (mo_add M x) := by
  obtain ⟨h1, h2, h3⟩ := co_add_0 h
  have hn := MI_now2 hI
  obtain ⟨a1, a2, a3, a4, a5, a6, a7, a8, a9, a10, a11, a12, a13, a14, a15, a16, a17⟩ := id hI
  refine ⟨(show mq_fc M + 1 ≤ 10 by omega), a2, a3, a4, a5, a6, a7, a8, a9, a10, a11, a12, fun i => ?_, a14, a15, a16, a17⟩
  show vp_in (upd (mq_dep M) (mq_fc M) (nI (mq_now M) + x) i) 200000
  unfold upd
  split
  · exact bh_dIn hn h1 h2
  · exact a13 i
theorem MI_boardF (hI : MI K T M) {x z : Int32} (hz : z = 0 ∨ z = 1) : MI K T (mo_board M x z) := by
  obtain ⟨a1, a2, a3, a4, a5, a6, a7, a8, a9, a10, a11, a12, a13, a14, a15, a16, a17⟩ := id hI
  refine ⟨a1, a2, a3, a4, a5, a6, a7, fun i => ?_, a9, a10, a11, a12, a13, a14, a15, a16, a17⟩
  show upd (mq_brd M) x.toNatClampNeg z i = 0 ∨ upd (mq_brd M) x.toNatClampNeg z i = 1
  unfold upd
  split
  · exact hz
  · exact a8 i
theorem MI_routeC (hI : MI K T M) {k : Nat} (hk : k < mq_bc M) (hK : K + 4 ≤ 2048) : MI (K + 4) T (mo_route M k) := by
  unfold mo_route
  split
  · exact MI_mono hI (by omega) hK (Nat.le_refl _) (MI_T hI)
  · exact MI_bringC hI hk (mo_way_in _ _) hK
theorem bh_vk {b : Int32} {n : Nat} (h : vp_in b n) : b.toNatClampNeg < n := Nat.not_le.mp fun q => h (Or.inr q)
theorem co_deci_0 {b : Int32} (h : co_deci M b = 0) : b.toNatClampNeg < mq_bc M := by
  unfold co_deci at h
  split at h
  · rename_i z; exact bh_vk (mo_in_iff.mp z)
  · exact absurd h (by decide)
theorem co_place_0 {b q : Int32} (h : co_place M b q = 0) : b.toNatClampNeg < mq_bc M := by
  unfold co_place at h
  split at h
  · rename_i z; exact bh_vk (mo_in_iff.mp z)
  · exact absurd h (by decide)
theorem co_send_0 {b x : Int32} (h : co_send M b x = 0) : b.toNatClampNeg < mq_bc M ∧ vp_in x (mq_fc M) := by
  unfold co_send at h
  split at h
  · rename_i z; exact ⟨bh_vk (mo_in_iff.mp z.1), mo_in_iff.mp z.2⟩
  · exact absurd h (by decide)
theorem co_pass_0 {x : Int32} (h : co_pass x = 0) : x.toNatClampNeg ≤ 200 := by
  unfold co_pass at h
  split at h
  · exact absurd h (by decide)
  · rename_i z
    obtain ⟨k, h1, -, rfl⟩ := bh_rng (n := 200) (by decide) (fun q => z (Or.inl q)) (Int32.not_lt.mp (fun q => z (Or.inr q)))
    rw [nI_clamp (by omega)]; exact h1
end
