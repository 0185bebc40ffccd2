section
variable {K T : Nat} {M : MT}
theorem MI_mono {K2 T2 : Nat} (hI : MI K T M) (hK : K ≤ K2) (hK2 : K2 ≤ 2048) (hT : T ≤ T2) (hT2 : T2 ≤ 102400) : MI K2 T2 M := by
  obtain ⟨a1, a2, a3, a4, a5, a6, a7, a8, a9, a10, a11, a12, a13, a14, a15, a16, a17⟩ := id hI
  exact ⟨a1, a2, a3, a4, a5, a6, a7, a8, a9, a10, a11, a12, a13, Nat.le_trans a14 hK, Nat.le_trans a15 hT, hK2, hT2⟩
theorem MI_sel {c : Int32} {a : MT} (hI : MI K T M) (h : c = 0 → MI K T a) : MI K T (mo_sel c a M) := by
  unfold mo_sel
  split
  · rename_i z; exact h z
  · exact hI
theorem co_add_0 {x : Int32} (h : co_add M x = 0) : ¬ x < 1 ∧ x ≤ 1000 ∧ mq_fc M < 10 := by
  unfold co_add at h
  split at h
  · exact absurd h (by decide)
  · rename_i z
    split at h
    · exact absurd h (by decide)
    · rename_i y
      exact ⟨fun q => z (Or.inl q), Int32.not_lt.mp (fun q => z (Or.inr q)), by omega⟩
theorem MI_addF (hI : MI K T M) {x : Int32} (h : co_add M x = 0) : MI K T (mo_add M x) := by
  obtain ⟨h1, h2, h3⟩ := co_add_0 h
  have hn := MI_now2 hI
  obtain ⟨a1, a2, a3, a4, a5, a6, a7, a8, a9, a10, a11, a12, a13, a14, a15, a16, a17⟩ := id hI
  refine ⟨(show mq_fc M + 1 ≤ 10 by omega), a2, a3, a4, a5, a6, a7, a8, a9, a10, a11, a12, fun i => ?_, a14, a15, a16, a17⟩
  show vp_in (upd (mq_dep M) (mq_fc M) (nI (mq_now M) + x) i) 200000
  unfold upd
  split
  · exact bh_dIn hn h1 h2
  · exact a13 i
theorem MI_boardF (hI : MI K T M) {x z : Int32} (hz : z = 0 ∨ z = 1) : MI K T (mo_board M x z) := by
  obtain ⟨a1, a2, a3, a4, a5, a6, a7, a8, a9, a10, a11, a12, a13, a14, a15, a16, a17⟩ := id hI
  refine ⟨a1, a2, a3, a4, a5, a6, a7, fun i => ?_, a9, a10, a11, a12, a13, a14, a15, a16, a17⟩
  show upd (mq_brd M) x.toNatClampNeg z i = 0 ∨ upd (mq_brd M) x.toNatClampNeg z i = 1
  unfold upd
  split
  · exact hz
  · exact a8 i
theorem MI_routeC (hI : MI K T M) {k : Nat} (hk : k < mq_bc M) (hK : K + 4 ≤ 2048) : MI (K + 4) T (mo_route M k) := by
  unfold mo_route
  split
  · exact MI_mono hI (by omega) hK (Nat.le_refl _) (MI_T hI)
  · exact MI_bringC hI hk (mo_way_in _ _) hK
theorem MI_decF (hI : MI K T M) {k : Nat} (hk : k < mq_bc M) (z : Int32) (hK : K + 4 ≤ 2048) : MI (K + 4) T (mo_dec M k z) := by
  unfold mo_dec
  split
  · exact MI_bringC hI hk (mo_nx_in _) hK
  · exact MI_routeC hI hk hK
theorem bh_vk {b : Int32} {n : Nat} (h : vp_in b n) : b.toNatClampNeg < n := Nat.not_le.mp fun q => h (Or.inr q)
theorem co_deci_0 {b : Int32} (h : co_deci M b = 0) : b.toNatClampNeg < mq_bc M := by
  unfold co_deci at h
  split at h
  · rename_i z; exact bh_vk (mo_in_iff.mp z)
  · exact absurd h (by decide)
theorem co_place_0 {b q : Int32} (h : co_place M b q = 0) : b.toNatClampNeg < mq_bc M := by
  unfold co_place at h
  split at h
  · rename_i z; exact bh_vk (mo_in_iff.mp z)
  · exact absurd h (by decide)
theorem co_send_0 {b x : Int32} (h : co_send M b x = 0) : b.toNatClampNeg < mq_bc M ∧ vp_in x (mq_fc M) := by
  unfold co_send at h
  split at h
  · rename_i z; exact ⟨bh_vk (mo_in_iff.mp z.1), mo_in_iff.mp z.2⟩
  · exact absurd h (by decide)
theorem co_pass_0 {x : Int32} (h : co_pass x = 0) : x.toNatClampNeg ≤ 200 := by
  unfold co_pass at h
  split at h
  · exact absurd h (by decide)
  · rename_i z
    obtain ⟨k, h1, -, rfl⟩ := bh_rng (n := 200) (by decide) (fun q => z (Or.inl q)) (Int32.not_lt.mp (fun q => z (Or.inr q)))
    rw [nI_clamp (by omega)]; exact h1
variable (hI : MI K T M) (hK : K + 4 ≤ 2048) (hT : T + 200 ≤ 102400)
theorem MO_up {N : MT} (h : MI (K + 4) T N) (hT : T + 200 ≤ 102400) : MI (K + 4) (T + 200) N := MI_mono h (Nat.le_refl _) (MI_K h) (by omega) hT
theorem MO_M (hI : MI K T M) (hK : K + 4 ≤ 2048) (hT : T + 200 ≤ 102400) : MI (K + 4) (T + 200) M := MI_mono hI (by omega) hK (by omega) hT
theorem MO_sel {c : Int32} {a : MT} (hI : MI K T M) (hK : K + 4 ≤ 2048) (hT : T + 200 ≤ 102400) (h : c = 0 → MI (K + 4) T a) : MI (K + 4) (T + 200) (mo_sel c a M) := MI_sel (MO_M hI hK hT) (fun z => MO_up (h z) hT)
theorem MO_addFlight (hI : MI K T M) (hK : K + 4 ≤ 2048) (hT : T + 200 ≤ 102400) (x : Int32) : MI (K + 4) (T + 200) (mo_sel (co_add M x) (mo_add M x) M) := MO_sel hI hK hT (fun z => MI_mono (MI_addF hI z) (by omega) hK (Nat.le_refl _) (MI_T hI))
theorem MO_board (hI : MI K T M) (hK : K + 4 ≤ 2048) (hT : T + 200 ≤ 102400) (x z : Int32) (hz : z = 0 ∨ z = 1) : MI (K + 4) (T + 200) (mo_sel (co_in x 40) (mo_board M x z) M) := MO_sel hI hK hT (fun _ => MI_mono (MI_boardF hI hz) (by omega) hK (Nat.le_refl _) (MI_T hI))
theorem MO_pass (hI : MI K T M) (hK : K + 4 ≤ 2048) (hT : T + 200 ≤ 102400) (x : Int32) : MI (K + 4) (T + 200) (mo_sel (co_pass x) (mo_pass M x.toNatClampNeg) M) := MI_sel (MO_M hI hK hT) (fun z => by
  have h1 := co_pass_0 z
  exact MI_mono (MI_pass hI hT h1) (by omega) hK (by omega) hT)
theorem MO_checkIn (hI : MI K T M) (hK : K + 4 ≤ 2048) (hT : T + 200 ≤ 102400) (x r : Int32) : MI (K + 4) (T + 200) (mo_sel (co_take M x r) (mo_bring (mo_take M x r) (mq_bc M) 1) M) := MO_sel hI hK hT (fun z => by
  obtain ⟨h1, h2, h3⟩ := co_take_0 z
  exact MI_bringC (MI_take hI (bh_inW h1 (MI_fc hI)) h2 h3) (show mq_bc M < mq_bc M + 1 by omega) (vp_in_nI (n := 1) (by decide) (by decide)) hK)
theorem MO_transfer (hI : MI K T M) (hK : K + 4 ≤ 2048) (hT : T + 200 ≤ 102400) (x r : Int32) : MI (K + 4) (T + 200) (mo_sel (co_take M x r) (mo_route (mo_take M x r) (mq_bc M)) M) := MO_sel hI hK hT (fun z => by
  obtain ⟨h1, h2, h3⟩ := co_take_0 z
  exact MI_routeC (MI_take hI (bh_inW h1 (MI_fc hI)) h2 h3) (show mq_bc M < mq_bc M + 1 by omega) hK)
theorem MO_decide (hI : MI K T M) (hK : K + 4 ≤ 2048) (hT : T + 200 ≤ 102400) (b z : Int32) : MI (K + 4) (T + 200) (mo_sel (co_deci M b) (mo_dec M b.toNatClampNeg z) M) := MO_sel hI hK hT (fun h => MI_decF hI (co_deci_0 h) z hK)
theorem MO_letGo (hI : MI K T M) (hK : K + 4 ≤ 2048) (hT : T + 200 ≤ 102400) (b : Int32) : MI (K + 4) (T + 200) (mo_sel (co_place M b 4) (mo_route M b.toNatClampNeg) M) := MO_sel hI hK hT (fun h => MI_routeC hI (co_place_0 h) hK)
theorem MO_load (hI : MI K T M) (hK : K + 4 ≤ 2048) (hT : T + 200 ≤ 102400) (b : Int32) : MI (K + 4) (T + 200) (mo_sel (co_place M b 7) (mo_bring M b.toNatClampNeg 8) M) := MO_sel hI hK hT (fun h => MI_bringC hI (co_place_0 h) (vp_in_nI (n := 8) (by decide) (by decide)) hK)
theorem MO_offload (hI : MI K T M) (hK : K + 4 ≤ 2048) (hT : T + 200 ≤ 102400) (b : Int32) : MI (K + 4) (T + 200) (mo_sel (co_place M b 8) (mo_bring M b.toNatClampNeg 10) M) := MO_sel hI hK hT (fun h => MI_bringC hI (co_place_0 h) (vp_in_nI (n := 10) (by decide) (by decide)) hK)
theorem MO_sendOn (hI : MI K T M) (hK : K + 4 ≤ 2048) (hT : T + 200 ≤ 102400) (b x : Int32) : MI (K + 4) (T + 200) (mo_sel (co_send M b x) (mo_route (mo_snd M b.toNatClampNeg x) b.toNatClampNeg) M) := MO_sel hI hK hT (fun h => by
  obtain ⟨h1, h2⟩ := co_send_0 h
  exact MI_routeC (MI_send hI h1 (bh_inW h2 (MI_fc hI))) h1 hK)
end
theorem MI_0 : MI 0 0 mo_0 := by
  have hz : ∀ n : Nat, 0 < n → vp_in 0 n := fun n hn => by
    rw [vp_in_iff, Int32.toInt_zero]; omega
  refine ⟨Nat.zero_le _, Nat.zero_le _, fun i => hz _ (by decide), fun i => hz _ (by decide), fun i => hz _ (by decide), fun i => hz _ (by decide), fun i => Or.inl rfl, fun i => Or.inl rfl, fun q hq => ?_, fun i _ => ⟨rfl, rfl⟩, fun i => ⟨hz _ (by decide), hz _ (by decide), hz _ (by decide)⟩, fun i hi => absurd rfl hi, fun i => hz _ (by decide), ?_, Nat.le_refl _, by decide, by decide⟩
  · have h : ∀ q, q < 12 → mq_at mo_0 q = nI (mo_at mo_0 (nI q)) := by decide +kernel
    exact h q hq
  · decide +kernel
theorem nI_and (x : Int32) : ∃ j : Nat, j < 32 ∧ x &&& 31 = nI j := pk_andE x 5 (by decide)
