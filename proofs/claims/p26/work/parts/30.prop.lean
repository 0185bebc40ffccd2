/-! what the property says, over the tuple of the class's cells: EX n holds of the bags below n -/
/-- of a bag: its flight is there, it has a place, at STORE, LOOP or LATERAL its flight has a lateral, its last scan tells it and its place -/
def EXb (M : MT) (i : Nat) : Prop := vp_in (mq_bf M i) (mq_fc M) ∧ mq_pl M i ≠ 0 ∧ ((mq_pl M i = 5 ∨ mq_pl M i = 6 ∨ mq_pl M i = 7) → mq_lat M (mq_bf M i).toNatClampNeg ≠ -1) ∧
  ∃ a, a < mq_sc M ∧ mq_sb M a = nI i ∧ mq_sp M a = mq_pl M i ∧ ∀ j, a < j → j < mq_sc M → mq_sb M j ≠ nI i
def EX (n : Nat) (M : MT) : Prop :=
  (∀ i, i < mq_fc M → mq_lat M i = -1 ∨ vp_in (mq_lat M i) 4) ∧ mo_at M 5 ≤ 8 ∧ n ≤ mq_sc M ∧ (∀ j, j < mq_sc M → mq_st M j ≤ nI (mq_now M)) ∧ (∀ i, i < n → EXb M i)
/-- a place that the bag k may be brought to -/
def GO (M : MT) (k : Nat) (p : Int32) : Prop := p ≠ 0 ∧ vp_in p 12 ∧ (p = 5 → mo_at M 5 < 8) ∧ ((p = 5 ∨ p = 6 ∨ p = 7) → mq_lat M (mq_bf M k).toNatClampNeg ≠ -1)
/-- what a call leaves alone -/
def KP (M N : MT) : Prop := mq_now N = mq_now M ∧ mq_fc N = mq_fc M ∧ mq_bc N = mq_bc M
def PX (K T : Nat) (M : MT) : Prop := MI K T M ∧ EX (mq_bc M) M
/-- the scan number a tells the bag k at p, and k is there -/
def SC (a : Nat) (N : MT) (k : Nat) (p : Int32) : Prop := mq_sc N = a + 1 ∧ mq_sb N a = nI k ∧ mq_sp N a = p ∧ mq_pl N k = p
section
variable {K T n : Nat} {M : MT}
theorem SC_bring (M : MT) (k : Nat) (p : Int32) : SC (mq_sc M) (mo_bring M k p) k p := ⟨rfl, bh_upd_same _ _ _, bh_upd_same _ _ _, bh_upd_same _ _ _⟩
theorem EX_bring {n' k : Nat} {p : Int32} (h : EX n M) (hk : k < n ∧ n' = n ∨ k = n ∧ n' = n + 1) (hn : n' ≤ 48) (hbf : vp_in (mq_bf M k) (mq_fc M)) (hg : GO M k p) : EX n' (mo_bring M k p) := by
  obtain ⟨a1, a2, a3, a4, a5⟩ := h
  obtain ⟨h0, -, h5, hl⟩ := hg
  have hk48 : k < 48 := by omega
  refine ⟨a1, ?_, ?_, ?_, ?_⟩
  · show mo_cn (fun j => decide (upd (mq_pl M) k p j = 5)) 48 ≤ 8
    have hc := (mo_cn_upd (mq_pl M) k p 5 48).1 hk48
    have a6 : mo_cn (fun j => decide (mq_pl M j = 5)) 48 ≤ 8 := a2
    by_cases z : p = 5
    · have y : mo_cn (fun j => decide (mq_pl M j = 5)) 48 < 8 := h5 z
      rw [if_pos z] at hc
      omega
    · rw [if_neg z] at hc
      omega
  · show n' ≤ mq_sc M + 1
    omega
  · intro j hj
    have hj : j < mq_sc M + 1 := hj
    show upd (mq_st M) (mq_sc M) (nI (mq_now M)) j ≤ nI (mq_now M)
    by_cases z : j = mq_sc M
    · rw [z, bh_upd_same]; exact Int32.le_refl _
    · rw [bh_upd_ne _ _ z]; exact a4 j (by omega)
  · intro i hi
    by_cases z : i = k
    · subst z
      refine ⟨hbf, ?_, ?_, mq_sc M, ?_, ?_, ?_, ?_⟩
      · show upd (mq_pl M) i p i ≠ 0
        rw [bh_upd_same]; exact h0
      · show (upd (mq_pl M) i p i = 5 ∨ upd (mq_pl M) i p i = 6 ∨ upd (mq_pl M) i p i = 7) → mq_lat M (mq_bf M i).toNatClampNeg ≠ -1
        rw [bh_upd_same]; exact hl
      · show mq_sc M < mq_sc M + 1
        omega
      · exact bh_upd_same _ _ _
      · show upd (mq_sp M) (mq_sc M) p (mq_sc M) = upd (mq_pl M) i p i
        rw [bh_upd_same, bh_upd_same]
      · intro j h1 h2
        have h2 : j < mq_sc M + 1 := h2
        exact absurd h1 (by omega)
    · obtain ⟨b1, b2, b3, a, b4, b5, b6, b7⟩ := a5 i (by omega)
      refine ⟨b1, ?_, ?_, a, ?_, ?_, ?_, ?_⟩
      · show upd (mq_pl M) k p i ≠ 0
        rw [bh_upd_ne _ _ z]; exact b2
      · show (upd (mq_pl M) k p i = 5 ∨ upd (mq_pl M) k p i = 6 ∨ upd (mq_pl M) k p i = 7) → mq_lat M (mq_bf M i).toNatClampNeg ≠ -1
        rw [bh_upd_ne _ _ z]; exact b3
      · show a < mq_sc M + 1
        omega
      · show upd (mq_sb M) (mq_sc M) (nI k) a = nI i
        rw [bh_upd_ne _ _ (by omega)]; exact b5
      · show upd (mq_sp M) (mq_sc M) p a = upd (mq_pl M) k p i
        rw [bh_upd_ne _ _ (by omega), bh_upd_ne _ _ z]; exact b6
      · intro j h1 h2
        have h2 : j < mq_sc M + 1 := h2
        show upd (mq_sb M) (mq_sc M) (nI k) j ≠ nI i
        by_cases y : j = mq_sc M
        · rw [y, bh_upd_same]
          intro q
          have := (nI_eq (by omega) (by omega)).mp q
          omega
        · rw [bh_upd_ne _ _ y]; exact b7 j h1 (by omega)
theorem GO_lit {k : Nat} {p : Int32} (h : p = 1 ∨ p = 2 ∨ p = 3 ∨ p = 4 ∨ p = 8 ∨ p = 9 ∨ p = 10 ∨ p = 11) : GO M k p := by
  have h1 : p ≠ 0 ∧ vp_in p 12 ∧ p ≠ 5 ∧ p ≠ 6 ∧ p ≠ 7 := by
    rcases h with h | h | h | h | h | h | h | h <;> rw [h]
    · exact ⟨by decide, vp_in_nI (n := 1) (by decide) (by decide), by decide, by decide, by decide⟩
    · exact ⟨by decide, vp_in_nI (n := 2) (by decide) (by decide), by decide, by decide, by decide⟩
    · exact ⟨by decide, vp_in_nI (n := 3) (by decide) (by decide), by decide, by decide, by decide⟩
    · exact ⟨by decide, vp_in_nI (n := 4) (by decide) (by decide), by decide, by decide, by decide⟩
    · exact ⟨by decide, vp_in_nI (n := 8) (by decide) (by decide), by decide, by decide, by decide⟩
    · exact ⟨by decide, vp_in_nI (n := 9) (by decide) (by decide), by decide, by decide, by decide⟩
    · exact ⟨by decide, vp_in_nI (n := 10) (by decide) (by decide), by decide, by decide, by decide⟩
    · exact ⟨by decide, vp_in_nI (n := 11) (by decide) (by decide), by decide, by decide, by decide⟩
  exact ⟨h1.1, h1.2.1, fun z => absurd z h1.2.2.1, fun z => z.elim (fun z => absurd z h1.2.2.1) (fun z => z.elim (fun z => absurd z h1.2.2.2.1) (fun z => absurd z h1.2.2.2.2))⟩
theorem mo_way_5r {x : Int32} (h : mo_way M x = 5) : mo_at M 5 < 8 := by
  by_cases c1 : mo_closed M x
  · exact absurd (h.symm.trans (mo_way_a c1)) (by decide)
  · by_cases c2 : mq_lat M x.toNatClampNeg = -1
    · exact absurd (h.symm.trans (mo_way_b c2)) (by decide)
    · by_cases c3 : mo_opened M x
      · exact absurd (h.symm.trans (mo_way_7 c1 c2 c3)) (by decide)
      · exact Nat.not_le.mp fun c4 => absurd (h.symm.trans (mo_way_6 c1 c2 c3 c4)) (by decide)
theorem GO_way (M : MT) (k : Nat) : GO M k (mo_way M (mq_bf M k)) := by
  refine ⟨?_, mo_way_in _ _, fun z => mo_way_5r z, fun z y => ?_⟩
  · rcases mo_way_or M (mq_bf M k) with z | z | z | z <;> rw [z] <;> decide
  · have := mo_way_b (M := M) y
    rw [this] at z
    exact absurd z (by decide)
theorem mo_route_b {k : Nat} (h : mq_pl M k ≠ 6) : mo_route M k = mo_bring M k (mo_way M (mq_bf M k)) := if_neg fun z => h z.2
theorem EX_route {k : Nat} (h : EX n M) (hk : k < n) (hn : n ≤ 48) : EX n (mo_route M k) := by
  unfold mo_route
  split
  · exact h
  · exact EX_bring h (Or.inl ⟨hk, rfl⟩) hn (h.2.2.2.2 k hk).1 (GO_way M k)
theorem EX_emp (hb : mq_bc M = n) (hn : n ≤ 48) (h : EX n M) : EX n (mo_emp M) := by
  rcases mo_first_or M (mq_bc M) with z | ⟨j, h1, h2, h3⟩
  · rw [mo_emp_none z]; exact h
  · rw [mo_emp_some (by omega) h2]
    obtain ⟨b1, b2, b3, -⟩ := h.2.2.2.2 j (by omega)
    exact EX_bring h (Or.inl ⟨by omega, rfl⟩) hn b1 ⟨by decide, vp_in_nI (n := 7) (by decide) (by decide), fun q => absurd q (by decide), fun _ => b3 (Or.inl h3)⟩
theorem EX_tick (hT : mq_now M ≤ 200000) (h : EX n M) : EX n (mo_tick M) := by
  obtain ⟨a1, a2, a3, a4, a5⟩ := h
  refine ⟨a1, a2, a3, fun j hj => ?_, a5⟩
  show mq_st M j ≤ nI (mq_now M + 1)
  exact Int32.le_trans (a4 j hj) ((nI_leI (by omega) (by omega)).mpr (by omega))
theorem EX_settle {k : Nat} (h : EX n M) (hk : k < n) (hn : n ≤ 48) : EX n (mo_settle M k) := by
  have hb := (h.2.2.2.2 k hk).1
  unfold mo_settle
  split
  · split
    · exact EX_bring h (Or.inl ⟨hk, rfl⟩) hn hb (GO_lit (by decide))
    · exact EX_bring h (Or.inl ⟨hk, rfl⟩) hn hb (GO_lit (by decide))
  · split
    · exact EX_bring h (Or.inl ⟨hk, rfl⟩) hn hb (GO_lit (by decide))
    · exact h
theorem EX_loop (hn : n ≤ 48) (h : EX n M) : ∀ k, k ≤ n → EX n (mo_it mo_loop1 M k) := by
  intro k
  induction k with
  | zero => exact fun _ => h
  | succ k ih =>
    intro hk
    have ih := ih (by omega)
    show EX n (mo_loop1 (mo_it mo_loop1 M k) k)
    unfold mo_loop1
    split
    · exact EX_route ih (by omega) hn
    · exact ih
theorem EX_sbags (f : Int32) (hn : n ≤ 48) (h : EX n M) : ∀ k, k ≤ n → EX n (mo_it (mo_sbag f) M k) := by
  intro k
  induction k with
  | zero => exact fun _ => h
  | succ k ih =>
    intro hk
    have ih := ih (by omega)
    show EX n (mo_sbag f (mo_it (mo_sbag f) M k) k)
    unfold mo_sbag
    split
    · exact EX_settle ih (by omega) hn
    · exact ih
theorem KP.rf (M : MT) : KP M M := ⟨rfl, rfl, rfl⟩
theorem KP.tr {A B C : MT} (h : KP A B) (g : KP B C) : KP A C := ⟨g.1.trans h.1, g.2.1.trans h.2.1, g.2.2.trans h.2.2⟩
theorem KP_bring (M : MT) (k : Nat) (p : Int32) : KP M (mo_bring M k p) := ⟨rfl, rfl, rfl⟩
theorem KP_it {f : MT → Nat → MT} (hf : ∀ N k, KP N (f N k)) (M : MT) (n : Nat) : KP M (mo_it f M n) := by
  induction n with
  | zero => exact KP.rf M
  | succ n ih => exact ih.tr (hf _ _)
theorem KP_emp (M : MT) : KP M (mo_emp M) := by
  unfold mo_emp
  split
  · exact KP.rf M
  · exact KP_bring _ _ _
theorem KP_route (M : MT) (k : Nat) : KP M (mo_route M k) := by
  unfold mo_route
  split
  · exact KP.rf M
  · exact KP_bring _ _ _
theorem KP_settle (M : MT) (k : Nat) : KP M (mo_settle M k) := by
  unfold mo_settle
  split
  · split <;> exact KP_bring _ _ _
  · split
    · exact KP_bring _ _ _
    · exact KP.rf M
theorem KP_loop1 (M : MT) (k : Nat) : KP M (mo_loop1 M k) := by
  unfold mo_loop1
  split
  · exact KP_route _ _
  · exact KP.rf M
theorem KP_sbag (f : Int32) (M : MT) (k : Nat) : KP M (mo_sbag f M k) := by
  unfold mo_sbag
  split
  · exact KP_settle _ _
  · exact KP.rf M
theorem KP_dep1 (M : MT) (k : Nat) : KP M (mo_dep1 M k) := by
  unfold mo_dep1
  split
  · exact KP_it (KP_sbag _) _ _
  · exact KP.rf M
theorem EX_dep1 (hb : mq_bc M = n) (hn : n ≤ 48) (h : EX n M) : ∀ k, EX n (mo_it mo_dep1 M k) := by
  intro k
  induction k with
  | zero => exact h
  | succ k ih =>
    show EX n (mo_dep1 (mo_it mo_dep1 M k) k)
    unfold mo_dep1
    split
    · exact EX_sbags _ hn ih _ (Nat.le_of_eq ((KP_it KP_dep1 M k).2.2.trans hb))
    · exact ih
theorem KP_minute (M : MT) : KP (mo_tick M) (mo_minute M) := (((KP_emp _).tr ((KP_emp _).tr (KP_emp _))).tr (KP_it KP_loop1 _ _)).tr (KP_it KP_dep1 _ _)
theorem EX_minute (hb : mq_bc M = n) (hn : n ≤ 48) (hT : mq_now M ≤ 200000) (h : EX n M) : EX n (mo_minute M) := by
  have b1 : mq_bc (mo_emp (mo_tick M)) = n := (bc_emp _).trans hb
  have b2 : mq_bc (mo_emp (mo_emp (mo_tick M))) = n := (bc_emp _).trans b1
  have b3 : mq_bc (mo_empt (mo_tick M)) = n := (bc_emp _).trans b2
  have e3 : EX n (mo_empt (mo_tick M)) := EX_emp b2 hn (EX_emp b1 hn (EX_emp hb hn (EX_tick hT h)))
  have e4 : EX n (mo_loop (mo_empt (mo_tick M))) := EX_loop hn e3 _ (by rw [b3]; exact Nat.le_refl _)
  exact EX_dep1 ((KP_it KP_loop1 _ _).2.2.trans b3) hn e4 _
theorem KP_pass (M : MT) (m : Nat) : mq_now (mo_pass M m) = mq_now M + m ∧ mq_fc (mo_pass M m) = mq_fc M ∧ mq_bc (mo_pass M m) = mq_bc M := by
  induction m with
  | zero => exact ⟨rfl, rfl, rfl⟩
  | succ m ih =>
    obtain ⟨h1, h2, h3⟩ := KP_minute (mo_pass M m)
    rw [mo_pass_s]
    refine ⟨h1.trans ?_, h2.trans ih.2.1, h3.trans ih.2.2⟩
    show mq_now (mo_pass M m) + 1 = mq_now M + (m + 1)
    rw [ih.1]; omega
theorem EX_pass (hb : mq_bc M = n) (hn : n ≤ 48) (h : EX n M) : ∀ m, mq_now M + m ≤ 200000 → EX n (mo_pass M m) := by
  intro m
  induction m with
  | zero => exact fun _ => h
  | succ m ih =>
    intro hm
    rw [mo_pass_s]
    obtain ⟨h1, -, h3⟩ := KP_pass M m
    exact EX_minute (h3.trans hb) hn (by omega) (ih (by omega))
theorem PX_pass (h : PX K T M) (hT : T + 200 ≤ 102400) {m : Nat} (hm : m ≤ 200) : PX K (T + 200) (mo_pass M m) := by
  have hI := MI_pass h.1 hT (k := m) hm
  have hn := MI_now h.1
  refine ⟨MI_mono hI (Nat.le_refl _) (MI_K hI) (by omega) hT, ?_⟩
  rw [(KP_pass M m).2.2]
  exact EX_pass rfl (MI_bc h.1) h.2 m (by omega)
theorem PX_mono {K2 T2 : Nat} (h : PX K T M) (hK : K ≤ K2) (hK2 : K2 ≤ 2048) (hT : T ≤ T2) (hT2 : T2 ≤ 102400) : PX K2 T2 M := ⟨MI_mono h.1 hK hK2 hT hT2, h.2⟩
theorem PX_bring (h : PX K T M) {k : Nat} (hk : k < mq_bc M) {p : Int32} (hg : GO M k p) (hK : K + 4 ≤ 2048) : PX (K + 4) T (mo_bring M k p) :=
  ⟨MI_bringC h.1 hk hg.2.1 hK, EX_bring h.2 (Or.inl ⟨hk, rfl⟩) (show mq_bc M ≤ 48 from MI_bc h.1) (h.2.2.2.2.2 k hk).1 hg⟩
theorem mo_low_in (M : MT) (d : Int32) : mo_low M d = -1 ∨ vp_in (mo_low M d) 4 := by
  unfold mo_low
  split
  · exact Or.inr (vp_in_nI (n := 0) (by decide) (by decide))
  · split
    · exact Or.inr (vp_in_nI (n := 1) (by decide) (by decide))
    · split
      · exact Or.inr (vp_in_nI (n := 2) (by decide) (by decide))
      · split
        · exact Or.inr (vp_in_nI (n := 3) (by decide) (by decide))
        · exact Or.inl rfl
theorem PX_add (h : PX K T M) {x : Int32} (hx : co_add M x = 0) : PX K T (mo_add M x) := by
  refine ⟨MI_addF h.1 hx, ?_⟩
  obtain ⟨hI, a1, a2, a3, a4, a5⟩ := h
  refine ⟨fun i hi => ?_, a2, a3, a4, fun i hi => ?_⟩
  · have hi : i < mq_fc M + 1 := hi
    show upd (mq_lat M) (mq_fc M) (mo_low M (nI (mq_now M) + x)) i = -1 ∨ vp_in (upd (mq_lat M) (mq_fc M) (mo_low M (nI (mq_now M) + x)) i) 4
    by_cases z : i = mq_fc M
    · rw [z, bh_upd_same]; exact mo_low_in _ _
    · rw [bh_upd_ne _ _ z]; exact a1 i (by omega)
  · obtain ⟨b1, b2, b3, b4⟩ := a5 i hi
    refine ⟨bh_inW b1 (Nat.le_succ _), b2, fun z => ?_, b4⟩
    show upd (mq_lat M) (mq_fc M) (mo_low M (nI (mq_now M) + x)) (mq_bf M i).toNatClampNeg ≠ -1
    have := bh_vk b1
    rw [bh_upd_ne _ _ (by omega)]
    exact b3 z
theorem PX_board (h : PX K T M) {x z : Int32} (hz : z = 0 ∨ z = 1) : PX K T (mo_board M x z) := ⟨MI_boardF h.1 hz, h.2⟩
theorem pl_take (hI : MI K T M) (x r : Int32) : mq_pl (mo_take M x r) = mq_pl M := by
  have hz := MI_beyond hI (Nat.le_refl (mq_bc M))
  funext i
  show upd (mq_pl M) (mq_bc M) 0 i = mq_pl M i
  unfold upd
  split
  · rename_i z
    rw [z]; exact hz.1.symm
  · rfl
theorem EX_take (hI : MI K T M) (h : EX (mq_bc M) M) (x r : Int32) : EX (mq_bc M) (mo_take M x r) := by
  have e := pl_take hI x r
  obtain ⟨a1, a2, a3, a4, a5⟩ := h
  refine ⟨a1, ?_, a3, a4, fun i hi => ?_⟩
  · show mo_cn (fun j => decide (mq_pl (mo_take M x r) j = 5)) 48 ≤ 8
    rw [e]; exact a2
  · obtain ⟨b1, b2, b3, b4⟩ := a5 i hi
    have eb : mq_bf (mo_take M x r) i = mq_bf M i := bh_upd_ne _ _ (by omega)
    refine ⟨?_, ?_, ?_, ?_⟩
    · rw [eb]; exact b1
    · rw [e]; exact b2
    · rw [e, eb]; exact b3
    · rw [e]; exact b4
theorem PX_come (h : PX K T M) {x r : Int32} (hx : vp_in x (mq_fc M)) (hr : vp_in r 40) (hb : mq_bc M < 48) {p : Int32} (hg : GO (mo_take M x r) (mq_bc M) p) (hK : K + 4 ≤ 2048) : PX (K + 4) T (mo_bring (mo_take M x r) (mq_bc M) p) := by
  have hI := MI_take h.1 (bh_inW hx (MI_fc h.1)) hr hb
  have eb : mq_bf (mo_take M x r) (mq_bc M) = x := bh_upd_same _ _ _
  exact ⟨MI_bringC hI (Nat.lt_succ_self _) hg.2.1 hK, EX_bring (EX_take h.1 h.2 x r) (Or.inr ⟨rfl, rfl⟩) hb (by rw [eb]; exact hx) hg⟩
theorem PX_snd (h : PX K T M) {k : Nat} (hk : k < mq_bc M) {f : Int32} (hf : vp_in f (mq_fc M)) (hp : mq_pl M k = 10 ∨ mq_pl M k = 11) : PX K T (mo_snd M k f) := by
  refine ⟨MI_send h.1 hk (bh_inW hf (MI_fc h.1)), ?_⟩
  obtain ⟨hI, a1, a2, a3, a4, a5⟩ := h
  refine ⟨a1, a2, a3, a4, fun i hi => ?_⟩
  obtain ⟨b1, b2, b3, b4⟩ := a5 i hi
  by_cases z : i = k
  · subst z
    have eb : mq_bf (mo_snd M i f) i = f := bh_upd_same _ _ _
    refine ⟨?_, b2, fun y => ?_, b4⟩
    · rw [eb]; exact hf
    · have y : mq_pl M i = 5 ∨ mq_pl M i = 6 ∨ mq_pl M i = 7 := y
      rcases hp with q | q <;> rw [q] at y <;> exact absurd y (by decide)
  · have eb : mq_bf (mo_snd M k f) i = mq_bf M i := bh_upd_ne _ _ z
    refine ⟨?_, b2, ?_, b4⟩
    · rw [eb]; exact b1
    · rw [eb]; exact b3
/-! sums -/
def mo_sum (f : Nat → Nat) : Nat → Nat
  | 0 => 0
  | n + 1 => mo_sum f n + f n
theorem mo_sum_ext {f g : Nat → Nat} {a : Nat} (h : ∀ i, i < a → f i = g i) : mo_sum f a = mo_sum g a := by
  induction a with
  | zero => rfl
  | succ a ih => simp only [mo_sum]; rw [ih (fun i hi => h i (by omega)), h a (by omega)]
theorem mo_sum_le {f g : Nat → Nat} {a : Nat} (h : ∀ i, i < a → f i ≤ g i) : mo_sum f a ≤ mo_sum g a := by
  induction a with
  | zero => exact Nat.le_refl _
  | succ a ih =>
    simp only [mo_sum]
    have := ih (fun i hi => h i (by omega))
    have := h a (by omega)
    omega
theorem mo_sum_add (f g : Nat → Nat) (a : Nat) : mo_sum (fun i => f i + g i) a = mo_sum f a + mo_sum g a := by
  induction a with
  | zero => rfl
  | succ a ih => simp only [mo_sum]; rw [ih]; omega
theorem mo_sum_0 (a : Nat) : mo_sum (fun _ => 0) a = 0 := by
  induction a with
  | zero => rfl
  | succ a ih => simp only [mo_sum]; rw [ih]
/-- one of a's values is c's: a sum of 'is it the i-th' is 1, or 0 -/
theorem mo_sum_one (c a : Nat) : mo_sum (fun i => if i = c then 1 else 0) a = if c < a then 1 else 0 := by
  induction a with
  | zero => simp [mo_sum]
  | succ a ih =>
    simp only [mo_sum]
    rw [ih]
    by_cases z : a = c
    · rw [if_pos z, if_neg (by omega), if_pos (by omega)]
    · rw [if_neg z]
      by_cases y : c < a
      · rw [if_pos y, if_pos (by omega)]
      · rw [if_neg y, if_neg (by omega)]
/-- counting each j by its class i, over all classes -/
theorem mo_sum_cn (F : Nat → Nat → Bool) (G : Nat → Bool) (a b : Nat) (h : ∀ j, j < b → mo_sum (fun i => if F i j = true then 1 else 0) a = if G j = true then 1 else 0) : mo_sum (fun i => mo_cn (F i) b) a = mo_cn G b := by
  induction b with
  | zero => exact mo_sum_0 a
  | succ b ih =>
    simp only [mo_cn]
    rw [mo_sum_add, ih (fun j hj => h j (by omega)), h b (by omega)]
theorem mo_sum_cnle (F : Nat → Nat → Bool) (G : Nat → Bool) (a b : Nat) (h : ∀ j, j < b → mo_sum (fun i => if F i j = true then 1 else 0) a ≤ if G j = true then 1 else 0) : mo_sum (fun i => mo_cn (F i) b) a ≤ mo_cn G b := by
  induction b with
  | zero => rw [show mo_sum (fun i => mo_cn (F i) 0) a = mo_sum (fun _ => 0) a from rfl, mo_sum_0]; exact Nat.zero_le _
  | succ b ih =>
    simp only [mo_cn]
    rw [mo_sum_add]
    have := ih (fun j hj => h j (by omega))
    have := h b (by omega)
    omega
theorem mo_cn_t (b : Nat) : mo_cn (fun _ => true) b = b := by
  induction b with
  | zero => rfl
  | succ b ih => simp [mo_cn, ih]
/-- the eleven counts -/
theorem sum_places (h : PX K T M) : mo_sum (fun i => mo_cn (fun j => decide (mq_pl M j = nI (i + 1))) (mq_bc M)) 11 = mq_bc M := by
  have e := mo_sum_cn (fun i j => decide (mq_pl M j = nI (i + 1))) (fun _ => true) 11 (mq_bc M) (fun j hj => ?_)
  · rw [mo_cn_t] at e; exact e
  · obtain ⟨q, hq, eq⟩ := vp_in_of (MI_pl h.1 j) (by decide)
    have hne := (h.2.2.2.2.2 j hj).2.1
    have q0 : q ≠ 0 := fun z => hne (by rw [eq, z]; rfl)
    rw [if_pos rfl, mo_sum_ext (g := fun i => if i = q - 1 then 1 else 0) (fun i hi => ?_), mo_sum_one, if_pos (by omega)]
    rw [eq]
    simp only [decide_eq_true_eq]
    by_cases z : i = q - 1
    · rw [if_pos z, if_pos (by rw [z, Nat.sub_add_cancel (by omega)])]
    · rw [if_neg z, if_neg (fun y => z (by have := (nI_eq (by omega) (by omega)).mp y; omega))]
/-- the four laterals -/
theorem sum_laterals (h : PX K T M) : mo_sum (fun i => mo_atl M (nI i)) 4 = mo_cn (fun j => decide (mq_pl M j = 7)) (mq_bc M) := by
  refine mo_sum_cn (fun i j => decide (mq_pl M j = 7 ∧ mq_lat M (mq_bf M j).toNatClampNeg = nI i)) _ 4 (mq_bc M) (fun j hj => ?_)
  simp only [decide_eq_true_eq]
  by_cases p7 : mq_pl M j = 7
  · obtain ⟨b1, -, b3, -⟩ := h.2.2.2.2.2 j hj
    have hl := b3 (Or.inr (Or.inr p7))
    obtain ⟨q, hq, eq⟩ := vp_in_of ((h.2.1 _ (bh_vk b1)).resolve_left hl) (by decide)
    rw [if_pos p7, mo_sum_ext (g := fun i => if i = q then 1 else 0) (fun i hi => ?_), mo_sum_one, if_pos hq]
    rw [eq]
    by_cases z : i = q
    · rw [if_pos z, if_pos ⟨p7, by rw [z]⟩]
    · rw [if_neg z, if_neg (fun y => z ((nI_eq (by omega) (by omega)).mp y.2).symm)]
  · rw [if_neg p7, mo_sum_ext (g := fun _ => 0) (fun i hi => if_neg (fun y => p7 y.1)), mo_sum_0]
/-- unmatched bags of all flights, against the loaded ones -/
theorem sum_unm (h : PX K T M) : mo_sum (fun i => mo_unm M (nI i)) (mq_fc M) ≤ mo_cn (fun j => decide (mq_pl M j = 8)) (mq_bc M) := by
  have hf := MI_fc h.1
  refine mo_sum_cnle (fun i j => decide ((mq_pl M j = 8 ∧ mq_bf M j = nI i) ∧ ¬ mo_fly M j)) _ (mq_fc M) (mq_bc M) (fun j hj => ?_)
  simp only [decide_eq_true_eq]
  by_cases p8 : mq_pl M j = 8
  · obtain ⟨q, hq, eq⟩ := vp_in_of (h.2.2.2.2.2 j hj).1 (by omega)
    rw [if_pos p8]
    refine Nat.le_trans (mo_sum_le (g := fun i => if i = q then 1 else 0) (fun i hi => ?_)) (by rw [mo_sum_one, if_pos hq]; exact Nat.le_refl _)
    by_cases z : i = q
    · rw [if_pos z]
      split <;> omega
    · rw [if_neg z, if_neg (fun y => z (by rw [eq] at y; exact ((nI_eq (by omega) (by omega)).mp y.1.2).symm))]
      exact Nat.le_refl _
  · rw [if_neg p8, mo_sum_ext (g := fun _ => 0) (fun i hi => if_neg (fun y => p8 y.1.1)), mo_sum_0]
    exact Nat.le_refl _
theorem cn_at (h : PX K T M) {x : Int32} (hx : x ≠ 0) : mo_cn (fun j => decide (mq_pl M j = x)) (mq_bc M) = mo_at M x := (MI_cn h.1 hx).symm
/-- the place by the scans is the place -/
theorem pbs_now (h : PX K T M) {k : Nat} (hk : k < mq_bc M) : mo_pbs M (nI k) (nI (mq_now M)) (mq_sc M) = mq_pl M k := by
  obtain ⟨-, -, -, a, b4, b5, b6, b7⟩ := h.2.2.2.2.2 k hk
  have hst := h.2.2.2.2.1
  have key : ∀ d, a + 1 + d ≤ mq_sc M → mo_pbs M (nI k) (nI (mq_now M)) (a + 1 + d) = mq_sp M a := by
    intro d
    induction d with
    | zero => exact fun _ => mo_pbs_1 b5 (hst a b4)
    | succ d ih =>
      intro hd
      rw [show a + 1 + (d + 1) = (a + 1 + d) + 1 from rfl, mo_pbs_0 (fun z => b7 (a + 1 + d) (by omega) (by omega) z.1)]
      exact ih (by omega)
  have := key (mq_sc M - (a + 1)) (by omega)
  rw [show a + 1 + (mq_sc M - (a + 1)) = mq_sc M by omega] at this
  rw [this, b6]
theorem mo_cn_mono {f g : Nat → Bool} {a : Nat} (h : ∀ j, j < a → f j = true → g j = true) : mo_cn f a ≤ mo_cn g a := by
  induction a with
  | zero => exact Nat.le_refl _
  | succ a ih =>
    simp only [mo_cn]
    have := ih (fun j hj => h j (by omega))
    by_cases z : f a = true
    · rw [if_pos z, if_pos (h a (by omega) z)]; omega
    · rw [if_neg z]; omega
/-- behind a load -/
theorem ld_ge {k : Nat} (hk : k < mq_bc M) : 1 ≤ mo_ld (mo_bring M k 8) (mq_bf M k) := by
  refine mo_cn_pos (j := k) hk (decide_eq_true ⟨?_, rfl⟩)
  exact bh_upd_same _ _ _
theorem ld_le (N : MT) (f : Int32) : mo_ld N f ≤ mo_cn (fun j => decide (mq_pl N j = 8)) (mq_bc N) :=
  mo_cn_mono (fun _ _ h => decide_eq_true (of_decide_eq_true h).1)
end
