abbrev MT : Type := Nat × Nat × Nat × Nat × (Nat → Int32) × (Nat → Int32) × (Nat → Int32) × (Nat → Int32) × (Nat → Int32) × (Nat → Int32) × (Nat → Int32) × (Nat → Int32) × (Nat → Int32) × (Nat → Int32) × (Nat → Int32) × (Nat → Int32) × (Nat → Int32)
def mq_now (M : MT) : Nat := M.1
def mq_fc (M : MT) : Nat := M.2.1
def mq_bc (M : MT) : Nat := M.2.2.1
def mq_sc (M : MT) : Nat := M.2.2.2.1
def mq_dep (M : MT) : Nat → Int32 := M.2.2.2.2.1
def mq_lat (M : MT) : Nat → Int32 := M.2.2.2.2.2.1
def mq_brd (M : MT) : Nat → Int32 := M.2.2.2.2.2.2.1
def mq_bf (M : MT) : Nat → Int32 := M.2.2.2.2.2.2.2.1
def mq_br (M : MT) : Nat → Int32 := M.2.2.2.2.2.2.2.2.1
def mq_pu (M : MT) : Nat → Int32 := M.2.2.2.2.2.2.2.2.2.1
def mq_pl (M : MT) : Nat → Int32 := M.2.2.2.2.2.2.2.2.2.2.1
def mq_ls (M : MT) : Nat → Int32 := M.2.2.2.2.2.2.2.2.2.2.2.1
def mq_ca (M : MT) : Nat → Int32 := M.2.2.2.2.2.2.2.2.2.2.2.2.1
def mq_at (M : MT) : Nat → Int32 := M.2.2.2.2.2.2.2.2.2.2.2.2.2.1
def mq_sb (M : MT) : Nat → Int32 := M.2.2.2.2.2.2.2.2.2.2.2.2.2.2.1
def mq_sp (M : MT) : Nat → Int32 := M.2.2.2.2.2.2.2.2.2.2.2.2.2.2.2.1
def mq_st (M : MT) : Nat → Int32 := M.2.2.2.2.2.2.2.2.2.2.2.2.2.2.2.2
def ms_now (M : MT) (v : Nat) : MT := (v, mq_fc M, mq_bc M, mq_sc M, mq_dep M, mq_lat M, mq_brd M, mq_bf M, mq_br M, mq_pu M, mq_pl M, mq_ls M, mq_ca M, mq_at M, mq_sb M, mq_sp M, mq_st M)
def ms_fc (M : MT) (v : Nat) : MT := (mq_now M, v, mq_bc M, mq_sc M, mq_dep M, mq_lat M, mq_brd M, mq_bf M, mq_br M, mq_pu M, mq_pl M, mq_ls M, mq_ca M, mq_at M, mq_sb M, mq_sp M, mq_st M)
def ms_bc (M : MT) (v : Nat) : MT := (mq_now M, mq_fc M, v, mq_sc M, mq_dep M, mq_lat M, mq_brd M, mq_bf M, mq_br M, mq_pu M, mq_pl M, mq_ls M, mq_ca M, mq_at M, mq_sb M, mq_sp M, mq_st M)
def ms_sc (M : MT) (v : Nat) : MT := (mq_now M, mq_fc M, mq_bc M, v, mq_dep M, mq_lat M, mq_brd M, mq_bf M, mq_br M, mq_pu M, mq_pl M, mq_ls M, mq_ca M, mq_at M, mq_sb M, mq_sp M, mq_st M)
def ms_dep (M : MT) (v : Nat → Int32) : MT := (mq_now M, mq_fc M, mq_bc M, mq_sc M, v, mq_lat M, mq_brd M, mq_bf M, mq_br M, mq_pu M, mq_pl M, mq_ls M, mq_ca M, mq_at M, mq_sb M, mq_sp M, mq_st M)
def ms_lat (M : MT) (v : Nat → Int32) : MT := (mq_now M, mq_fc M, mq_bc M, mq_sc M, mq_dep M, v, mq_brd M, mq_bf M, mq_br M, mq_pu M, mq_pl M, mq_ls M, mq_ca M, mq_at M, mq_sb M, mq_sp M, mq_st M)
def ms_brd (M : MT) (v : Nat → Int32) : MT := (mq_now M, mq_fc M, mq_bc M, mq_sc M, mq_dep M, mq_lat M, v, mq_bf M, mq_br M, mq_pu M, mq_pl M, mq_ls M, mq_ca M, mq_at M, mq_sb M, mq_sp M, mq_st M)
def ms_bf (M : MT) (v : Nat → Int32) : MT := (mq_now M, mq_fc M, mq_bc M, mq_sc M, mq_dep M, mq_lat M, mq_brd M, v, mq_br M, mq_pu M, mq_pl M, mq_ls M, mq_ca M, mq_at M, mq_sb M, mq_sp M, mq_st M)
def ms_br (M : MT) (v : Nat → Int32) : MT := (mq_now M, mq_fc M, mq_bc M, mq_sc M, mq_dep M, mq_lat M, mq_brd M, mq_bf M, v, mq_pu M, mq_pl M, mq_ls M, mq_ca M, mq_at M, mq_sb M, mq_sp M, mq_st M)
def ms_pu (M : MT) (v : Nat → Int32) : MT := (mq_now M, mq_fc M, mq_bc M, mq_sc M, mq_dep M, mq_lat M, mq_brd M, mq_bf M, mq_br M, v, mq_pl M, mq_ls M, mq_ca M, mq_at M, mq_sb M, mq_sp M, mq_st M)
def ms_pl (M : MT) (v : Nat → Int32) : MT := (mq_now M, mq_fc M, mq_bc M, mq_sc M, mq_dep M, mq_lat M, mq_brd M, mq_bf M, mq_br M, mq_pu M, v, mq_ls M, mq_ca M, mq_at M, mq_sb M, mq_sp M, mq_st M)
def ms_ls (M : MT) (v : Nat → Int32) : MT := (mq_now M, mq_fc M, mq_bc M, mq_sc M, mq_dep M, mq_lat M, mq_brd M, mq_bf M, mq_br M, mq_pu M, mq_pl M, v, mq_ca M, mq_at M, mq_sb M, mq_sp M, mq_st M)
def ms_ca (M : MT) (v : Nat → Int32) : MT := (mq_now M, mq_fc M, mq_bc M, mq_sc M, mq_dep M, mq_lat M, mq_brd M, mq_bf M, mq_br M, mq_pu M, mq_pl M, mq_ls M, v, mq_at M, mq_sb M, mq_sp M, mq_st M)
def ms_at (M : MT) (v : Nat → Int32) : MT := (mq_now M, mq_fc M, mq_bc M, mq_sc M, mq_dep M, mq_lat M, mq_brd M, mq_bf M, mq_br M, mq_pu M, mq_pl M, mq_ls M, mq_ca M, v, mq_sb M, mq_sp M, mq_st M)
def ms_sb (M : MT) (v : Nat → Int32) : MT := (mq_now M, mq_fc M, mq_bc M, mq_sc M, mq_dep M, mq_lat M, mq_brd M, mq_bf M, mq_br M, mq_pu M, mq_pl M, mq_ls M, mq_ca M, mq_at M, v, mq_sp M, mq_st M)
def ms_sp (M : MT) (v : Nat → Int32) : MT := (mq_now M, mq_fc M, mq_bc M, mq_sc M, mq_dep M, mq_lat M, mq_brd M, mq_bf M, mq_br M, mq_pu M, mq_pl M, mq_ls M, mq_ca M, mq_at M, mq_sb M, v, mq_st M)
def ms_st (M : MT) (v : Nat → Int32) : MT := (mq_now M, mq_fc M, mq_bc M, mq_sc M, mq_dep M, mq_lat M, mq_brd M, mq_bf M, mq_br M, mq_pu M, mq_pl M, mq_ls M, mq_ca M, mq_at M, mq_sb M, mq_sp M, v)
def wh_fieldsX (ad : Nat → Nat) (now fc bc sc : Nat) : List Value := [.int (nI now), .int (nI fc), .ref (ad 2), .ref (ad 3), .ref (ad 4), .int (nI bc), .ref (ad 6), .ref (ad 7), .ref (ad 8), .ref (ad 9), .ref (ad 10), .ref (ad 11), .ref (ad 12), .int (nI sc), .ref (ad 14), .ref (ad 15), .ref (ad 16)]
/-- the class's cells -/
def wh_hallX (cI cZ : ClassId) (ad : Nat → Nat) (now fc bc sc : Nat) (f_dep f_lat f_brd f_bf f_br f_pu f_pl f_ls f_ca f_at f_sb f_sp f_st : Nat → Int32) : va_W := (ad 0, .inr (0, wh_fieldsX ad now fc bc sc)) :: [(ad 2, .inl (cI, 10, .inl f_dep)), (ad 3, .inl (cI, 10, .inl f_lat)), (ad 4, .inl (cZ, 40, .inl f_brd)), (ad 6, .inl (cI, 48, .inl f_bf)), (ad 7, .inl (cI, 48, .inl f_br)), (ad 8, .inl (cZ, 48, .inl f_pu)), (ad 9, .inl (cI, 48, .inl f_pl)), (ad 10, .inl (cI, 48, .inl f_ls)), (ad 11, .inl (cI, 48, .inl f_ca)), (ad 12, .inl (cI, 12, .inl f_at)), (ad 14, .inl (cI, 2048, .inl f_sb)), (ad 15, .inl (cI, 2048, .inl f_sp)), (ad 16, .inl (cI, 2048, .inl f_st))]
def wh_hall (cI cZ : ClassId) (ad : Nat → Nat) (M : MT) : va_W := wh_hallX cI cZ ad (mq_now M) (mq_fc M) (mq_bc M) (mq_sc M) (mq_dep M) (mq_lat M) (mq_brd M) (mq_bf M) (mq_br M) (mq_pu M) (mq_pl M) (mq_ls M) (mq_ca M) (mq_at M) (mq_sb M) (mq_sp M) (mq_st M)
/-- the reference's cells -/
abbrev wh_tys (cI cZ _cL : ClassId) : List (ClassId × FieldType) := [(cI, .int), (cZ, .boolean)]
/-- how many of the first n -/
def mo_cn (f : Nat → Bool) : Nat → Nat
  | 0 => 0
  | n + 1 => mo_cn f n + (if f n then 1 else 0)
def mo_it (f : MT → Nat → MT) (M : MT) : Nat → MT
  | 0 => M
  | n + 1 => f (mo_it f M n) n
abbrev mo_closed (M : MT) (f : Int32) : Prop := mq_dep M f.toNatClampNeg - 10 ≤ nI (mq_now M)
abbrev mo_opened (M : MT) (f : Int32) : Prop := mq_dep M f.toNatClampNeg - 60 ≤ nI (mq_now M)
abbrev mo_fly (M : MT) (k : Nat) : Prop := mq_pu M k ≠ 0 ∨ mq_brd M (mq_br M k).toNatClampNeg ≠ 0
def mo_at (M : MT) (p : Int32) : Nat := mo_cn (fun j => decide (mq_pl M j = p)) 48
def mo_way (M : MT) (f : Int32) : Int32 := if mo_closed M f ∨ mq_lat M f.toNatClampNeg = -1 then 11 else if mo_opened M f then 7 else if mo_at M 5 < 8 then 5 else 6
/-- the class's row of counts, behind a move -/
def mo_at1 (M : MT) (k : Nat) : Nat → Int32 := upd (mq_at M) (mq_pl M k).toNatClampNeg (mq_at M (mq_pl M k).toNatClampNeg - 1)
def mo_bring (M : MT) (k : Nat) (p : Int32) : MT :=
  (mq_now M, mq_fc M, mq_bc M, mq_sc M + 1, mq_dep M, mq_lat M, mq_brd M, mq_bf M, mq_br M, mq_pu M, upd (mq_pl M) k p, upd (mq_ls M) k (nI (mq_sc M)), upd (mq_ca M) k (nI (mq_now M)),
    upd (mo_at1 M k) p.toNatClampNeg (mo_at1 M k p.toNatClampNeg + 1), upd (mq_sb M) (mq_sc M) (nI k), upd (mq_sp M) (mq_sc M) p, upd (mq_st M) (mq_sc M) (nI (mq_now M)))
def mo_route (M : MT) (k : Nat) : MT := if mo_way M (mq_bf M k) = 6 ∧ mq_pl M k = 6 then M else mo_bring M k (mo_way M (mq_bf M k))
def mo_first (M : MT) : Nat → Int32
  | 0 => -1
  | k + 1 => if (mq_pl M k = 5 ∧ mo_opened M (mq_bf M k)) ∧ (mo_first M k = -1 ∨ mq_ls M k < mq_ls M (mo_first M k).toNatClampNeg) then nI k else mo_first M k
def mo_emp (M : MT) : MT := if mo_first M (mq_bc M) = -1 then M else mo_bring M (mo_first M (mq_bc M)).toNatClampNeg 7
def mo_loop1 (M : MT) (k : Nat) : MT := if mq_pl M k = 6 then mo_route M k else M
def mo_settle (M : MT) (k : Nat) : MT := if mq_pl M k = 8 then (if mo_fly M k then mo_bring M k 9 else mo_bring M k 10) else if mq_pl M k = 5 ∨ mq_pl M k = 6 ∨ mq_pl M k = 7 then mo_bring M k 11 else M
def mo_sbag (f : Int32) (M : MT) (k : Nat) : MT := if mq_bf M k = f then mo_settle M k else M
def mo_dep1 (M : MT) (f : Nat) : MT := if mq_dep M f = nI (mq_now M) then mo_it (mo_sbag (nI f)) M (mq_bc M) else M
def mo_tick (M : MT) : MT := (mq_now M + 1, mq_fc M, mq_bc M, mq_sc M, mq_dep M, mq_lat M, mq_brd M, mq_bf M, mq_br M, mq_pu M, mq_pl M, mq_ls M, mq_ca M, mq_at M, mq_sb M, mq_sp M, mq_st M)
def mo_empt (M : MT) : MT := mo_emp (mo_emp (mo_emp M))
def mo_loop (M : MT) : MT := mo_it mo_loop1 M (mq_bc M)
def mo_depart (M : MT) : MT := mo_it mo_dep1 M (mq_fc M)
def mo_minute (M : MT) : MT := mo_depart (mo_loop (mo_empt (mo_tick M)))
def mo_pass (M : MT) (n : Nat) : MT := mo_it (fun M _ => mo_minute M) M n
abbrev mo_clash (M : MT) (d x : Int32) (j : Nat) : Prop := mq_lat M j = x ∧ mq_dep M j - d < 60 ∧ -60 < mq_dep M j - d
abbrev mo_free (M : MT) (d x : Int32) : Prop := ∀ j, j < mq_fc M → ¬ mo_clash M d x j
def mo_low (M : MT) (d : Int32) : Int32 := if mo_free M d 0 then 0 else if mo_free M d 1 then 1 else if mo_free M d 2 then 2 else if mo_free M d 3 then 3 else -1
def mo_add (M : MT) (x : Int32) : MT := (mq_now M, mq_fc M + 1, mq_bc M, mq_sc M, upd (mq_dep M) (mq_fc M) (nI (mq_now M) + x), upd (mq_lat M) (mq_fc M) (mo_low M (nI (mq_now M) + x)), mq_brd M, mq_bf M, mq_br M, mq_pu M, mq_pl M, mq_ls M, mq_ca M, mq_at M, mq_sb M, mq_sp M, mq_st M)
def mo_take (M : MT) (f r : Int32) : MT := (mq_now M, mq_fc M, mq_bc M + 1, mq_sc M, mq_dep M, mq_lat M, mq_brd M, upd (mq_bf M) (mq_bc M) f, upd (mq_br M) (mq_bc M) r, mq_pu M, upd (mq_pl M) (mq_bc M) 0, mq_ls M, mq_ca M, mq_at M, mq_sb M, mq_sp M, mq_st M)
def mo_ld (M : MT) (f : Int32) : Nat := mo_cn (fun j => decide (mq_pl M j = 8 ∧ mq_bf M j = f)) (mq_bc M)
def mo_atl (M : MT) (x : Int32) : Nat := mo_cn (fun j => decide (mq_pl M j = 7 ∧ mq_lat M (mq_bf M j).toNatClampNeg = x)) (mq_bc M)
def mo_unm (M : MT) (f : Int32) : Nat := mo_cn (fun j => decide ((mq_pl M j = 8 ∧ mq_bf M j = f) ∧ ¬ mo_fly M j)) (mq_bc M)
def mo_pbs (M : MT) (b t : Int32) : Nat → Int32
  | 0 => -1
  | n + 1 => if mq_sb M n = b ∧ mq_st M n ≤ t then mq_sp M n else mo_pbs M b t n
def mo_dt (p : Int32) : Int32 := if p = 1 then 2 else if p = 2 then 4 else 10
def mo_nx (p : Int32) : Int32 := if p = 1 then 2 else if p = 2 then 3 else 4
