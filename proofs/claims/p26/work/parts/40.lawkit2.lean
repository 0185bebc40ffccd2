section BHS
variable {p : Program} {l : Launch} {e : Env} {R : Room} {s : State} {m : MethodId} {args : Array Value} {below : List Frame} {meth : Method} {c : Code} {H : Heap} {locs : List Loc} {cells slots : Nat} {Q : State → Prop}
variable {y : MethodName} {bytes cc : ByteArray} {maxL nL mc ms n index : Nat} {rt ret : Option FieldType} {ws : List Cond} {rm : Room} {Pc : Array Value → State → Prop} {Qc : Array Value → State → Outcome → State → Prop} {XC : String → State → State → Prop} {free : Addr → Prop} {Ts : List Cond} {own : String} {As rest : List Value} {g : JFrame}
variable {D : va_G} {tys : List (ClassId × FieldType)} {A : Nat → Prop} {w : va_W} {lv : List (Nat × Value)} {pc : Nat} {st : List Value}
/-- bz_runV for a static method -/
theorem bz_runS (S : CallFix p m c cc nL s args Ts own) (hM : bz_Met l y ws rm Pc Qc XC mc ms free) (cw : CallB R s args own index y bytes maxL rt ws rm mc ms n ∧ (Cond.static y).before args s = true) (hp : PreS s H Pc As)
    (hg : g.method = m) (hn : As.length = n) (hsize : g.locals.size = nL) (hstack : g.stack = As.reverse ++ rest) (hW : 2 * g.monitorRoom + (rest.map fun v => v.category).sum ≤ 8) (hdg : decode cc g.pc = .ok (.invokestatic index, 3)) (hf : cells + mc ≤ R.cells ∧ slots + ms ≤ R.slots) :
    bz_Run p l e R s m args below meth c H locs cells slots mc ms g rest (Qc As.toArray) XC free := by
  have hK : vx_Back l R p e below s args y 3 8 (PreOf R mc ms Pc) (PostOf Qc 0 0 free) (vx_Post XC mc ms free) := bz_callBack cw.1 hM hp.1
  obtain ⟨⟨-, -, -, -, -, -, hcode, hini, hy, hlen, hl⟩, hst⟩ := cw
  obtain ⟨hx, hb, hml, ho, -⟩ := S
  obtain ⟨-, hPc⟩ := hp
  intro T hT X
  rcases vx_callS X hx (bytes := bytes) (maxL := maxL) (ret := rt) ho hl hst hini hcode hy hK hg (hsize.trans hml.symm) (argsL := As) (rest := rest) (fun sig h => hn.trans (hlen sig h)) hstack hW (by rw [hb]; exact hdg)
    (fun vm₁ hW₁ => ⟨hf.1, hf.2, hPc (T.setVm vm₁) hT hW₁⟩) with ⟨v, vm₁, ⟨U', l2, c2, s2⟩, hW₁, X', ⟨g', mk, t, L, e1, e2, hq, h1, hL, h2, h3⟩, st⟩ | ⟨q, vm₁, ⟨U', l2, c2, s2⟩, hW₁, X', ⟨g', mk, t, L, E, ce, e1, e2, hq, hce, hcv, hcl, h1, hL, h2, h3⟩, st⟩
  · dsimp only [Pt.U, Pt.locs, Pt.cells, Pt.slots] at X' e1 e2 h1 h2 h3 st
    subst h1; subst h2; subst h3
    exact Or.inl ⟨v, (T.setVm vm₁).calling g' mk As.toArray, t, U', L, hT, X', hL, e1, e2, hq, st⟩
  · dsimp only [Pt.U, Pt.locs, Pt.cells, Pt.slots] at X' e1 e2 h1 h2 h3 st hcl
    subst h1; subst h2; subst h3
    exact Or.inr ⟨q, (T.setVm vm₁).calling g' mk As.toArray, t, U', L, E, ce, hT, X', hL, e1, e2, hq, hce, hcv, vx_cls hW₁ hcl, st⟩
/-- a static call of one that never throws, counted as what it makes where it returns: nothing -/
theorem bh_calli_X (C : bh_C p s m args meth c cc nL Ts own D tys A ret) (hE : xe_E A s s.heap) {S : Type} {post : Int32 → S → Prop} {wf : S → va_W} {pc1 : String → Prop} (hM : bh_Xi l D tys y ws rm As w post wf pc1 mc ms) (cw : CallB R s args own index y bytes maxL rt ws rm mc ms n ∧ (Cond.static y).before args s = true) (hn : As.length = n) (hst : st = As.reverse ++ rest) (hcat : (rest.map fun v => v.category).sum ≤ 8) (hdg : decode cc pc = .ok (.invokestatic index, 3)) (hf : cells + mc ≤ R.cells ∧ slots + ms ≤ R.slots) (hnx : ∀ E : String, ¬ pc1 E)
    (kk : ∀ (r : Int32) (u : S), post r u → bh_W p l e R s m args below meth c nL D A cells slots Q (wf u) lv (pc + 3) (.int r :: rest)) : bh_W p l e R s m args below meth c nL D A cells slots Q w lv pc st := by
  intro H locs ls hP hD hS h
  obtain ⟨S0, hK, hA, hr, hlk⟩ := C
  have hD2 : va_D A (([] : va_W) ++ w) := hD
  have hF := bh_free hD2 hS hA
  have hDc : va_D (fun _ => True) w := hD.weaken (fun _ _ _ _ => trivial)
  refine bz_calli (bz_runS (As := As) (rest := rest) S0 (hM H.size) cw ⟨bh_xblind, fun U hU hW => ⟨rfl, ⟨by rw [hU], by rw [hU]; exact hP, va_K.moved hW.alike hK, hDc⟩, by rw [hU]; exact hE.to hW hS.2.1 hF⟩⟩ rfl hn h.1 hst (lv_room hcat) hdg hf) hS (fun q _ h => hF q h) hF (fun q _ h => hF q h) (fun E ce q9 u t H1 locs1 ht hvm hp hB hz1 hk1 hS1 hce hcv hcl => absurd hB.1 (hnx E)) (fun r u t H1 locs1 ht hvm hp hB hz1 hk1 hS1 => ?_)
  obtain ⟨hP1, hK1, hD1⟩ := hB
  rw [ht] at hP1
  have hP0 : va_P D vwCl (([] : va_W) ++ w) H := hP
  obtain ⟨hP3, hD3⟩ := bh_join hP0 hD2 hk1 hF hP1 hD1
  exact kk r u hp H1 locs1 ls hP3 hD3 hS1 h
end BHS
