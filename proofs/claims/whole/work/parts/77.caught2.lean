/-! methods with a table of handlers; calls of them -/
theorem cs_I : Cond.castable eI eI ∈ wsH := by simp [wsH]
theorem cs_S : Cond.castable eS eS ∈ wsH := by simp [wsH]
theorem cs_A : Cond.castable eA eA ∈ wsH := by simp [wsH]
section WX
variable {p : Program} {l : Launch} {e : Env} {R : Room} {s : State} {m : MethodId} {args : Array Value} {below : List Frame} {meth : Method} {c : Code} {H : Heap} {locs : List Loc} {cells slots : Nat} {Q : State → Prop}
variable {pc : Nat} {ls : Array Slot} {rest st0 : List Value} {D : va_G} {cl : List vw_C} {A : Nat → Prop} {tys : List (ClassId × FieldType)} {ws wi wr : va_W} {H0 : Heap} {mc ms : Nat}
variable {y : MethodName} {bytes cc : ByteArray} {maxL nL n index : Nat} {ret : Option FieldType} {wsy Ts : List Cond} {rm : Room} {own : String} {As : List Value} {hh : List (Nat × Nat × Nat × Nat)}
theorem x_ofW {ws' : List Cond} {av : List Value} {sz N0 : Nat} {Qc : (Nat → Prop) → Array Value → State → Outcome → State → Prop}
    (hN0 : ∀ q ∈ wi, N0 ≤ q.1) (hy : plainName y.cls = true) (hw : wsy = Cond.codeWith y cc maxL ret hh :: ws') (hsl : (lg_sl av).length ≤ maxL)
    (body : ∀ (p : Program) (e : Env) (s : State) (m : MethodId) (args : Array Value) (below : List Frame) (meth : Method) (c : Code) (A : Nat → Prop) (H : Heap) (locs : List Loc) (ls : Array Slot), p.tables.exec = Jvm.exec → c.code = cc → meth.sig.returnType = ret → (∀ w ∈ wsy, w.before args s = true) → s.vm.findClass y.cls = some m.cls → meth.locks = false → c.maxLocals = maxL → meth.name = y.name →
      va_P D cl wi H → va_K D cl tys s → va_D A wi → xN s → (∀ q, s.heap.size ≤ q → A q) → va_S A s.heap H locs → lv_has ls maxL (lv_args 0 av) → c.exceptionTable.toList.map (fun h => (h.startPc, h.endPc, h.handlerPc, h.catchType)) = hh → xS N0 s → (∀ q, A q → N0 ≤ q) → W p l e rm s m args below meth c H locs 0 0 (MQ below (Qc A) args s mc ms A) (F0 m 0 ls [])) :
    Met l y wsy rm (xPcT D cl tys av wi sz N0) (Qc (va_A wi sz)) mc ms (va_A wi sz) := by
  refine va_MetW (cc := cc) (maxL := maxL) (ret := ret) (hh := hh) hy hw ?_
  intro p e s m args below meth c s₁ B hml hv
  obtain ⟨⟨rfl, hsz, hP, hK, hD0, hN⟩, hX⟩ := hv
  subst hsz
  rw [lg_entry_eq]
  have hcd := atoms_spec (ws := wsy) B.pre (Cond.codeWith y cc maxL ret hh) (by rw [hw]; exact List.mem_cons_self)
  obtain ⟨m9, meth9, c9, hn9, h1, h2, -, -, h5, -⟩ := Cond.codeWith_spec hcd
  cases B.named.symm.trans hn9
  cases B.method.symm.trans h1
  cases (Stand.of_body B).code.symm.trans h2
  exact body p e s m av.toArray below meth c (va_A wi s.heap.size) s.heap [] _ B.exec B.bytes B.returns (atoms_spec (ws := wsy) B.pre) (findClass_of_methodNamed B.named) B.notSynchronized hml (name_of_methodNamed B.named B.method).1 hP hK (hD0.self (sz := s.heap.size)) hN (fun q h => Or.inr h) va_S.rf (lv_entry av hsl) h5 hX (fun q h => by
    rcases h with ⟨k, e9, h⟩ | h
    · exact hN0 _ (List.mem_of_getElem? h)
    · exact Nat.le_trans hX.1 h)
theorem callSW {T : State} (X : Stand p l e R s m args below meth c T locs cells slots) (hexec : p.tables.exec = Jvm.exec)
    (hown : s.vm.findClass own = some m.cls) (hlink : (Cond.methodLink own index y).before args s = true) (hstat : (Cond.static y).before args s = true) (hinit : (Cond.initialized y.cls).before args s = true)
    (hcode : (Cond.codeWith y bytes maxL ret hh).before args s = true) (hy : y.cls ≠ "java/lang/invoke/MethodHandle" ∧ y.cls ≠ "java/lang/invoke/VarHandle")
    {W : Nat} {Pre : Pt → Array Value → Prop} {Post : Pt → Array Value → Option Value → Pt → Prop} (hK : Back l R p e below s args y 3 W Pre Post)
    {g : JFrame} (hg : g.method = m) (hsize : g.locals.size = c.maxLocals) {argsL rest : List Value} (hlen : ∀ sig, parseMethodDescriptor y.desc = some sig → argsL.length = sig.parameters.length)
    (hstack : g.stack = argsL.reverse ++ rest) (hW : 2 * g.monitorRoom + (rest.map fun v => v.category).sum ≤ W) (hdg : decode c.code g.pc = .ok (.invokestatic index, 3))
    (hpre : ∀ vm₁, s.WarmedH vm₁ → Pre ⟨T.setVm vm₁, locs, cells, slots⟩ argsL.toArray) :
    ∃ (v : Option Value) (vm₁ : Vm) (B : Pt), s.WarmedH vm₁ ∧ Stand p l e R s m args below meth c B.U B.locs B.cells B.slots ∧ Post ⟨T.setVm vm₁, locs, cells, slots⟩ argsL.toArray v B ∧
      ∀ target, Steps p.tables e below (B.U.setTop { g with pc := g.pc + 3, stack := v.toList ++ rest }) target → Steps p.tables e below (T.setTop g) target := by
  obtain ⟨mk, methM, cM, hnamed, hmethM, -, -, -, -, -, -, hsigM⟩ := Cond.codeWith_spec hcode
  have hstatic : methM.isStatic = true := Cond.static_spec hnamed hmethM hstat
  obtain ⟨kP, hkP, -⟩ := className_of_methodNamed hnamed
  have hinitP : kP.init = .initialized := Cond.initialized_spec (findClass_of_methodNamed hnamed) hkP hinit
  obtain ⟨vm₁, X₁, hstep₁⟩ := X.invokestatic hexec hown hlink hnamed hmethM hstatic hkP hinitP hy (g := g) hg (argsL := argsL) (rest := rest) (hlen _ hsigM) hstack hdg
  obtain ⟨v, B, X', hpost, hsteps⟩ := hK m meth c ⟨T.setVm vm₁, locs, cells, slots⟩ { g with stack := rest } (.invokestatic index) mk argsL.toArray X₁ hg hsize hdg hW (X₁.named hnamed) (hpre vm₁ X₁.warmed)
  exact ⟨v, vm₁, B, X₁.warmed, X', hpost, fun target h => hstep₁ _ fun acts => by rw [doInvoke_state]; exact hsteps.trans h⟩
theorem x_SWi {S : Type} {post : Int32 → S → Prop} {wo : S → va_W} {N0 : Nat} (S0 : CallFix p m c cc nL s args Ts own) (hM : Met l y wsy rm (xPcT D cl tys As wi H.size N0) (va_Qi post (xB D cl tys (va_A wi H.size) wo) (va_A wi H.size)) mc ms (va_A wi H.size))
    (hrm : rm.cells = mc ∧ rm.slots = ms ∧ rm.frames + 1 ≤ R.frames ∧ 8 + (maxL + 11) + rm.locals ≤ R.locals) (hws : ∀ w ∈ wsy, ∀ (a' : Array Value) (U : State), s.WarmedH U.vm → w.before a' U = true) (hcw : Cond.codeWith y bytes maxL ret hh ∈ wsy) (hcode : (Cond.codeWith y bytes maxL ret hh).before args s = true) (hini : (Cond.initialized y.cls).before args s = true) (hy : y.cls ≠ "java/lang/invoke/MethodHandle" ∧ y.cls ≠ "java/lang/invoke/VarHandle" ∧ (parseMethodDescriptor y.desc).map (fun d => d.parameters.length) = some n) (hlk : (Cond.methodLink own index y).before args s = true) (hstt : (Cond.static y).before args s = true)
    (hn0 : As.length = n) (hsize : ls.size = nL) (hst : st0 = As.reverse ++ rest) (hW : (rest.map fun v => v.category).sum ≤ 8) (hdg : decode cc pc = .ok (.invokestatic index, 3)) (hf : cells + mc ≤ R.cells ∧ slots + ms ≤ R.slots)
    (hN : xN s) (hK : va_K D cl tys s) (hP : va_P D cl ws H) (hD : va_D A ws) (hS : va_S A H0 H locs) (hA : ∀ q, H0.size ≤ q → A q) (isC isR : List Nat) (hC : isC.map (fun i => ws[i]?) = wi.map some) (hR : isR.map (fun i => ws[i]?) = wr.map some) (hn : va_nd isR = true) (hdis : ∀ i ∈ isR, i ∉ isC) (hnc : va_nd isC = true)
    (hX : xS N0 s) (hH0 : H0 = s.heap) (hA0 : ∀ q, A q → N0 ≤ q)
    (kk : ∀ (r : Int32) (u : S) (H1 : Heap) (locs1 : List Loc), post r u → va_P D cl (wr ++ wo u) H1 → va_D A (wr ++ wo u) → va_S A H0 H1 locs1 → W p l e R s m args below meth c H1 locs1 (cells + mc) (slots + ms) Q (F0 m (pc + 3) ls (.int r :: rest))) :
    W p l e R s m args below meth c H locs cells slots Q (F0 m pc ls st0) := by
  subst hH0
  have hblind : FrameBlind (xPcT D cl tys As wi H.size N0) := fun a U g mk q => ⟨x_blind a U g mk q.1, xS_mv (U := U.calling g mk a) (State.WarmedH.refl U) (fun _ _ => rfl) q.2.1 q.2⟩
  have hBk : Back l R p e below s args y 3 8 (PreOf R mc ms (xPcT D cl tys As wi H.size N0)) (PostOf (va_Qi post (xB D cl tys (va_A wi H.size) wo) (va_A wi H.size)) mc ms (va_A wi H.size)) :=
    va_backW (hh := hh) (bytes := bytes) (maxL := maxL) (ret := ret) hM hblind hrm.1 hrm.2.1 hrm.2.2.1 hrm.2.2.2 hws hcw (fun a' U hW => word_at hW (Or.inl (by first | rfl | simp [Cond.onTables, Cond.keeps, Cond.steady])) hini)
  have hPre := x_preS (As := As) hN hK hP hD hC hnc
  obtain ⟨hx, hb, hml, ho, -⟩ := S0
  refine x_ji (tys := tys) (mc := mc) (ms := ms) (a := As.toArray) (rest := rest) (post := post) (wo := wo) (fun T hT X => ?_) hP hD hS hA isC isR hC hR hn hdis kk
  obtain ⟨v, vm₁, ⟨U', l2, c2, s2⟩, hW₁, X', ⟨g', mk, t, L, e1, e2, hq, h1, hL, h2, h3⟩, st⟩ := callSW X hx (hh := hh) (bytes := bytes) (maxL := maxL) (ret := ret) ho hlk hstt hini hcode ⟨hy.1, hy.2.1⟩ hBk (g := F0 m pc ls st0) rfl (hsize.trans hml.symm) (argsL := As) (rest := rest) (fun sig h => by have h2 := hy.2.2; rw [h] at h2; rw [hn0]; exact (Option.some.inj h2).symm) hst (lv_room hW) (by rw [hb]; exact hdg)
    (fun vm₁ hW₁ => ⟨hf.1, hf.2, hPre.2 (T.setVm vm₁) hT hW₁, xS_mv (U := T.setVm vm₁) hW₁ (fun q h9 => by
      show T.heap[q]? = _
      rw [hT]; exact hS.2.1 q (Nat.lt_of_lt_of_le h9 hX.1) (fun z => absurd (hA0 q z) (Nat.not_le.mpr h9))) (by show N0 ≤ T.heap.size; rw [hT]; exact Nat.le_trans hX.1 hS.1) hX⟩)
  dsimp only [Pt.U, Pt.locs, Pt.cells, Pt.slots] at X' e1 e2 h1 h2 h3 st
  subst h1; subst h2; subst h3
  exact ⟨v, (T.setVm vm₁).calling g' mk As.toArray, t, U', L, hT, X', hL, e1, e2, hq, st⟩
end WX

