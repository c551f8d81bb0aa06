/-! a throw that is caught, where the rows of the table are not yet resolved: our own rows -/
section COLD
/-- the rows of a table, read from the first: one that does not cover the place, or names a class that does not take the thrown object, is passed; the first that takes it goes on at hp -/
def coldR (pl : Platform) (s0 : State) (d th : ClassId) (pc hp : Nat) : List ExceptionTableEntry → Prop
  | [] => False
  | x :: t => (covers x pc = false ∧ coldR pl s0 d th pc hp t) ∨ (covers x pc = true ∧ x.catchType ≠ 0 ∧ ∃ cT : ClassId, s0.vm.ClassLinks pl d x.catchType cT ∧ ((s0.vm.assignable th cT = true ∧ x.handlerPc = hp) ∨ (s0.vm.assignable th cT = false ∧ coldR pl s0 d th pc hp t)))
theorem cg_row {Q : Handler → Pre} {E : CtlPost} {e : Env} {d : Bool} {acts : List Action} {S : State} {f : JFrame} {a : Addr} {x : ExceptionTableEntry} {t : List ExceptionTableEntry} {cT : ClassId} {ce : Cell}
    (hx : covers x f.pc = true) (h0 : x.catchType ≠ 0) (hl : S.vm.ClassLinks e.platform f.method.cls x.catchType cT) (hce : S.heap[a]? = some ce) (hob : ∀ k, ce.vm ≠ .statics k) {k1 k2 : Class} (h1 : S.vm.classes[ce.cls]? = some k1) (h2 : S.vm.classes[cT]? = some k2) :
    wp (findHandler.go f a (x :: t)) Q E e d acts S ↔ (if S.vm.assignable ce.cls cT = true then Q (.found x.handlerPc) d acts (S.setVm (S.vm.noted f.method.cls x.catchType (.cls cT))) else wp (findHandler.go f a t) Q E e d acts (S.setVm (S.vm.noted f.method.cls x.catchType (.cls cT)))) := by
  have al : S.vm.Alike (S.vm.noted f.method.cls x.catchType (.cls cT)) := (Vm.Alike.refl S.vm).noted _ _ _
  obtain ⟨r1, r2⟩ := (resolveClass_links e.toSetting hl).op (op := VmOp.resolveClass f.method.cls x.catchType) rfl
  obtain ⟨j1, i1, -⟩ := al.2.2 _ _ h1
  obtain ⟨j2, i2, -⟩ := al.2.2 _ _ h2
  simp only [covers] at hx
  cases hq : S.vm.assignable ce.cls cT with
  | true =>
    have hq2 : (S.vm.noted f.method.cls x.catchType (.cls cT)).assignable ce.cls cT = true := (al.assignable _ _).trans hq
    rw [if_pos rfl]
    simp [findHandler.go, hx, h0, r1, r2, hce, hob, i1, i2, hq2, VmOp.dirties, VmOp.acts]
  | false =>
    have hq2 : (S.vm.noted f.method.cls x.catchType (.cls cT)).assignable ce.cls cT = false := (al.assignable _ _).trans hq
    rw [if_neg (by decide)]
    simp [findHandler.go, hx, h0, r1, r2, hce, hob, i1, i2, hq2, VmOp.dirties, VmOp.acts]
theorem cg_go {e : Env} {s0 : State} {f : JFrame} {a : Addr} {ce : Cell} {hp : Nat} (hob : ∀ k, ce.vm ≠ .statics k) {k0 : Class} (hk0 : s0.vm.classes[ce.cls]? = some k0) : ∀ (rows : List ExceptionTableEntry) (S : State), coldR e.platform s0 f.method.cls ce.cls f.pc hp rows → s0.WarmedH S.vm → S.heap[a]? = some ce → ∃ vm' : Vm, s0.WarmedH vm' ∧ ∀ (Q : Handler → Pre) (E : CtlPost) (d : Bool) (acts : List Action), wp (findHandler.go f a rows) Q E e d acts S ↔ Q (.found hp) d acts (S.setVm vm')
  | [], _, h, _, _ => False.elim h
  | x :: t, S, h, hW, hce => by
    rcases h with ⟨hx, ht⟩ | ⟨hx, h0, cT, hl, hh⟩
    · obtain ⟨vm', g1, g2⟩ := cg_go hob hk0 t S ht hW hce
      refine ⟨vm', g1, fun Q E d acts => ?_⟩
      rw [Jvm.W.findHandler_go_skip hx]
      exact g2 Q E d acts
    obtain ⟨dk, _, _, kt, hd, _, _, _, _, hkt, _, hop⟩ := hl.here
    obtain ⟨k1, hk1, -⟩ := hW.alike.2.2 _ _ hk0
    obtain ⟨k2, hk2, -⟩ := hW.alike.2.2 _ _ hkt
    have hW2 : s0.WarmedH (S.vm.noted f.method.cls x.catchType (.cls cT)) := hW.noted hd hop (State.rightAt_cls hl)
    have ha : S.vm.assignable ce.cls cT = s0.vm.assignable ce.cls cT := hW.alike.assignable _ _
    rcases hh with ⟨q, e9⟩ | ⟨q, ht⟩
    · refine ⟨_, hW2, fun Q E d acts => ?_⟩
      rw [cg_row hx h0 (hW.classLinks hl) hce hob hk1 hk2, if_pos (ha.trans q), e9]
    · obtain ⟨vm', g1, g2⟩ := cg_go hob hk0 t (S.setVm (S.vm.noted f.method.cls x.catchType (.cls cT))) ht hW2 hce
      refine ⟨vm', g1, fun Q E d acts => ?_⟩
      rw [cg_row hx h0 (hW.classLinks hl) hce hob hk1 hk2, if_neg (by rw [ha, q]; decide)]
      exact g2 Q E d acts
theorem cold_of {pl : Platform} {s : State} {args : Array Value} {own E : String} {d th : ClassId} {pc hpc : Nat} {x9 : Nat × Nat × Nat × Nat} {post9 : List (Nat × Nat × Nat × Nat)} (hpl : pl.magicAccessors = ({} : Platform).magicAccessors) (ho : s.vm.findClass own = some d) (hE : s.vm.findClass E = some th) (hx : x9.1 ≤ pc ∧ pc < x9.2.1) (h0 : x9.2.2.2 ≠ 0) (hlk : (Cond.classLink own x9.2.2.2 E).before args s = true) (has : (Cond.castable E E).before args s = true) (hh : x9.2.2.1 = hpc) :
    ∀ (pre : List (Nat × Nat × Nat × Nat)) (rows : List ExceptionTableEntry), rows.map (fun h => (h.startPc, h.endPc, h.handlerPc, h.catchType)) = pre ++ x9 :: post9 → (∀ r ∈ pre, r.2.2.2 ≠ 0 ∧ ∃ nm, (Cond.classLink own r.2.2.2 nm).before args s = true ∧ (Cond.not (.castable E nm)).before args s = true) → coldR pl s d th pc hpc rows
  | [], rows, hm, _ => by
    obtain ⟨x, t, rfl, hx1, -⟩ := List.map_eq_cons_iff.mp hm
    rw [← hx1] at hx h0 hlk hh
    obtain ⟨c1, hc1, hcl⟩ := Cond.classLink_spec ho hlk pl hpl
    cases hE.symm.trans hc1
    obtain ⟨c3, c4, hc3, hc4, hasg⟩ := Cond.castable_spec has
    cases hE.symm.trans hc3
    cases hE.symm.trans hc4
    refine Or.inr ⟨?_, h0, th, hcl, Or.inl ⟨hasg, hh⟩⟩
    simp only [covers, Bool.and_eq_true, decide_eq_true_eq]
    exact hx
  | r :: pre, rows, hm, hpr => by
    obtain ⟨x, t, rfl, hx1, ht⟩ := List.map_eq_cons_iff.mp hm
    have ih := cold_of hpl ho hE hx h0 hlk has hh pre t ht (fun r hr => hpr r (List.mem_cons_of_mem _ hr))
    by_cases hcv : covers x pc = true
    · obtain ⟨n0, nm, l1, l2⟩ := hpr r List.mem_cons_self
      rw [← hx1] at n0 l1
      obtain ⟨c1, hc1, hcl⟩ := Cond.classLink_spec ho l1 pl hpl
      have hv := Cond.holds_not_iff.mp l2
      simp only [Cond.value, hE, hc1] at hv
      exact Or.inr ⟨hcv, n0, c1, hcl, Or.inr ⟨Option.some.inj hv, ih⟩⟩
    · exact Or.inl ⟨by simpa using hcv, ih⟩
variable {p : Program} {l : Launch} {e : Env} {R : Room} {s : State} {m : MethodId} {args : Array Value} {below : List Frame} {meth : Method} {c : Code} {T : State} {locs : List Loc} {cells slots : Nat}
/-- from the throw over the frame g to the handler's first row -/
theorem cg_caught (X : Stand p l e R s m args below meth c T locs cells slots) (v : Addr) {g : JFrame} (hg : g.method = m) {ce : Cell} (hce : T.heap[v]? = some ce) (hob : ce.vm.isStatics = false) {k0 : Class} (hk0 : s.vm.classes[ce.cls]? = some k0) {hp : Nat} (hr : coldR e.platform s m.cls ce.cls g.pc hp c.exceptionTable.toList) :
    ∃ vm' : Vm, Stand p l e R s m args below meth c (T.setVm vm') locs cells slots ∧ Steps p.tables e below ((T.setTop g).pushFrame (.throwing v)) ((T.setVm vm').setTop { g with pc := hp, stack := [.ref v] }) := by
  subst hg
  obtain ⟨vm', hW', hq⟩ := cg_go (e := e) (f := g) (a := v) (VmData.ne_statics_of hob) hk0 _ ((T.setTop g).pushFrame (.throwing v)) hr X.warmed hce
  have hfind : ∀ (Q : Handler → Pre) (E : CtlPost) (d : Bool) (acts : List Action), wp (findHandler g v) Q E e d acts ((T.setTop g).pushFrame (.throwing v)) ↔ Q (.found hp) d acts (((T.setTop g).pushFrame (.throwing v)).setVm vm') := fun Q E d acts => by
    rw [Jvm.W.findHandler_eq (s := (T.setTop g).pushFrame (.throwing v)) (meth := meth) (code := c) X.method' X.code]; exact hq Q E d acts
  refine ⟨vm', X.noted hW', ?_⟩
  obtain ⟨hgo, hw⟩ := X.here.throwing v
  refine Steps.head hgo hw ?_
  have hst : (stepThrowing e ((T.setTop g).pushFrame (.throwing v)) v (.java g :: T.frames.tail)).Is ((((T.setTop g).pushFrame (.throwing v)).setVm vm').setFrames (.java { g with pc := hp, stack := [.ref v] } :: T.frames.tail)) [] := by
    simp only [stepThrowing, searchFrame, vmDo]
    generalize hgz : Sem.go _ e false [] ((T.setTop g).pushFrame (.throwing v)) = res
    obtain ⟨as, rfl, ha⟩ := Sem.eq_ok_of hgz (a := Handler.found hp) (s' := ((T.setTop g).pushFrame (.throwing v)).setVm vm') (acts' := []) (by simp [hfind _ _ _ _])
    exact ⟨rfl, ha⟩
  rw [stepThread_throwing (frames_entered X.here.top _), hst.1]
  obtain ⟨g1, hfr⟩ := X.frames_eq
  have hfr2 : (T.setVm vm').frames = .java g1 :: below := hfr
  rw [State.setTop_of_frames _ hfr2, hfr]
  have e1 : (((T.setTop g).pushFrame (.throwing v)).setVm vm').setFrames (.java { g with pc := hp, stack := [.ref v] } :: below) = (T.setVm vm').setFrames (.java { g with pc := hp, stack := [.ref v] } :: below) := by
    rw [State.pushFrame, State.setTop_of_frames _ hfr, State.setFrames_setFrames]
    have e2 : ∀ F : List Frame, (T.setFrames F).setVm vm' = (T.setVm vm').setFrames F := fun F => rfl
    rw [e2, State.setFrames_setFrames]
  show Steps p.tables e below ((((T.setTop g).pushFrame (.throwing v)).setVm vm').setFrames (.java { g with pc := hp, stack := [.ref v] } :: below)) _
  rw [e1]
  exact Steps.refl _
/-- a call that throws: what its caller may lean on -/
def bkT (l : Launch) (R : Room) (p : Program) (e : Env) (below : List Frame) (s : State) (sargs : Array Value) (y : MethodName) (len W : Nat) (Pre : Pt → Array Value → Prop) (Post : Pt → Array Value → Addr → Pt → Prop) : Prop :=
  ∀ (m : MethodId) (meth : Method) (c : Code) (A : Pt) (g : JFrame) (ig : Instr) (mk : MethodId) (a : Array Value), Stand p l e R s m sargs below meth c A.U A.locs A.cells A.slots → g.method = m → g.locals.size = c.maxLocals → decode c.code g.pc = .ok (ig, len) → 2 * g.monitorRoom + (g.stack.map fun v => v.category).sum ≤ W → A.U.methodNamed? y = some mk → Pre A a →
    ∃ (x : Addr) (B : Pt), Stand p l e R s m sargs below meth c B.U B.locs B.cells B.slots ∧ Post A a x B ∧ Steps p.tables e below (doInvoke e (A.U.setTop g) [] mk a).1 ((B.U.setTop g).pushFrame (.throwing x))
end COLD

