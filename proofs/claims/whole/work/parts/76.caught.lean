/-! throwing over the whole object; a call that throws, and is caught -/
theorem x_frt {l : Launch} {D : va_G} {cl : List vw_C} {tys : List (ClassId × FieldType)} {y : MethodName} {wsy : List Cond} {rm : Room} {av : List Value} {mc ms sz N0 : Nat} {b : va_W} {R : Nat → Nat × va_E} {it : List Nat} {S : Type} {wo B1 : S → va_W} {R1 : S → Nat → Nat × va_E} {E : String} {post : S → Prop} (O : frO b R it wo B1 R1 post) (hM : MetT l y wsy rm (xPcT D cl tys av (b ++ it.map R) sz N0) (va_Qt E post (xB D cl tys (va_A (b ++ it.map R) sz) wo) (va_A (b ++ it.map R) sz)) mc ms (va_A (b ++ it.map R) sz)) :
    MetT l y wsy rm (xPcT D cl tys av (b ++ rgs R) sz N0) (va_Qt E post (xB D cl tys (va_A (b ++ rgs R) sz) (fun u => B1 u ++ rgs (R1 u))) (va_A (b ++ rgs R) sz)) mc ms (va_A (b ++ rgs R) sz) := by
  refine x_mono hM (fun a s h => ⟨fr_pre O.six O.inj h.1, h.2⟩) (fun a s o t h hq => ?_)
  obtain ⟨⟨h1, h2, hP, hK, hD, hN⟩, hX⟩ := h
  obtain ⟨⟨⟨u, x, ce, ho, hp, ⟨hP1, hK1, hD1⟩, hce, h9, hcl⟩, hF⟩, L, hE, hL⟩ := hq
  subst h2
  obtain ⟨g1, g2⟩ := fr_core O hp hP hD hF.2 hP1
  exact ⟨⟨⟨u, x, ce, ho, hp, ⟨g1, hK1, g2⟩, hce, h9, hcl⟩, fr_F hF (fun q => fr_A O.six)⟩, L, hE, fun q hq => fr_A O.six (hL q hq)⟩
def PostTOf (Qc : Array Value → State → Outcome → State → Prop) (mc ms : Nat) (free : Addr → Prop) : Pt → Array Value → Addr → Pt → Prop := fun A a v B =>
  ∃ (g : JFrame) (mk : MethodId) (t : State) (L : List Loc), B.U.heap = t.heap ∧ B.U.vm = t.vm ∧ Qc a (A.U.calling g mk a) (.threw v) t ∧ B.locs = A.locs ++ L ∧ (∀ q ∈ L, free q.base) ∧ B.cells = A.cells + mc ∧ B.slots = A.slots + ms
theorem backT_of {l : Launch} {R : Room} {p : Program} {e : Env} {below : List Frame} {s : State} {sargs : Array Value} {y : MethodName} {len W : Nat} {ws : List Cond} {rm : Room} {Pc : Array Value → State → Prop} {Qc : Array Value → State → Outcome → State → Prop} {mc ms : Nat} {free : Addr → Prop} {bytes : ByteArray} {maxL : Nat} {ret : Option FieldType}
    (hM : MetT l y ws rm Pc Qc mc ms free) (hblind : FrameBlind Pc) (hrc : rm.cells = mc) (hrs : rm.slots = ms)
    (hframes : rm.frames + 1 ≤ R.frames) (hlocals : W + (maxL + 11) + rm.locals ≤ R.locals)
    (hws : ∀ w ∈ ws, ∀ a' U, s.WarmedH U.vm → w.before a' U = true) (hcode : Cond.code y bytes maxL ret ∈ ws) (hinit : ∀ a' U, s.WarmedH U.vm → (Cond.initialized y.cls).before a' U = true) :
    bkT l R p e below s sargs y len W (PreOf R mc ms Pc) (PostTOf Qc mc ms free) := by
  intro m meth c A g ig mk a X hg hsize hdg hW hn hp
  obtain ⟨U, Ls, c0, s0⟩ := A
  dsimp only [Pt.U, Pt.locs, Pt.cells, Pt.slots] at X hn ⊢
  subst hg
  obtain ⟨methY, cY, hmY, hcY, -, hlY, -, -, -, -⟩ := Cond.code_spec hn (hws _ hcode a U X.warmed)
  obtain ⟨kY, hkY, -⟩ := className_of_methodNamed hn
  have hini : kY.init = .initialized := Cond.initialized_spec (findClass_of_methodNamed hn) hkY (hinit a U X.warmed)
  have happ : (headSpec ws rm).appliesLoose y e.platform (U.calling g mk a) = true :=
    Spec.appliesLoose_calling (g := g) X.here hdg hn hkY hini (X.room_calling (g := g) (R' := (headSpec ws rm).room) hsize hmY hcY hframes (by rw [hlY]; show 2 * g.monitorRoom + (g.stack.map fun v => v.category).sum + (maxL + 11) + rm.locals ≤ R.locals; omega) (by show c0 + rm.cells ≤ R.cells; rw [hrc]; exact hp.1) (by show s0 + rm.slots ≤ R.slots; rw [hrs]; exact hp.2.1)) (atoms_intro fun w hw => hws w hw _ _ X.warmed)
  obtain ⟨g0, hfr⟩ := X.frames_eq
  have hfs : (U.setTop g).frames = [.java g] ++ below := by rw [State.frames_setTop _ hfr]; rfl
  obtain ⟨o, t, hst, -, hend, hq, L, hF, hL⟩ := Steps.callFree hM p X.admits X.cas X.clock (acts := []) hfs happ (hblind _ _ _ _ hp.2.2) trivial
  obtain ⟨⟨v, rfl⟩, hW2, hsm⟩ := hF
  rw [hfs] at hend
  obtain ⟨T2, X2, -, -, ht⟩ := X.outOfThrown (g := g) rfl (mk := mk) (a := a) hend hW2 hsm
  refine ⟨v, ⟨T2, Ls ++ L, c0 + mc, s0 + ms⟩, X2, ⟨g, mk, t, L, ?_, ?_, hq, rfl, hL, rfl, rfl⟩, ht ▸ hst⟩
  · rw [ht]; rfl
  · rw [ht]; rfl
section CT
variable {p : Program} {l : Launch} {e : Env} {R : Room} {s : State} {m : MethodId} {args : Array Value} {below : List Frame} {meth : Method} {c : Code} {T : State} {locs : List Loc} {cells slots : Nat}
theorem callVT (X : Stand p l e R s m args below meth c T locs cells slots) (hexec : p.tables.exec = Jvm.exec) {own C : String} {index : Nat} {y : MethodName} {bytes : ByteArray} {maxL : Nat} {ret : Option FieldType}
    (hown : s.vm.findClass own = some m.cls) (hlink : (Cond.methodLink own index y).before args s = true) (hinst : (Cond.instanceMethod y).before args s = true) (hsel : (Cond.selects C y y).before args s = true)
    (hcode : (Cond.code y bytes maxL ret).before args s = true) (hy : y.cls ≠ "java/lang/invoke/MethodHandle" ∧ y.cls ≠ "java/lang/invoke/VarHandle")
    {W : Nat} {Pre : Pt → Array Value → Prop} {Post : Pt → Array Value → Addr → Pt → Prop} (hK : bkT l R p e below s args y 3 W Pre Post)
    {b : Addr} {cellB : Cell} (hcell : T.heap[b]? = some cellB) (hobj : cellB.vm.isStatics = false) (hcls : s.vm.findClass C = some cellB.cls)
    {g : JFrame} (hg : g.method = m) (hsize : g.locals.size = c.maxLocals) {argsL rest : List Value} (hlen : ∀ sig, parseMethodDescriptor y.desc = some sig → argsL.length = sig.parameters.length)
    (hstack : g.stack = argsL.reverse ++ .ref b :: rest) (hW : 2 * g.monitorRoom + (rest.map fun v => v.category).sum ≤ W) (hdg : decode c.code g.pc = .ok (.invokevirtual index, 3))
    (hpre : ∀ vm₁, s.WarmedH vm₁ → Pre ⟨T.setVm vm₁, locs, cells, slots⟩ (Value.ref b :: argsL).toArray) :
    ∃ (v : Addr) (vm₁ : Vm) (B : Pt), s.WarmedH vm₁ ∧ Stand p l e R s m args below meth c B.U B.locs B.cells B.slots ∧ Post ⟨T.setVm vm₁, locs, cells, slots⟩ (Value.ref b :: argsL).toArray v B ∧
      Steps p.tables e below (T.setTop g) ((B.U.setTop { g with stack := rest }).pushFrame (.throwing v)) := by
  obtain ⟨mk, methM, hnamed, hmethM, hstM, habM⟩ := Cond.instanceMethod_spec hinst
  obtain ⟨methM', cM, hmethM', -, -, -, -, -, -, hsigM⟩ := Cond.code_spec hnamed hcode
  cases hmethM.symm.trans hmethM'
  obtain ⟨c2, r2, m2, q1, q2, q3, q4, kP, hkP, hkPi⟩ := Cond.selects_spec hsel
  cases hcls.symm.trans q1
  cases (State.methodFound?_of_named hnamed hy).symm.trans q2
  cases hnamed.symm.trans q3
  have hselP : selectMethod e.platform s.vm cellB.cls mk = .method mk := by rw [Launch.admits_selectMethod X.admits]; exact q4
  obtain ⟨vm₁, X₁, hstep₁⟩ := X.invokevirtual hexec hown hlink hnamed hmethM hstM hkP hkPi hy (a := b) (cell := cellB) hcell
    (fun z h => by rw [h] at hobj; cases hobj) hselP hmethM habM hkP hkPi (g := g) hg (argsL := argsL) (rest := rest) (hlen _ hsigM) hstack hdg
  obtain ⟨v, B, X', hpost, hsteps⟩ := hK m meth c ⟨T.setVm vm₁, locs, cells, slots⟩ { g with stack := rest } (.invokevirtual index) mk (Value.ref b :: argsL).toArray X₁ hg hsize hdg hW (X₁.named hnamed) (hpre vm₁ X₁.warmed)
  exact ⟨v, vm₁, B, X₁.warmed, X', hpost, hstep₁ _ fun acts => by rw [doInvoke_state]; exact hsteps⟩
end CT
section CX
variable {p : Program} {l : Launch} {e : Env} {R : Room} {s : State} {m : MethodId} {args : Array Value} {below : List Frame} {meth : Method} {c : Code} {H : Heap} {locs : List Loc} {cells slots : Nat} {Q : State → Prop}
variable {pc : Nat} {ls : Array Slot} {rest st0 : List Value} {D : va_G} {cl : List vw_C} {A : Nat → Prop} {tys : List (ClassId × FieldType)} {ws wi wr : va_W} {H0 : Heap} {mc ms : Nat}
variable {y : MethodName} {bytes cc : ByteArray} {maxL nL n index : Nat} {ret : Option FieldType} {wsy Ts : List Cond} {rm : Room} {own : String} {As : List Value} {b : Nat} {C : String}
/-- the rows of the table that are passed, and the one that catches -/
def cxT (own E : String) (args : Array Value) (s : State) (pc : Nat) (pre : List (Nat × Nat × Nat × Nat)) (x : Nat × Nat × Nat × Nat) : Prop :=
  (∀ r ∈ pre, r.2.2.2 ≠ 0 ∧ ∃ nm, (Cond.classLink own r.2.2.2 nm).before args s = true ∧ (Cond.not (.castable E nm)).before args s = true) ∧ x.1 ≤ pc ∧ pc < x.2.1 ∧ x.2.2.2 ≠ 0 ∧ (Cond.classLink own x.2.2.2 E).before args s = true ∧ (Cond.castable E E).before args s = true
theorem x_caught {S : Type} {E : String} {post : S → Prop} {wo : S → va_W} {N0 hpc : Nat} {pre post9 : List (Nat × Nat × Nat × Nat)} {x9 : Nat × Nat × Nat × Nat}
    (S0 : CallFix p m c cc nL s args Ts own) (hM : MetT l y wsy rm (xPcT D cl tys (.ref b :: As) wi H.size N0) (va_Qt E post (xB D cl tys (va_A wi H.size) wo) (va_A wi H.size)) mc ms (va_A wi H.size))
    (cw : CallW R s args own C index y bytes maxL ret wsy rm mc ms n) {q0 ci : Nat} {rc : vw_C} {fs : List Value} (hc : cl[ci]? = some rc) (hrc : rc.1 = C) (he : ws[q0]? = some (b, .inr (ci, fs)))
    (hn0 : As.length = n) (hsize : ls.size = nL) (hst : st0 = As.reverse ++ .ref b :: rest) (hW : (rest.map fun v => v.category).sum ≤ 8) (hdg : decode cc pc = .ok (.invokevirtual index, 3)) (hf : cells + mc ≤ R.cells ∧ slots + ms ≤ R.slots)
    (hN : xN s) (hK : va_K D cl tys s) (hP : va_P D cl ws H) (hD : va_D A ws) (hS : va_S A H0 H locs) (hA : ∀ q, H0.size ≤ q → A q) (isC isR : List Nat) (hC : isC.map (fun i => ws[i]?) = wi.map some) (hR : isR.map (fun i => ws[i]?) = wr.map some) (hn : va_nd isR = true) (hdis : ∀ i ∈ isR, i ∉ isC) (hnc : va_nd isC = true)
    (hX : xS N0 s) (hH0 : H0 = s.heap) (hA0 : ∀ q, A q → N0 ≤ q)
    (htb : c.exceptionTable.toList.map (fun h => (h.startPc, h.endPc, h.handlerPc, h.catchType)) = pre ++ x9 :: post9) (hcx : cxT own E args s pc pre x9) (hh : x9.2.2.1 = hpc)
    (kk : ∀ (u : S) (a : Nat) (H1 : Heap) (locs1 : List Loc), post u → va_P D cl (wr ++ wo u) H1 → va_D A (wr ++ wo u) → va_S A H0 H1 locs1 → W p l e R s m args below meth c H1 locs1 (cells + mc) (slots + ms) Q (F0 m hpc ls [.ref a])) :
    W p l e R s m args below meth c H locs cells slots Q (F0 m pc ls st0) := by
  subst hH0
  have hblind : FrameBlind (xPcT D cl tys (.ref b :: As) wi H.size N0) := fun a U g mk q => ⟨x_blind a U g mk q.1, xS_mv (U := U.calling g mk a) (State.WarmedH.refl U) (fun _ _ => rfl) q.2.1 q.2⟩
  have hBk : bkT l R p e below s args y 3 8 (PreOf R mc ms (xPcT D cl tys (.ref b :: As) wi H.size N0)) (PostTOf (va_Qt E post (xB D cl tys (va_A wi H.size) wo) (va_A wi H.size)) mc ms (va_A wi H.size)) := by
    obtain ⟨hrc, hrs, hfr, hlo, hws, hcw, -, hini, -⟩ := cw.1
    exact backT_of (bytes := bytes) (maxL := maxL) (ret := ret) hM hblind hrc hrs hfr hlo hws hcw (fun a' U hW => word_at hW (Or.inl (by first | rfl | simp [Cond.onTables, Cond.keeps, Cond.steady])) hini)
  have hPre := x_preV (As := As) hN hK hP hD hC hnc hc hrc he
  obtain ⟨⟨-, -, -, -, -, -, hcode, -, hy, hlen, hl⟩, hin, hse⟩ := cw
  obtain ⟨hx, hb, hml, ho, -⟩ := S0
  obtain ⟨-, ⟨cellB, hcB, hoB, hclB⟩, hPc⟩ := hPre
  have hFc := va_free (wc := wi) hD hS hA isC hC
  intro T hT X
  obtain ⟨v, vm₁, ⟨U', l2, c2, s2⟩, hW₁, X', ⟨g', mk, t, L, e1, e2, hq, h1, hL, h2, h3⟩, st⟩ := callVT X hx (C := C) (bytes := bytes) (maxL := maxL) (ret := ret) ho hl hin hse hcode hy hBk (by rw [hT]; exact hcB) hoB hclB (g := F0 m pc ls st0) rfl (hsize.trans hml.symm) (argsL := As) (rest := rest) (fun sig h => hn0.trans (hlen sig h)) hst (lv_room hW) (by rw [hb]; exact hdg)
    (fun vm₁ hW₁ => ⟨hf.1, hf.2, hPc (T.setVm vm₁) hT hW₁, xS_mv (U := T.setVm vm₁) hW₁ (fun q h9 => by
      show T.heap[q]? = _
      rw [hT]; exact hS.2.1 q (Nat.lt_of_lt_of_le h9 hX.1) (fun z => absurd (hA0 q z) (Nat.not_le.mpr h9))) (by show N0 ≤ T.heap.size; rw [hT]; exact Nat.le_trans hX.1 hS.1) hX⟩)
  dsimp only [Pt.U, Pt.locs, Pt.cells, Pt.slots] at X' e1 e2 h1 h2 h3 st
  subst h1; subst h2; subst h3
  obtain ⟨⟨u, x, ce, hxo, hp, ⟨hP1, hK1, hD1⟩, hce, h9, hcl⟩, hF⟩ := hq
  cases hxo
  have hFz : H.size ≤ t.heap.size := by have := hF.1; rw [← hT]; exact this
  have hFk : ∀ q : Nat, q < H.size → ¬ va_A wi H.size q → t.heap[q]? = H[q]? := fun q q1 q2 => by
    have := hF.2 q (by show q < T.heap.size; rw [hT]; exact q1) q2
    rw [this]; show T.heap[q]? = _; rw [hT]
  have hclE : s.vm.findClass E = some ce.cls := by
    have h : vm₁.findClass E = some ce.cls := hcl
    rw [hW₁.alike.findClass] at h; exact h
  obtain ⟨hpas, hx1, hx2, hx3, hx4, hx5⟩ := hcx
  have hpl : e.platform.magicAccessors = ({} : Platform).magicAccessors := by rw [X.admits.platform]
  obtain ⟨k0, hk0⟩ := Vm.classAt_of_findClass hclE
  obtain ⟨vm', XV, st2⟩ := cg_caught X' v (g := { F0 m pc ls st0 with stack := rest }) rfl (ce := ce) (by rw [e1]; exact hce) h9 hk0 (cold_of hpl ho hclE ⟨hx1, hx2⟩ hx3 hx4 hx5 hh pre _ htb hpas)
  have hS1 : va_S A s.heap t.heap (locs ++ L) := ⟨Nat.le_trans hS.1 hFz, fun q g1 g2 => (hFk q (Nat.lt_of_lt_of_le g1 hS.1) (fun z => g2 (hFc q z))).trans (hS.2.1 q g1 g2), fun q hq => by
    rcases List.mem_append.mp hq with h | h
    · exact hS.2.2 q h
    · exact hFc _ (hL q h)⟩
  obtain ⟨hP2, hD2⟩ := va_join hP hD isC isR hC hR hn hdis hFk hFc hP1 hD1
  obtain ⟨t2, a1, b1⟩ := kk u v t.heap (locs ++ L) hp hP2 hD2 hS1 (U'.setVm vm') e1 XV
  exact ⟨t2, (st.trans st2).trans a1, b1⟩
end CX
theorem fr_sub {b : va_W} {R : Nat → Nat × va_E} {it : List Nat} (h6 : ∀ i ∈ it, i < 6) {q : Nat × va_E} (h : q ∈ b ++ it.map R) : q ∈ b ++ rgs R := by
  obtain ⟨k, hk⟩ := List.getElem?_of_mem h
  exact List.mem_of_getElem? (fr_ix h6 hk)

