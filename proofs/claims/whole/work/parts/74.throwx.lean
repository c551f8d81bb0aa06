/-! what throwing wants beside the tables: two statics of Throwable, and that the exceptions are no kin -/
def sT1 : Cond := .isRef (.static "java/lang/Throwable" "UNASSIGNED_STACK" "[Ljava/lang/StackTraceElement;")
def sT2 : Cond := .isRef (.static "java/lang/Throwable" "SUPPRESSED_SENTINEL" "Ljava/util/List;")
def eI : String := "java/lang/IllegalArgumentException"
def eS : String := "java/lang/IllegalStateException"
def eA : String := "java/lang/ArithmeticException"
def eU : List String := ["java/lang/RuntimeException", "java/lang/Exception"]
def ncW (E n : String) (s : State) : Prop := (Cond.not (.castable E n)).before #[] s = true
theorem ncW_mv {E n : String} {s U : State} (hA : s.vm.Alike U.vm) (h : ncW E n s) : ncW E n U := by
  have hv := Cond.holds_not_iff.mp h
  refine Cond.holds_not_iff.mpr ?_
  simp only [Cond.value] at hv ⊢
  rw [hA.findClass, hA.findClass]
  cases h1 : s.vm.findClass E with
  | none => rw [h1] at hv; simp at hv
  | some c =>
    cases h2 : s.vm.findClass n with
    | none => rw [h1, h2] at hv; simp at hv
    | some t =>
      rw [h1, h2] at hv
      simp only [] at hv ⊢
      rw [hA.assignable]; exact hv
def wsH : List Cond := [sT1, sT2, .laysStatic "java/lang/Throwable" "UNASSIGNED_STACK" "[Ljava/lang/StackTraceElement;", .laysStatic "java/lang/Throwable" "SUPPRESSED_SENTINEL" "Ljava/util/List;", .declares ⟨"java/lang/RuntimeException", "<init>", "(Ljava/lang/String;)V"⟩, .declares ⟨"java/lang/Exception", "<init>", "(Ljava/lang/String;)V"⟩, .declares ⟨"java/lang/Throwable", "<init>", "(Ljava/lang/String;)V"⟩, .castable eI eI, .castable eS eS, .castable eA eA]
def xS (N0 : Nat) (s : State) : Prop := N0 ≤ s.heap.size ∧ (∀ U : State, s.WarmedH U.vm → (∀ q : Nat, q < N0 → U.heap[q]? = s.heap[q]?) → ∀ w ∈ wsH, ∀ a : Array Value, w.before a U = true) ∧ ncW eS eI s ∧ ncW eA eI s ∧ ncW eA eS s
theorem xS_mv {N0 : Nat} {s U : State} (hW : s.WarmedH U.vm) (hh : ∀ q : Nat, q < N0 → U.heap[q]? = s.heap[q]?) (hz : N0 ≤ U.heap.size) (h : xS N0 s) : xS N0 U :=
  ⟨hz, fun V hV hq => h.2.1 V (State.WarmedH.trans hW hV) (fun q h9 => (hq q h9).trans (hh q h9)), ncW_mv hW.alike h.2.2.1, ncW_mv hW.alike h.2.2.2.1, ncW_mv hW.alike h.2.2.2.2⟩
theorem ls_keep {C n d : String} {s U : State} {a a' : Array Value} (hA : s.vm.Alike U.vm) (hh : ∀ (q : Nat) (cell : Cell), s.heap[q]? = some cell → U.heap[q]? = some cell) (h : (Cond.laysStatic C n d).before a s = true) : (Cond.laysStatic C n d).before a' U = true := by
  simp only [Cond.before, Cond.holds, Cond.value] at h ⊢
  rw [hA.findClass]
  cases hc : s.vm.findClass C with
  | none => simp [hc] at h
  | some c =>
    cases hf : s.fieldFound? C n d with
    | none => simp [hc, hf] at h
    | some q =>
      obtain ⟨cf, k, i, f⟩ := q
      obtain ⟨k', hf', hk'⟩ := State.fieldFound?_setVm hA hf
      have hf2 : U.fieldFound? C n d = some (cf, k', i, f) := hf'
      cases hs : k.statics with
      | none => simp [hc, hf, hs] at h
      | some b =>
        cases hcell : s.heap[b]? with
        | none => simp [hc, hf, hs, hcell] at h
        | some cell =>
          have hc2 := hh b cell hcell
          have hs2 : k'.statics = some b := by rw [hk']; exact hs
          have ht2 : k'.staticTypes = k.staticTypes := by rw [hk']
          simp [hc, hf, hs, hcell] at h
          simp [hf2, hs2, hc2, ht2]
          exact h
theorem wm_keep {w : Cond} {s U : State} {a a' : Array Value} (hW : s.WarmedH U.vm) (hot : w.onTables = true) (hok : w.warmOk s) (h : w.before a s = true) : w.before a' U = true := by
  have h1 := Cond.before_warmed hW w hok h
  have e := Cond.onTables_vm (A := a) (A' := a') (U := s) (U' := U) U.vm w hot
  rw [e] at h1
  exact h1
theorem xS_start {s : State} {a : Array Value} (h : ∀ w ∈ wsH, w.before a s = true) (n1 : ncW eS eI s) (n2 : ncW eA eI s) (n3 : ncW eA eS s) : xS s.heap.size s := by
  refine ⟨Nat.le_refl _, fun U hW hh w hw a' => ?_, n1, n2, n3⟩
  have hc : ∀ (q : Nat) (cell : Cell), s.heap[q]? = some cell → U.heap[q]? = some cell := fun q cell hq => (hh q (Array.getElem?_eq_some_iff.mp hq).1).trans hq
  have h0 := h w hw
  simp only [wsH, List.mem_cons, List.not_mem_nil, or_false] at hw
  rcases hw with rfl | rfl | rfl | rfl | rfl | rfl | rfl | rfl | rfl | rfl
  · exact xs_keep hW.alike (fun q cell hq _ => hc q cell hq) h0
  · exact xs_keep hW.alike (fun q cell hq _ => hc q cell hq) h0
  · exact ls_keep hW.alike hc h0
  · exact ls_keep hW.alike hc h0
  · exact wm_keep hW rfl trivial h0
  · exact wm_keep hW rfl trivial h0
  · exact wm_keep hW rfl trivial h0
  · exact wm_keep hW rfl trivial h0
  · exact wm_keep hW rfl trivial h0
  · exact wm_keep hW rfl trivial h0
def xPcT (D : va_G) (cl : List vw_C) (tys : List (ClassId × FieldType)) (av : List Value) (wi : va_W) (sz N0 : Nat) : Array Value → State → Prop := fun a U => xPc D cl tys av wi sz a U ∧ xS N0 U
/-- the words of a 'throw new' -/
def thK (ls : List Cond) : Prop := ∀ w ∈ ls, w ∈ wsA ∨ w ∈ wsH
theorem thK_of (ls : List Cond) (h : ls.all (fun w => decide (w ∈ lw_tbl) && goodWord w || decide (w ∈ wsH)) = true) : thK ls := fun w hw => by
  have h1 := List.all_eq_true.mp h w hw
  simp only [Bool.or_eq_true, Bool.and_eq_true, decide_eq_true_eq] at h1
  rcases h1 with h1 | h1
  · exact Or.inl (x_inA h1.1 h1.2)
  · exact Or.inr h1
set_option maxRecDepth 100000 in
theorem th_I : thK (Bundle.ownAtoms "WideDecimalDesk" 77 eI eU) := thK_of _ (by decide +kernel)
set_option maxRecDepth 100000 in
theorem th_S : thK (Bundle.ownAtoms "WideDecimalDesk" 160 eS eU) := thK_of _ (by decide +kernel)
set_option maxRecDepth 100000 in
theorem th_A : thK (Bundle.ownAtoms "WideDecimalDesk" 113 eA eU) := thK_of _ (by decide +kernel)
theorem thW_ok {own E text : String} {ix k ic N0 : Nat} {args : Array Value} {s : State} (hK : thK (Bundle.ownAtoms own ic E eU)) (w1 : Cond.classLink own ix E ∈ wsA) (w2 : Cond.initialized E ∈ wsA) (w3 : Cond.stringRef own k text ∈ wsN) (hts : ∀ w ∈ wsA, w.before args s = true) (hN : xN s) (hX : xS N0 s) : ∀ U, thU N0 s U → ∀ w ∈ thW own ix k ic E text eU, w.before args U = true := fun U hU w hw => by
  have good : ∀ w ∈ wsA, w.before args U = true := fun w hw => word_at hU.1 (good_of_word (List.mem_filter.mp hw).2) (hts w hw)
  rcases List.mem_append.mp hw with h | h
  · simp only [List.mem_cons, List.not_mem_nil, or_false] at h
    rcases h with rfl | rfl | rfl
    · exact good _ w1
    · exact good _ w2
    · exact xN_warm hU.1 hN _ w3
  · rcases hK w h with h | h
    · exact good _ h
    · exact hX.2.1 U hU.1 hU.2 w h args
section TX
variable {p : Program} {l : Launch} {e : Env} {R : Room} {s : State} {m : MethodId} {args : Array Value} {below : List Frame} {meth : Method} {c : Code} {H : Heap} {locs : List Loc} {cells slots : Nat}
variable {D : va_G} {cl : List vw_C} {tys : List (ClassId × FieldType)} {A : Nat → Prop}
theorem x_thr {cc : ByteArray} {pc nL : Nat} {ls : Array Slot} {own E text : String} {ix k ic N0 : Nat} {S : Type} {post : S → Prop} {wo : S → va_W} (u : S)
    (hexec : p.tables.exec = Jvm.exec) (hb : c.code = cc) (hlocks : meth.locks = false) (hml : c.maxLocals = nL) (hls : ls.size = nL) (hemp : c.exceptionTable.isEmpty = true) (htr : l.stackTraces = false)
    (hown : s.vm.findClass own = some m.cls) (hE : Bundle.fit E = true) (hth : thK (Bundle.ownAtoms own ic E eU)) (w1 : Cond.classLink own ix E ∈ wsA) (w2 : Cond.initialized E ∈ wsA) (w3 : Cond.stringRef own k text ∈ wsN) (hts : ∀ w ∈ wsA, w.before args s = true) (hN : xN s) (hX : xS N0 s) (hA0 : ∀ q, A q → N0 ≤ q)
    (d0 : decode cc pc = .ok (.new ix, 3)) (d3 : decode cc (pc + 3) = .ok (.dup, 1)) (d4 : decode cc (pc + 4) = .ok (.ldc k, 2)) (d6 : decode cc (pc + 6) = .ok (.invokespecial ic, 3)) (d9 : decode cc (pc + 9) = .ok (.athrow, 1))
    (hRf : 6 ≤ R.frames) (hRl : 99 ≤ R.locals) (hRc : cells + 1 ≤ R.cells) (hRs : slots + 6 ≤ R.slots)
    (hp : post u) (hP : va_P D cl (wo u) H) (hK : va_K D cl tys s) (hD : va_D A (wo u)) (hS : va_S A s.heap H locs) :
    W p l e R s m args below meth c H locs cells slots (MQT below (va_Qt E post (xB D cl tys A wo) A) args s (cells + 1) (slots + 6) A) (F0 m pc ls []) :=
  x_throw (names := eU) (text := text) hexec hb hlocks hml hls hemp htr hown hE (by decide +kernel) (thW_ok hth w1 w2 w3 hts hN hX) d0 d3 d4 d6 d9 (show 2 + 3 < R.frames by omega) (show 13 * (2 + 1) + 60 ≤ R.locals by omega) hRc hRs
    (fun q hq => hS.2.1 q (Nat.lt_of_lt_of_le hq hX.1) (fun z => absurd (hA0 q z) (Nat.not_le.mpr hq))) hS.2.2
    (fun t x ce hW hx hsz hk hce h9 hcl => ⟨⟨u, x, ce, rfl, hp, ⟨hP.kept (fun k y hy => hk y.1 ((hP k y hy).lt)), va_K.moved hW.alike hK, hD⟩, hce, h9, hcl⟩, Nat.le_trans hS.1 hsz, fun q h1 h2 => (hk q (Nat.lt_of_lt_of_le h1 hS.1)).trans (hS.2.1 q h1 h2)⟩)
theorem x_ofT {y : MethodName} {wsy ws' : List Cond} {rm : Room} {cc : ByteArray} {maxL mc ms : Nat} {ret : Option FieldType} {av : List Value} {wi : va_W} {sz N0 : Nat} {Qc : (Nat → Prop) → Array Value → State → Outcome → State → Prop}
    (hN0 : ∀ q ∈ wi, N0 ≤ q.1) (hy : plainName y.cls = true) (hw : wsy = Cond.code y cc maxL ret :: ws') (hsl : (lg_sl av).length ≤ maxL)
    (body : ∀ (p : Program) (e : Env) (s : State) (m : MethodId) (args : Array Value) (below : List Frame) (meth : Method) (c : Code) (A : Nat → Prop) (H : Heap) (locs : List Loc) (ls : Array Slot), p.tables.exec = Jvm.exec → c.code = cc → meth.sig.returnType = ret → (∀ w ∈ wsy, w.before args s = true) → s.vm.findClass y.cls = some m.cls → meth.locks = false → c.maxLocals = maxL → meth.name = y.name →
      va_P D cl wi H → va_K D cl tys s → va_D A wi → xN s → (∀ q, s.heap.size ≤ q → A q) → va_S A s.heap H locs → lv_has ls maxL (lv_args 0 av) → c.exceptionTable.isEmpty = true → xS N0 s → (∀ q, A q → N0 ≤ q) → W p l e rm s m args below meth c H locs 0 0 (MQT below (Qc A) args s mc ms A) (F0 m 0 ls [])) :
    MetT l y wsy rm (xPcT D cl tys av wi sz N0) (Qc (va_A wi sz)) mc ms (va_A wi sz) := by
  refine MetT.ofW (cc := cc) (maxL := maxL) (ret := ret) hy hw ?_
  intro p e s m args below meth c s₁ B hml hem hv
  obtain ⟨⟨rfl, hsz, hP, hK, hD0, hN⟩, hX⟩ := hv
  subst hsz
  rw [lg_entry_eq]
  exact body p e s m av.toArray below meth c (va_A wi s.heap.size) s.heap [] _ B.exec B.bytes B.returns (atoms_spec (ws := wsy) B.pre) (findClass_of_methodNamed B.named) B.notSynchronized hml (name_of_methodNamed B.named B.method).1 hP hK (hD0.self (sz := s.heap.size)) hN (fun q h => Or.inr h) va_S.rf (lv_entry av hsl) hem hX (fun q h => by
    rcases h with ⟨k, e9, h⟩ | h
    · exact hN0 _ (List.mem_of_getElem? h)
    · exact Nat.le_trans hX.1 h)
end TX
theorem dpP_none {num den s ng sc : Nat} {r : Int32} {f : Nat → Int64} (h : dpP num den s ng r sc f) (hp : plc num den (min s 28) = none) : r = nI 0 := by
  rcases dpP_sp h with ⟨hz, -⟩ | ⟨-, q9, hq, -⟩
  · exact hz
  · rw [hq] at hp; cases hp

