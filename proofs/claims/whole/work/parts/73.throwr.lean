/-! 'throw new E("text")': one row -/
def thW (own : String) (ix k ic : Nat) (E text : String) (names : List String) : List Cond := [.classLink own ix E, .initialized E, .stringRef own k text] ++ Bundle.ownAtoms own ic E names
def thU (N0 : Nat) (s U : State) : Prop := s.WarmedH U.vm ∧ ∀ q : Nat, q < N0 → U.heap[q]? = s.heap[q]?
section TH
variable {p : Program} {l : Launch} {e : Env} {R : Room} {s : State} {m : MethodId} {args : Array Value} {below : List Frame} {meth : Method} {c : Code} {H : Heap} {locs : List Loc} {cells slots : Nat}
theorem cell_same {c c' : Cell} (h1 : c' = { c with slots := c'.slots }) (h2 : ∀ i : Nat, c'.slots[i]? = c.slots[i]?) : c' = c := by
  have e : c'.slots = c.slots := by
    apply Array.ext_getElem?
    exact h2
  rw [h1, e]
theorem sf_aux (s : State) (F G : List Frame) (h : Heap) (n : Nat) : ({ s.setFrames F with heap := h, slotsUsed := n } : State).setFrames G = ({ s.setFrames G with heap := h, slotsUsed := n } : State) := by
  have e : ({ s.setFrames F with heap := h, slotsUsed := n } : State).setFrames G = ({ (s.setFrames F).setFrames G with heap := h, slotsUsed := n } : State) := rfl
  rw [e, State.setFrames_setFrames]
theorem x_throw {cc : ByteArray} {pc nL : Nat} {ls : Array Slot} {A : Nat → Prop} {Qc : Array Value → State → Outcome → State → Prop} {own E text : String} {names : List String} {ix k ic N0 : Nat}
    (hexec : p.tables.exec = Jvm.exec) (hb : c.code = cc) (hlocks : meth.locks = false) (hml : c.maxLocals = nL) (hls : ls.size = nL) (hemp : c.exceptionTable.isEmpty = true) (htr : l.stackTraces = false)
    (hown : s.vm.findClass own = some m.cls) (hE : Bundle.fit E = true) (hnames : ∀ n ∈ names, Bundle.fit n = true)
    (wT : ∀ U, thU N0 s U → ∀ w ∈ thW own ix k ic E text names, w.before args U = true)
    (d0 : decode cc pc = .ok (.new ix, 3)) (d3 : decode cc (pc + 3) = .ok (.dup, 1)) (d4 : decode cc (pc + 4) = .ok (.ldc k, 2)) (d6 : decode cc (pc + 6) = .ok (.invokespecial ic, 3)) (d9 : decode cc (pc + 9) = .ok (.athrow, 1))
    (hRf : names.length + 3 < R.frames) (hRl : 13 * (names.length + 1) + 60 ≤ R.locals) (hRc : cells + 1 ≤ R.cells) (hRs : slots + 6 ≤ R.slots)
    (hst : ∀ q : Nat, q < N0 → H[q]? = s.heap[q]?) (hL : ∀ q ∈ locs, A q.base)
    (hQ : ∀ (t : State) (x : Nat) (ce : Cell), s.WarmedH t.vm → H.size ≤ x → H.size ≤ t.heap.size → (∀ q, q < H.size → t.heap[q]? = H[q]?) → t.heap[x]? = some ce → ce.vm.isStatics = false → s.vm.findClass E = some ce.cls → Qc args s (.threw x) t) :
    W p l e R s m args below meth c H locs cells slots (MQT below Qc args s (cells + 1) (slots + 6) A) (F0 m pc ls []) := by
  intro T hT X
  have X0 := rbs_stand X (by omega) (by omega)
  have hU : thU N0 s (rbs s T) := ⟨X.warmed, fun q hq => by show T.heap[q]? = _; rw [hT]; exact hst q hq⟩
  have hw := wT _ hU
  have htr' : e.platform.stackTraces = false := by rw [X.admits.platform]; exact htr
  have hown0 : (rbs s T).vm.findClass own = some m.cls := by show T.vm.findClass own = _; rw [X.warmed.alike.findClass]; exact hown
  obtain ⟨vm₁, cX, kX, hfX, hkX, -, -, X₁, st1⟩ := X0.newCold hexec (own := own) (C := E) (index := ix) (n := 6) hown0 (hw (.classLink own ix E) (by simp [thW])) (hw (.instantiable E 6) (by simp [thW, Bundle.ownAtoms])) (hw (.initialized E) (by simp [thW])) (g := F0 m pc ls []) rfl (by rw [hb]; exact d0) (by show 0 + 1 ≤ R.cells - cells; omega) (by show 0 + 6 ≤ R.slots - slots; omega)
  generalize hT1 : (T.setVm vm₁).pushCell { cls := cX, slots := kX.instanceTypes.map defaultValue, vm := .none } = T1 at X₁ st1
  have hcellA : T1.heap[T.heap.size]? = some (freshCell cX kX) := by rw [← hT1]; exact State.heap_pushCell_size _ _
  have hconst := hw (.stringRef own k text) (by simp [thW])
  obtain ⟨-, -, -, sa, -, -, -, -, -, hev⟩ := Cond.stringRef_spec hown0 hconst
  obtain ⟨U, hsteps, hrun, hend, hW, hsame, ce, hce, K⟩ := X₁.ctorThrowS hexec htr' (own := own) (cls := E) (names := names) (ic := ic) hown0 hE hnames (fun y hy => hw y (by simp [thW, hy])) (fun y hy => by cases hy) hfX hkX hcellA (Nat.le_refl _) (msg := .ref sa) rfl
    (g := F0 m (pc + 6) ls [.ref sa, .ref T.heap.size, .ref T.heap.size]) rfl (by show ls.size = c.maxLocals; rw [hml]; exact hls) rfl rfl (rest := []) rfl (by rw [hb]; exact d6) (by rw [hb]; exact d9) (covers_of_empty hemp _) hRf (by simp only [JFrame.monitorRoom, List.map_cons, List.map_nil, List.sum_cons, List.sum_nil, Value.category, List.length_nil]; show _ ≤ R.locals; omega) hlocks
  have hkeep : ∀ q, q < T.heap.size → U.heap[q]? = T.heap[q]? := fun q hq => by
    obtain ⟨c', g1, g2, g3, g4⟩ := hsame.2.2.2.2.2 q T.heap[q] (by show T.heap[q]? = _; exact Array.getElem?_eq_getElem hq)
    have e1 : c' = T.heap[q] := cell_same g2 (fun i => g4 i (by simp))
    rw [Array.getElem?_eq_getElem hq, ← e1]; exact g1
  have hfE : s.vm.findClass E = some ce.cls := by
    have h := K.cls
    have h2 : T.vm.findClass E = some ce.cls := h
    rw [X.warmed.alike.findClass] at h2; exact h2
  have hsz : T.heap.size ≤ U.heap.size := hsame.2.1
  refine ⟨U, ?_, .threw T.heap.size, hrun, hend, ?_, locs, ⟨⟨_, rfl⟩, State.WarmedH.trans X.warmed hW, ?_⟩, hL⟩
  · refine st1 _ ?_
    show Steps p.tables e below (T1.setTop (F0 m (pc + 3) ls [.ref T.heap.size])) _
    jvm_step X₁.here [X₁.here.top, hexec, hb, d3, Value.category]
    exact X₁.ldcString hexec (own := own) (text := text) (index := k) (a := sa) hown0 hconst hev (g := F0 m (pc + 4) ls [.ref T.heap.size, .ref T.heap.size]) rfl (by rw [hb]; exact d4) _ hsteps
  · subst hT
    exact hQ U T.heap.size ce (State.WarmedH.trans X.warmed hW) (Nat.le_refl _) hsz hkeep hce (by rw [K.vm]; rfl) hfE
  · have h1 : (T.setVm s.vm).sameButNew ({ U with vm := s.vm } : State) [] 1 6 := by
      refine ⟨?_, hsame.2⟩
      have h := congrArg (fun z : State => z.setVm s.vm) hsame.1
      refine Eq.trans h ?_
      rw [X.same.1, sf_aux]
      rfl
    have h2 := X.same.trans h1
    rw [List.append_nil] at h2
    exact h2
end TH

