/-! throwing: a start anew at the heap of now; contracts of methods that end in an exception -/
def rbs (s T : State) : State := ({ s with heap := T.heap, slotsUsed := T.slotsUsed } : State).setVm T.vm
section RB
variable {p : Program} {l : Launch} {e : Env} {R : Room} {s : State} {m : MethodId} {args : Array Value} {below : List Frame} {meth : Method} {c : Code} {T : State} {locs : List Loc} {cells slots : Nat}
theorem rbs_hears {s : State} {m : MethodId} {vm : Vm} {H : Heap} {n : Nat} (hA : s.vm.Alike vm) (below : List Frame) (h : s.hears m below = true) : (({ s with heap := H, slotsUsed := n } : State).setVm vm).hears m below = true := by
  cases below with
  | nil =>
    show (vm.method? m).any _ = true
    rw [hA.method?]; exact h
  | cons f r =>
    cases f with
    | java g =>
      have e : (({ s with heap := H, slotsUsed := n } : State).setVm vm).code? g.method = s.code? g.method := by
        rw [State.code?_eq, State.code?_eq]
        show (vm.method? g.method).bind _ = _
        rw [hA.method?]
      show (((({ s with heap := H, slotsUsed := n } : State).setVm vm).code? g.method).bind _).isSome = true
      rw [e]; exact h
    | native _ => rfl
    | proc _ => rfl
    | _ =>
      show (vm.method? m).any _ = true
      rw [hA.method?]; exact h
theorem rbs_locals {s T : State} {m : MethodId} {args : Array Value} {below : List Frame} (hf : s.frames = .invoking m args :: below) (hA : s.vm.Alike T.vm) : (rbs s T).localsInUse = s.localsInUse := by
  have hf2 : (rbs s T).frames = .invoking m args :: below := hf
  unfold State.localsInUse
  rw [hf2, hf]
  show _ + ((((T.vm.method? m).bind _).map _).getD 0 + 11) = _
  rw [hA.method?]
theorem rbs_stand (X : Stand p l e R s m args below meth c T locs cells slots) (h1 : cells ≤ R.cells) (h2 : slots ≤ R.slots) : Stand p l e { R with cells := R.cells - cells, slots := R.slots - slots } (rbs s T) m args below meth c T [] 0 0 where
  admits := X.admits
  cas := X.cas
  clock := X.clock
  frames := X.frames
  room := by
    have h := X.room
    have b1 := X.heapSize
    have b2 := X.used
    have b3 : T.slotsTrue = true := X.book
    simp only [State.hasRoom, Bool.and_eq_true, decide_eq_true_eq] at h ⊢
    obtain ⟨⟨⟨⟨a1, a2⟩, a3⟩, a4⟩, a5⟩ := h
    rw [rbs_locals X.frames X.warmed.alike]
    refine ⟨⟨⟨⟨a1, a2⟩, ?_⟩, ?_⟩, b3⟩
    · show T.heap.size + (R.cells - cells) ≤ _
      omega
    · show T.slotsUsed + (R.slots - slots) ≤ _
      omega
  hears := rbs_hears X.warmed.alike below X.hears
  method := X.method'
  code := X.code
  here := X.here
  tail := X.tail
  warmed := State.WarmedH.refl (rbs s T)
  limits := X.limits
  bytes := X.bytes
  same := by
    have e1 : T = ({ s.setFrames T.frames with heap := T.heap, slotsUsed := T.slotsUsed } : State).setVm T.vm := by
      have h : T = (T.setVm s.vm).setVm T.vm := rfl
      rw [X.same.1] at h
      exact h
    refine ⟨e1, Nat.le_refl _, Nat.le_refl _, ?_, ?_, fun a c hc => ⟨c, hc, rfl, rfl, fun _ _ => rfl⟩⟩
    · show T.slotsUsed = T.slotsUsed + ((T.heap.toList.drop T.heap.size).map (·.slots.size)).sum
      rw [List.drop_of_length_le (by simp)]; rfl
    · show ((T.heap.toList.drop T.heap.size).map (·.slots.size)).sum ≤ 0
      rw [List.drop_of_length_le (by simp)]; exact Nat.le_refl _
end RB
theorem xs_keep {C n d : String} {s U : State} {a a' : Array Value} (hA : s.vm.Alike U.vm) (hh : ∀ (q : Nat) (cell : Cell), s.heap[q]? = some cell → cell.vm.isStatics = true → U.heap[q]? = some cell) (h : (Cond.isRef (.static C n d)).before a s = true) : (Cond.isRef (.static C n d)).before a' U = true := by
  simp only [Cond.before, Cond.holds, Cond.value] at h ⊢
  cases hf : s.fieldFound? C n d with
  | none => simp [Term.eval, State.fieldNamed?, hf] at h
  | some q =>
    obtain ⟨cf, k, i, f⟩ := q
    obtain ⟨k', hf', hk'⟩ := State.fieldFound?_setVm hA hf
    have hf2 : U.fieldFound? C n d = some (cf, k', i, f) := hf'
    cases hst : f.isStatic with
    | false => simp [Term.eval, State.fieldNamed?, hf, hst] at h
    | true =>
      cases hs : k.statics with
      | none => simp [Term.eval, State.fieldNamed?, hf, hst, hs] at h
      | some b =>
        cases hc : s.heap[b]? with
        | none => simp [Term.eval, State.fieldNamed?, hf, hst, hs, hc] at h
        | some cell =>
          cases hi : cell.vm.isStatics with
          | false => simp [Term.eval, State.fieldNamed?, hf, hst, hs, hc, hi] at h
          | true =>
            have hc2 := hh b cell hc hi
            have hs2 : k'.statics = some b := by rw [hk']; exact hs
            simp [Term.eval, State.fieldNamed?, hf, hst, hs, hc, hi] at h
            simp [Term.eval, State.fieldNamed?, hf2, hst, hs2, hc2, hi]
            exact h
/-- what a method that throws leaves -/
def frT (first : State) (o : Outcome) (t : State) (L : List Loc) (k n : Nat) : Prop := (∃ x, o = .threw x) ∧ first.WarmedH t.vm ∧ first.sameButNew ({ t with vm := first.vm } : State) L k n
def MetT (l : Launch) (y : MethodName) (ws : List Cond) (rm : Room) (Pc : Array Value → State → Prop) (Qc : Array Value → State → Outcome → State → Prop) (mc ms : Nat) (free : Addr → Prop) : Prop :=
  MetFree l y (headSpec ws rm) Pc (fun _ _ _ _ _ => True) (fun a st o t => Qc a st o t ∧ ∃ L, frT st o t L mc ms ∧ ∀ q ∈ L, free q.base)
def MQT (below : List Frame) (Qc : Array Value → State → Outcome → State → Prop) (a : Array Value) (s : State) (mc ms : Nat) (free : Addr → Prop) : State → Prop := fun t =>
  ∃ o, t.status = .running ∧ Ended t below o ∧ Qc a s o t ∧ ∃ L, frT s o t L mc ms ∧ ∀ q ∈ L, free q.base
def va_Qt {S : Type} (E : String) (post : S → Prop) (B : S → State → Prop) (A : Nat → Prop) : Array Value → State → Outcome → State → Prop := fun _ st oc t =>
  (∃ (u : S) (x : Nat) (ce : Cell), oc = .threw x ∧ post u ∧ B u t ∧ t.heap[x]? = some ce ∧ ce.vm.isStatics = false ∧ st.vm.findClass E = some ce.cls) ∧ va_F A st t
theorem MetT.ofW {l : Launch} {y : MethodName} {ws ws' : List Cond} {rm : Room} {Pc : Array Value → State → Prop} {Qc : Array Value → State → Outcome → State → Prop} {mc ms : Nat} {free : Addr → Prop} {cc : ByteArray} {maxL : Nat} {ret : Option FieldType}
    (hy : plainName y.cls = true) (hw : ws = Cond.code y cc maxL ret :: ws')
    (body : ∀ p e s m args below meth c s₁, BodyLoose p l y (headSpec ws rm) cc maxL ret e s m args below meth c s₁ → c.maxLocals = maxL → c.exceptionTable.isEmpty = true → Pc args s →
      W p l e (headSpec ws rm).room s m args below meth c s.heap [] 0 0 (MQT below Qc args s mc ms free) (entryFrame m args maxL)) : MetT l y ws rm Pc Qc mc ms free := by
  refine MetFree.of_bodyS (code := cc) (maxLocals := maxL) (ret := ret) hy ?_ ?_
  · intro args s m h hn
    obtain ⟨meth, c, h1, h2, h3, h4, h5, h6, -, -⟩ := Cond.code_spec hn (atoms_spec (ws := ws) h _ (by rw [hw]; exact List.mem_cons_self))
    exact ⟨meth, c, h1, h2, h3, h4, h5, h6⟩
  · intro p e s m args below meth c s₁ B hml hP _
    have hh0 : s₁.heap = s.heap := by rw [B.state]; rfl
    have hcode := atoms_spec (ws := ws) B.pre (Cond.code y cc maxL ret) (by rw [hw]; exact List.mem_cons_self)
    obtain ⟨t, a1, o, b1, b2, b3⟩ := body p e s m args below meth c s₁ B hml (B.noHandlers hcode) hP s₁ hh0 (Stand.of_body B)
    exact ⟨t, o, a1, b1, b2, ⟨b3.1, b3.2⟩⟩

