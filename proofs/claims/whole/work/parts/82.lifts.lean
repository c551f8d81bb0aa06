/-! a contract with more room, and its answer in other words -/
theorem room_le {s : State} {pl : Platform} {r r' : Room} (h : r.frames ≤ r'.frames ∧ r.locals ≤ r'.locals ∧ r.cells ≤ r'.cells ∧ r.slots ≤ r'.slots) (hs : s.hasRoom pl r' = true) : s.hasRoom pl r = true := by
  unfold State.hasRoom at hs ⊢
  simp only [Bool.and_eq_true, decide_eq_true_eq] at hs ⊢
  have h1 := hs.1.1.1.1
  have h2 := hs.1.1.1.2
  have h3 := hs.1.1.2
  have h4 := hs.1.2
  exact ⟨⟨⟨⟨by omega, by omega, by omega, by omega, by omega, h2.2.2.2.2⟩, by omega⟩, by omega⟩, hs.2⟩
theorem x_room {l : Launch} {y : MethodName} {ws : List Cond} {rm rm' : Room} {Pc : Array Value → State → Prop} {Qc : Array Value → State → Outcome → State → Prop} {mc ms mc' ms' : Nat} {free : Addr → Prop} (h : Met l y ws rm Pc Qc mc ms free) (hr : rm.frames ≤ rm'.frames ∧ rm.locals ≤ rm'.locals ∧ rm.cells ≤ rm'.cells ∧ rm.slots ≤ rm'.slots) (h1 : mc ≤ mc') (h2 : ms ≤ ms') : Met l y ws rm' Pc Qc mc' ms' free := by
  intro p e ha hc hk s m args below hfr happ hP hK
  have z := (Spec.appliesLoose_iff hfr).mp happ
  obtain ⟨n, o, g1, g2, g3, g4, L, ⟨g5, g6, g7⟩, g8⟩ := h p e ha hc hk s m args below hfr ((Spec.appliesLoose_iff hfr).mpr ⟨z.1, z.2.1, z.2.2.1, z.2.2.2.1, z.2.2.2.2.1, z.2.2.2.2.2.1, room_le hr z.2.2.2.2.2.2.1, z.2.2.2.2.2.2.2⟩) hP hK
  exact ⟨n, o, g1, g2, g3, g4, L, ⟨g5, g6, State.sameButNew.mono g7 h1 h2⟩, g8⟩
/-- where each cell of the large world comes from -/
def fmO (isC : List Nat) (wo1 : va_W) : Nat → va_W → va_W → Prop
  | k, q :: W, q1 :: W1 => (q1.1 = q.1 ∧ (q1 ∈ wo1 ∨ (k ∉ isC ∧ q1 = q))) ∧ fmO isC wo1 (k + 1) W W1
  | _, [], [] => True
  | _, _, _ => False
theorem fmO_c {isC : List Nat} {wo1 W W1 : va_W} {q q1 : Nat × va_E} {k : Nat} (h : q1.1 = q.1 ∧ (q1 ∈ wo1 ∨ (k ∉ isC ∧ q1 = q))) (h1 : fmO isC wo1 (k + 1) W W1) : fmO isC wo1 k (q :: W) (q1 :: W1) := ⟨h, h1⟩
theorem fmO_n {isC : List Nat} {wo1 : va_W} {k : Nat} : fmO isC wo1 k [] [] := trivial
theorem fmO_at {isC : List Nat} {wo1 : va_W} : ∀ {W W1 : va_W} {k : Nat}, fmO isC wo1 k W W1 → ∀ (j : Nat) (q1 : Nat × va_E), W1[j]? = some q1 → ∃ q, W[j]? = some q ∧ q1.1 = q.1 ∧ (q1 ∈ wo1 ∨ (k + j ∉ isC ∧ q1 = q))
  | [], [], _, _ => fun j q1 h => by rw [List.getElem?_nil] at h; cases h
  | [], _ :: _, _, h => False.elim h
  | _ :: _, [], _, h => False.elim h
  | q :: W, q1 :: W1, k, h => fun j x hx => by
    cases j with
    | zero =>
      have e : q1 = x := Option.some.inj hx
      subst e
      exact ⟨q, rfl, h.1⟩
    | succ j =>
      obtain ⟨y, g1, g2, g3⟩ := fmO_at h.2 j x hx
      refine ⟨y, g1, g2, ?_⟩
      rwa [show k + (j + 1) = k + 1 + j by omega]
section FM
variable {l : Launch} {D : va_G} {cl : List vw_C} {tys : List (ClassId × FieldType)} {y : MethodName} {wsy : List Cond} {rm rm' : Room} {av : List Value} {mc ms mc' ms' sz : Nat} {wi W : va_W} {isC : List Nat} {S S' : Type} {wo : S → va_W} {WO : S' → va_W}
theorem fm_A (hC : isC.map (fun i => W[i]?) = wi.map some) {sz q : Nat} (h : va_A wi sz q) : va_A W sz q := by
  rcases h with ⟨k, e, h⟩ | h
  · have h1 : (isC.map (fun i => W[i]?))[k]? = some (some (q, e)) := by rw [hC, List.getElem?_map, h]; rfl
    rw [List.getElem?_map] at h1
    cases hi : isC[k]? with
    | none => rw [hi] at h1; cases h1
    | some i => rw [hi] at h1; exact Or.inl ⟨i, e, Option.some.inj h1⟩
  · exact Or.inr h
theorem fm_core (hC : isC.map (fun i => W[i]?) = wi.map some) {wo1 W1 : va_W} (hO : fmO isC wo1 0 W W1) {H H1 : Heap} (hP : va_P D cl W H) (hD : va_D (fun _ => True) W) (hk : ∀ q : Nat, q < H.size → ¬ va_A wi H.size q → H1[q]? = H[q]?) (hP1 : va_P D cl wo1 H1) : va_P D cl W1 H1 ∧ va_D (va_A W H.size) W1 := by
  have hin : ∀ q ∈ wo1, va_at D cl q H1 := fun q hq => by
    obtain ⟨k, hk⟩ := List.getElem?_of_mem hq
    exact hP1 k q hk
  refine ⟨fun k q hq => ?_, fun i j x y hx hy hxy => ?_, fun k q hq => ?_⟩
  · obtain ⟨q', g1, g2, g3⟩ := fmO_at hO k q hq
    rcases g3 with g3 | ⟨g3, g4⟩
    · exact hin q g3
    · subst g4
      have ha := hP _ _ g1
      refine ha.kept (hk _ ha.lt (fun hz => ?_))
      rcases hz with ⟨k2, e2, hz⟩ | hz
      · have h1 : (isC.map (fun i => W[i]?))[k2]? = some (some (q.1, e2)) := by rw [hC, List.getElem?_map, hz]; rfl
        rw [List.getElem?_map] at h1
        cases hi : isC[k2]? with
        | none => rw [hi] at h1; cases h1
        | some i =>
          rw [hi] at h1
          have h4 := hD.1 _ _ _ _ (Option.some.inj h1) g1 rfl
          refine g3 ?_
          rw [Nat.zero_add, ← h4]
          exact List.mem_of_getElem? hi
      · have := ha.lt; omega
  · obtain ⟨x', hx1, hx2, _⟩ := fmO_at hO i x hx
    obtain ⟨y', hy1, hy2, _⟩ := fmO_at hO j y hy
    exact hD.1 i j x' y' hx1 hy1 (by rw [← hx2, ← hy2]; exact hxy)
  · obtain ⟨q', h1, h2, _⟩ := fmO_at hO k q hq
    rw [h2]; exact va_A.in h1
theorem fm_pre (hC : isC.map (fun i => W[i]?) = wi.map some) (hnd : va_nd isC = true) {a : Array Value} {U : State} (h : xPc D cl tys av W sz a U) : xPc D cl tys av wi sz a U := by
  obtain ⟨h1, h2, hP, hK, hD, hN⟩ := h
  exact ⟨h1, h2, x_Psub hP hC, hK, hD.sub isC hnd hC, hN⟩
theorem x_fmv {post : S → Prop} {post' : S' → Prop} (isC : List Nat) (hC : isC.map (fun i => W[i]?) = wi.map some) (hnd : va_nd isC = true) (hr : rm.frames ≤ rm'.frames ∧ rm.locals ≤ rm'.locals ∧ rm.cells ≤ rm'.cells ∧ rm.slots ≤ rm'.slots) (h1 : mc ≤ mc') (h2 : ms ≤ ms')
    (hM : Met l y wsy rm (xPc D cl tys av wi sz) (va_Qv post (xB D cl tys (va_A wi sz) wo) (va_A wi sz)) mc ms (va_A wi sz)) (hq : ∀ u, post u → ∃ u', post' u' ∧ fmO isC (wo u) 0 W (WO u')) :
    Met l y wsy rm' (xPc D cl tys av W sz) (va_Qv post' (xB D cl tys (va_A W sz) WO) (va_A W sz)) mc' ms' (va_A W sz) := by
  refine x_room (x_mono hM (fun a s h => fm_pre hC hnd h) (fun a s o t h hz => ?_)) hr h1 h2
  obtain ⟨h1, h2, hP, hK, hD, hN⟩ := h
  obtain ⟨⟨⟨u, ho, hp, hP1, hK1, hD1⟩, hF⟩, L, hE, hL⟩ := hz
  subst h2
  obtain ⟨u', g3, g4⟩ := hq u hp
  obtain ⟨g1, g2⟩ := fm_core hC g4 hP hD hF.2 hP1
  exact ⟨⟨⟨u', ho, g3, g1, hK1, g2⟩, fr_F hF (fun q => fm_A hC)⟩, L, hE, fun q hq => fm_A hC (hL q hq)⟩
theorem x_fmi {post : Int32 → S → Prop} {post' : Int32 → S' → Prop} (isC : List Nat) (hC : isC.map (fun i => W[i]?) = wi.map some) (hnd : va_nd isC = true) (hr : rm.frames ≤ rm'.frames ∧ rm.locals ≤ rm'.locals ∧ rm.cells ≤ rm'.cells ∧ rm.slots ≤ rm'.slots) (h1 : mc ≤ mc') (h2 : ms ≤ ms')
    (hM : Met l y wsy rm (xPc D cl tys av wi sz) (va_Qi post (xB D cl tys (va_A wi sz) wo) (va_A wi sz)) mc ms (va_A wi sz)) (hq : ∀ r u, post r u → ∃ u', post' r u' ∧ fmO isC (wo u) 0 W (WO u')) :
    Met l y wsy rm' (xPc D cl tys av W sz) (va_Qi post' (xB D cl tys (va_A W sz) WO) (va_A W sz)) mc' ms' (va_A W sz) := by
  refine x_room (x_mono hM (fun a s h => fm_pre hC hnd h) (fun a s o t h hz => ?_)) hr h1 h2
  obtain ⟨h1, h2, hP, hK, hD, hN⟩ := h
  obtain ⟨⟨⟨r, u, ho, hp, hP1, hK1, hD1⟩, hF⟩, L, hE, hL⟩ := hz
  subst h2
  obtain ⟨u', g3, g4⟩ := hq r u hp
  obtain ⟨g1, g2⟩ := fm_core hC g4 hP hD hF.2 hP1
  exact ⟨⟨⟨r, u', ho, g3, g1, hK1, g2⟩, fr_F hF (fun q => fm_A hC)⟩, L, hE, fun q hq => fm_A hC (hL q hq)⟩
theorem x_fml {post : Int64 → S → Prop} {post' : Int64 → S' → Prop} (isC : List Nat) (hC : isC.map (fun i => W[i]?) = wi.map some) (hnd : va_nd isC = true) (hr : rm.frames ≤ rm'.frames ∧ rm.locals ≤ rm'.locals ∧ rm.cells ≤ rm'.cells ∧ rm.slots ≤ rm'.slots) (h1 : mc ≤ mc') (h2 : ms ≤ ms')
    (hM : Met l y wsy rm (xPc D cl tys av wi sz) (va_Ql post (xB D cl tys (va_A wi sz) wo) (va_A wi sz)) mc ms (va_A wi sz)) (hq : ∀ r u, post r u → ∃ u', post' r u' ∧ fmO isC (wo u) 0 W (WO u')) :
    Met l y wsy rm' (xPc D cl tys av W sz) (va_Ql post' (xB D cl tys (va_A W sz) WO) (va_A W sz)) mc' ms' (va_A W sz) := by
  refine x_room (x_mono hM (fun a s h => fm_pre hC hnd h) (fun a s o t h hz => ?_)) hr h1 h2
  obtain ⟨h1, h2, hP, hK, hD, hN⟩ := h
  obtain ⟨⟨⟨r, u, ho, hp, hP1, hK1, hD1⟩, hF⟩, L, hE, hL⟩ := hz
  subst h2
  obtain ⟨u', g3, g4⟩ := hq r u hp
  obtain ⟨g1, g2⟩ := fm_core hC g4 hP hD hF.2 hP1
  exact ⟨⟨⟨r, u', ho, g3, g1, hK1, g2⟩, fr_F hF (fun q => fm_A hC)⟩, L, hE, fun q hq => fm_A hC (hL q hq)⟩
variable {Pc : Array Value → State → Prop} {A : Nat → Prop}
theorem x_unv {post : S → Prop} {post' : S' → Prop} (hM : Met l y wsy rm Pc (va_Qv post (xB D cl tys A wo) A) mc ms A) (hr : rm.frames ≤ rm'.frames ∧ rm.locals ≤ rm'.locals ∧ rm.cells ≤ rm'.cells ∧ rm.slots ≤ rm'.slots) (h1 : mc ≤ mc') (h2 : ms ≤ ms') (hq : ∀ u, post u → ∃ u', post' u' ∧ WO u' = wo u) : Met l y wsy rm' Pc (va_Qv post' (xB D cl tys A WO) A) mc' ms' A := by
  refine x_room (x_mono hM (fun a s h => h) (fun a s o t h hz => ?_)) hr h1 h2
  obtain ⟨⟨⟨u, ho, hp, hP1, hK1, hD1⟩, hF⟩, hL⟩ := hz
  obtain ⟨u', g3, g4⟩ := hq u hp
  exact ⟨⟨⟨u', ho, g3, by rw [g4]; exact hP1, hK1, by rw [g4]; exact hD1⟩, hF⟩, hL⟩
theorem x_uni {post : Int32 → S → Prop} {post' : Int32 → S' → Prop} (hM : Met l y wsy rm Pc (va_Qi post (xB D cl tys A wo) A) mc ms A) (hr : rm.frames ≤ rm'.frames ∧ rm.locals ≤ rm'.locals ∧ rm.cells ≤ rm'.cells ∧ rm.slots ≤ rm'.slots) (h1 : mc ≤ mc') (h2 : ms ≤ ms') (hq : ∀ r u, post r u → ∃ u', post' r u' ∧ WO u' = wo u) : Met l y wsy rm' Pc (va_Qi post' (xB D cl tys A WO) A) mc' ms' A := by
  refine x_room (x_mono hM (fun a s h => h) (fun a s o t h hz => ?_)) hr h1 h2
  obtain ⟨⟨⟨r, u, ho, hp, hP1, hK1, hD1⟩, hF⟩, hL⟩ := hz
  obtain ⟨u', g3, g4⟩ := hq r u hp
  exact ⟨⟨⟨r, u', ho, g3, by rw [g4]; exact hP1, hK1, by rw [g4]; exact hD1⟩, hF⟩, hL⟩
theorem x_unl {post : Int64 → S → Prop} {post' : Int64 → S' → Prop} (hM : Met l y wsy rm Pc (va_Ql post (xB D cl tys A wo) A) mc ms A) (hr : rm.frames ≤ rm'.frames ∧ rm.locals ≤ rm'.locals ∧ rm.cells ≤ rm'.cells ∧ rm.slots ≤ rm'.slots) (h1 : mc ≤ mc') (h2 : ms ≤ ms') (hq : ∀ r u, post r u → ∃ u', post' r u' ∧ WO u' = wo u) : Met l y wsy rm' Pc (va_Ql post' (xB D cl tys A WO) A) mc' ms' A := by
  refine x_room (x_mono hM (fun a s h => h) (fun a s o t h hz => ?_)) hr h1 h2
  obtain ⟨⟨⟨r, u, ho, hp, hP1, hK1, hD1⟩, hF⟩, hL⟩ := hz
  obtain ⟨u', g3, g4⟩ := hq r u hp
  exact ⟨⟨⟨r, u', ho, g3, by rw [g4]; exact hP1, hK1, by rw [g4]; exact hD1⟩, hF⟩, hL⟩
end FM

