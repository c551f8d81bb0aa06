/-! a contract over more cells: what is not touched stays -/
theorem x_mono {l : Launch} {y : MethodName} {Sp : Spec} {P P' : Array Value → State → Prop} {K : Program → Env → List Frame → State → Array Value → Prop} {Q Q' : Array Value → State → Outcome → State → Prop} (h : MetFree l y Sp P K Q) (hp : ∀ a s, P' a s → P a s) (hq : ∀ a s o t, P' a s → Q a s o t → Q' a s o t) : MetFree l y Sp P' K Q' := by
  intro p e h1 h2 h3 s m args below h4 h5 h6 h7
  obtain ⟨n, o, g1, g2, g3, g4⟩ := h p e h1 h2 h3 s m args below h4 h5 (hp _ _ h6) h7
  exact ⟨n, o, g1, g2, g3, hq _ _ _ _ h6 g4⟩
def rgs (R : Nat → Nat × va_E) : va_W := [R 0, R 1, R 2, R 3, R 4, R 5]
theorem rgs_at {R : Nat → Nat × va_E} {i : Nat} (h : i < 6) : (rgs R)[i]? = some (R i) := by
  match i, h with
  | 0, _ => rfl
  | 1, _ => rfl
  | 2, _ => rfl
  | 3, _ => rfl
  | 4, _ => rfl
  | 5, _ => rfl
theorem rgs_mem {R : Nat → Nat × va_E} {q : Nat × va_E} (h : q ∈ rgs R) : ∃ i, i < 6 ∧ q = R i := by
  obtain ⟨i, hi⟩ := List.getElem?_of_mem h
  have hl : i < 6 := (List.getElem?_eq_some_iff.mp hi).1
  rw [rgs_at hl] at hi
  exact ⟨i, hl, (Option.some.inj hi).symm⟩
theorem fr_at {b : va_W} {R : Nat → Nat × va_E} {i : Nat} (h : i < 6) : (b ++ rgs R)[b.length + i]? = some (R i) := by
  rw [List.getElem?_append_right (by omega), show b.length + i - b.length = i by omega]; exact rgs_at h
/-- where a cell of the small world stands in the large one -/
theorem fr_ix {b : va_W} {R : Nat → Nat × va_E} {it : List Nat} (h6 : ∀ i ∈ it, i < 6) {k : Nat} {q : Nat × va_E} (hk : (b ++ it.map R)[k]? = some q) : (b ++ rgs R)[if k < b.length then k else b.length + it.getD (k - b.length) 0]? = some q := by
  by_cases c : k < b.length
  · rw [if_pos c, List.getElem?_append_left c]
    rw [List.getElem?_append_left c] at hk; exact hk
  · rw [if_neg c]
    rw [List.getElem?_append_right (by omega), List.getElem?_map] at hk
    cases hi : it[k - b.length]? with
    | none => rw [hi] at hk; cases hk
    | some i =>
      rw [hi] at hk
      have hm := h6 i (List.mem_of_getElem? hi)
      rw [List.getD_eq_getElem?_getD, hi]
      show (b ++ rgs R)[b.length + i]? = some q
      rw [fr_at hm]; exact hk
def itI (it : List Nat) : Prop := ∀ i j, i < it.length → j < it.length → it.getD i 0 = it.getD j 0 → i = j
theorem fr_inj {b : va_W} {R : Nat → Nat × va_E} {it : List Nat} (hi : itI it) (i j : Nat) (h1 : i < (b ++ it.map R).length) (h2 : j < (b ++ it.map R).length) (he : (if i < b.length then i else b.length + it.getD (i - b.length) 0) = (if j < b.length then j else b.length + it.getD (j - b.length) 0)) : i = j := by
  rw [List.length_append, List.length_map] at h1 h2
  by_cases c1 : i < b.length <;> by_cases c2 : j < b.length
  · rw [if_pos c1, if_pos c2] at he; exact he
  · rw [if_pos c1, if_neg c2] at he; omega
  · rw [if_neg c1, if_pos c2] at he; omega
  · rw [if_neg c1, if_neg c2] at he
    have := hi (i - b.length) (j - b.length) (by omega) (by omega) (by omega)
    omega
theorem itI_0 : itI [] := fun i j h1 _ _ => absurd h1 (Nat.not_lt_zero i)
theorem itI_1 (a : Nat) : itI [a] := fun i j h1 h2 _ => by
  have h1 : i < 1 := h1
  have h2 : j < 1 := h2
  omega
theorem itI_2 {a b : Nat} (h : a ≠ b) : itI [a, b] := fun i j h1 h2 he => by
  have h1 : i < 2 := h1
  have h2 : j < 2 := h2
  match i, j, h1, h2, he with
  | 0, 0, _, _, _ => rfl
  | 0, 1, _, _, he => exact absurd he h
  | 1, 0, _, _, he => exact absurd he.symm h
  | 1, 1, _, _, _ => rfl
theorem itI_3 {a b c : Nat} (h : a ≠ b) (g : a ≠ c) (k : b ≠ c) : itI [a, b, c] := fun i j h1 h2 he => by
  have h1 : i < 3 := h1
  have h2 : j < 3 := h2
  match i, j, h1, h2, he with
  | 0, 0, _, _, _ => rfl
  | 0, 1, _, _, he => exact absurd he h
  | 0, 2, _, _, he => exact absurd he g
  | 1, 0, _, _, he => exact absurd he.symm h
  | 1, 1, _, _, _ => rfl
  | 1, 2, _, _, he => exact absurd he k
  | 2, 0, _, _, he => exact absurd he.symm g
  | 2, 1, _, _, he => exact absurd he.symm k
  | 2, 2, _, _, _ => rfl
theorem fr_A {b : va_W} {R : Nat → Nat × va_E} {it : List Nat} (h6 : ∀ i ∈ it, i < 6) {sz q : Nat} (h : va_A (b ++ it.map R) sz q) : va_A (b ++ rgs R) sz q := by
  rcases h with ⟨k, e, h⟩ | h
  · exact Or.inl ⟨_, e, fr_ix h6 h⟩
  · exact Or.inr h
section FR
variable {l : Launch} {D : va_G} {cl : List vw_C} {tys : List (ClassId × FieldType)} {y : MethodName} {wsy : List Cond} {rm : Room} {av : List Value} {mc ms sz : Nat} {b t : va_W} {R : Nat → Nat × va_E} {it : List Nat} {S : Type} {wo B1 : S → va_W} {R1 : S → Nat → Nat × va_E}
/-- what the frame wants of the small world and the large one -/
def frO (b : va_W) (R : Nat → Nat × va_E) (it : List Nat) (wo B1 : S → va_W) (R1 : S → Nat → Nat × va_E) (ok : S → Prop) : Prop :=
  (∀ i ∈ it, i < 6) ∧ itI it ∧ (∀ u, ok u → ∀ q ∈ B1 u, q ∈ wo u) ∧ (∀ u, ok u → (B1 u).map Prod.fst = b.map Prod.fst) ∧ (∀ u, ok u → ∀ i, i ∈ it → R1 u i ∈ wo u) ∧ (∀ u, ok u → ∀ i, i < 6 → i ∉ it → R1 u i = R i) ∧ (∀ u, ok u → ∀ i, i < 6 → (R1 u i).1 = (R i).1)
theorem frO.six {ok : S → Prop} (O : frO b R it wo B1 R1 ok) : ∀ i ∈ it, i < 6 := O.1
theorem frO.inj {ok : S → Prop} (O : frO b R it wo B1 R1 ok) : itI it := O.2.1
theorem frO.base {ok : S → Prop} (O : frO b R it wo B1 R1 ok) : ∀ u, ok u → ∀ q ∈ B1 u, q ∈ wo u := O.2.2.1
theorem frO.fst {ok : S → Prop} (O : frO b R it wo B1 R1 ok) : ∀ u, ok u → (B1 u).map Prod.fst = b.map Prod.fst := O.2.2.2.1
theorem frO.regs {ok : S → Prop} (O : frO b R it wo B1 R1 ok) : ∀ u, ok u → ∀ i, i ∈ it → R1 u i ∈ wo u := O.2.2.2.2.1
theorem frO.rest {ok : S → Prop} (O : frO b R it wo B1 R1 ok) : ∀ u, ok u → ∀ i, i < 6 → i ∉ it → R1 u i = R i := O.2.2.2.2.2.1
theorem frO.rfst {ok : S → Prop} (O : frO b R it wo B1 R1 ok) : ∀ u, ok u → ∀ i, i < 6 → (R1 u i).1 = (R i).1 := O.2.2.2.2.2.2
theorem fr_core {ok : S → Prop} (O : frO b R it wo B1 R1 ok) {u : S} (hu : ok u) {H H1 : Heap} (hP : va_P D cl (b ++ rgs R) H) (hD : va_D (fun _ => True) (b ++ rgs R)) (hk : ∀ q : Nat, q < H.size → ¬ va_A (b ++ it.map R) H.size q → H1[q]? = H[q]?) (hP1 : va_P D cl (wo u) H1) : va_P D cl (B1 u ++ rgs (R1 u)) H1 ∧ va_D (va_A (b ++ rgs R) H.size) (B1 u ++ rgs (R1 u)) := by
  have hin : ∀ q ∈ wo u, va_at D cl q H1 := fun q hq => by
    obtain ⟨k, hk⟩ := List.getElem?_of_mem hq
    exact hP1 k q hk
  have hf : (B1 u ++ rgs (R1 u)).map Prod.fst = (b ++ rgs R).map Prod.fst := by
    rw [List.map_append, List.map_append, O.fst u hu]
    congr 1
    show [(R1 u 0).1, (R1 u 1).1, (R1 u 2).1, (R1 u 3).1, (R1 u 4).1, (R1 u 5).1] = [(R 0).1, (R 1).1, (R 2).1, (R 3).1, (R 4).1, (R 5).1]
    rw [O.rfst u hu 0 (by decide), O.rfst u hu 1 (by decide), O.rfst u hu 2 (by decide), O.rfst u hu 3 (by decide), O.rfst u hu 4 (by decide), O.rfst u hu 5 (by decide)]
  have hb : ∀ (k : Nat) (q : Nat × va_E), (B1 u ++ rgs (R1 u))[k]? = some q → ∃ q', (b ++ rgs R)[k]? = some q' ∧ q'.1 = q.1 := fun k q hk => by
    have h1 : ((B1 u ++ rgs (R1 u)).map Prod.fst)[k]? = some q.1 := by rw [List.getElem?_map, hk]; rfl
    rw [hf, List.getElem?_map] at h1
    cases hq : (b ++ rgs R)[k]? with
    | none => rw [hq] at h1; cases h1
    | some q' => rw [hq] at h1; exact ⟨q', rfl, Option.some.inj h1⟩
  refine ⟨fun k q hq => ?_, fun i j x y hx hy hxy => ?_, fun k q hq => ?_⟩
  · rcases List.mem_append.mp (List.mem_of_getElem? hq) with h | h
    · exact hin q (O.base u hu q h)
    · obtain ⟨i, hi, rfl⟩ := rgs_mem h
      by_cases c : i ∈ it
      · exact hin _ (O.regs u hu i c)
      · rw [O.rest u hu i hi c]
        have ha := hP _ _ (fr_at (b := b) (R := R) hi)
        refine ha.kept (hk _ ha.lt (fun hz => ?_))
        rcases hz with ⟨k2, e2, hz⟩ | hz
        · have h3 := fr_ix (b := b) O.six hz
          have h4 := hD.1 _ _ _ _ h3 (fr_at (b := b) (R := R) hi) rfl
          by_cases c2 : k2 < b.length
          · rw [if_pos c2] at h4; omega
          · rw [if_neg c2] at h4
            rw [List.getElem?_append_right (by omega), List.getElem?_map] at hz
            cases hj : it[k2 - b.length]? with
            | none => rw [hj] at hz; cases hz
            | some j =>
              rw [List.getD_eq_getElem?_getD, hj] at h4
              have h5 : b.length + j = b.length + i := h4
              have h6 : j = i := by omega
              exact c (h6 ▸ List.mem_of_getElem? hj)
        · have := ha.lt; omega
  · obtain ⟨x', hx1, hx2⟩ := hb i x hx
    obtain ⟨y', hy1, hy2⟩ := hb j y hy
    exact hD.1 i j x' y' hx1 hy1 (by rw [hx2, hy2]; exact hxy)
  · obtain ⟨q', h1, h2⟩ := hb k q hq
    rw [← h2]; exact va_A.in h1
theorem fr_pre (h6 : ∀ i ∈ it, i < 6) (hi : itI it) {a : Array Value} {U : State} (h : xPc D cl tys av (b ++ rgs R) sz a U) : xPc D cl tys av (b ++ it.map R) sz a U := by
  obtain ⟨h1, h2, hP, hK, hD, hN⟩ := h
  exact ⟨h1, h2, hP.by _ (fun k q hk => fr_ix h6 hk), hK, hD.by _ (fun k q hk => fr_ix h6 hk) (fr_inj hi), hN⟩
theorem fr_F {A A' : Nat → Prop} {st t : State} (h : va_F A st t) (hA : ∀ q, A q → A' q) : va_F A' st t := ⟨h.1, fun q h1 h2 => h.2 q h1 (fun z => h2 (hA q z))⟩
theorem x_frv {post : S → Prop} (O : frO b R it wo B1 R1 post) (hM : Met l y wsy rm (xPc D cl tys av (b ++ it.map R) sz) (va_Qv post (xB D cl tys (va_A (b ++ it.map R) sz) wo) (va_A (b ++ it.map R) sz)) mc ms (va_A (b ++ it.map R) sz)) :
    Met l y wsy rm (xPc D cl tys av (b ++ rgs R) sz) (va_Qv post (xB D cl tys (va_A (b ++ rgs R) sz) (fun u => B1 u ++ rgs (R1 u))) (va_A (b ++ rgs R) sz)) mc ms (va_A (b ++ rgs R) sz) := by
  refine x_mono hM (fun a s h => fr_pre O.six O.inj h) (fun a s o t h hq => ?_)
  obtain ⟨h1, h2, hP, hK, hD, hN⟩ := h
  obtain ⟨⟨⟨u, ho, hp, hP1, hK1, hD1⟩, hF⟩, L, hE, hL⟩ := hq
  subst h2
  obtain ⟨g1, g2⟩ := fr_core O hp hP hD hF.2 hP1
  exact ⟨⟨⟨u, ho, hp, g1, hK1, g2⟩, fr_F hF (fun q => fr_A O.six)⟩, L, hE, fun q hq => fr_A O.six (hL q hq)⟩
theorem x_fri {post : Int32 → S → Prop} {pq : S → Prop} (hpq : ∀ r u, post r u → pq u) (O : frO b R it wo B1 R1 pq) (hM : Met l y wsy rm (xPc D cl tys av (b ++ it.map R) sz) (va_Qi post (xB D cl tys (va_A (b ++ it.map R) sz) wo) (va_A (b ++ it.map R) sz)) mc ms (va_A (b ++ it.map R) sz)) :
    Met l y wsy rm (xPc D cl tys av (b ++ rgs R) sz) (va_Qi post (xB D cl tys (va_A (b ++ rgs R) sz) (fun u => B1 u ++ rgs (R1 u))) (va_A (b ++ rgs R) sz)) mc ms (va_A (b ++ rgs R) sz) := by
  refine x_mono hM (fun a s h => fr_pre O.six O.inj h) (fun a s o t h hq => ?_)
  obtain ⟨h1, h2, hP, hK, hD, hN⟩ := h
  obtain ⟨⟨⟨r, u, ho, hp, hP1, hK1, hD1⟩, hF⟩, L, hE, hL⟩ := hq
  subst h2
  obtain ⟨g1, g2⟩ := fr_core O (hpq _ _ hp) hP hD hF.2 hP1
  exact ⟨⟨⟨r, u, ho, hp, g1, hK1, g2⟩, fr_F hF (fun q => fr_A O.six)⟩, L, hE, fun q hq => fr_A O.six (hL q hq)⟩
theorem x_frl {post : Int64 → S → Prop} {pq : S → Prop} (hpq : ∀ r u, post r u → pq u) (O : frO b R it wo B1 R1 pq) (hM : Met l y wsy rm (xPc D cl tys av (b ++ it.map R) sz) (va_Ql post (xB D cl tys (va_A (b ++ it.map R) sz) wo) (va_A (b ++ it.map R) sz)) mc ms (va_A (b ++ it.map R) sz)) :
    Met l y wsy rm (xPc D cl tys av (b ++ rgs R) sz) (va_Ql post (xB D cl tys (va_A (b ++ rgs R) sz) (fun u => B1 u ++ rgs (R1 u))) (va_A (b ++ rgs R) sz)) mc ms (va_A (b ++ rgs R) sz) := by
  refine x_mono hM (fun a s h => fr_pre O.six O.inj h) (fun a s o t h hq => ?_)
  obtain ⟨h1, h2, hP, hK, hD, hN⟩ := h
  obtain ⟨⟨⟨r, u, ho, hp, hP1, hK1, hD1⟩, hF⟩, L, hE, hL⟩ := hq
  subst h2
  obtain ⟨g1, g2⟩ := fr_core O (hpq _ _ hp) hP hD hF.2 hP1
  exact ⟨⟨⟨r, u, ho, hp, g1, hK1, g2⟩, fr_F hF (fun q => fr_A O.six)⟩, L, hE, fun q hq => fr_A O.six (hL q hq)⟩
end FR

