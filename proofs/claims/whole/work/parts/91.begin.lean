/-! the law's start: what the tables and the Statement give -/
theorem x_tb1 {w : Cond} (i : Nat) (hi : tables_1_1[i]? = some w) : w ∈ tables_1 := by have h := List.mem_of_getElem? hi; exact List.mem_append_left _ h
theorem x_tb2 {w : Cond} (i : Nat) (hi : tables_1_2[i]? = some w) : w ∈ tables_1 := by have h := List.mem_of_getElem? hi; exact List.mem_append_right _ (List.mem_append_left _ h)
theorem x_tb3 {w : Cond} (i : Nat) (hi : tables_1_3[i]? = some w) : w ∈ tables_1 := by have h := List.mem_of_getElem? hi; exact List.mem_append_right _ (List.mem_append_right _ (List.mem_append_left _ h))
theorem x_tb4 {w : Cond} (i : Nat) (hi : tables_1_4[i]? = some w) : w ∈ tables_1 := by have h := List.mem_of_getElem? hi; exact List.mem_append_right _ (List.mem_append_right _ (List.mem_append_right _ (h)))
theorem nw_of {s : State} {a : Array Value} : ∀ (w : Cond), isN w = true → w.before a s = true → va_Nw w s
  | .fieldLinkNest .., _, h => h
  | .methodLinkNest .., _, h => h
  | .stringRef .., _, h => h
  | .arrayOver (.object _), _, h => h
theorem xN_start {s : State} {a : Array Value} (h : ∀ w ∈ tables_1, w.before a s = true) : xN s := fun w hw => nw_of w (List.mem_filter.mp hw).2 (h w (List.mem_filter.mp hw).1)
theorem nc_of {E n : String} {s : State} {a : Array Value} (h : (Cond.not (.castable E n)).before a s = true) : ncW E n s := h
set_option maxRecDepth 100000 in
theorem xS_law {s : State} {a : Array Value} (h : ∀ w ∈ tables_1, w.before a s = true) (hg : (Jvm.Cond.and given_1 narrow_1).before a s = true) : xS s.heap.size s := by
  have hs := flat_of_before _ hg
  refine xS_start (a := a) (fun w hw => ?_) (nc_of (hs (Cond.not (.castable eS eI)) (by decide +kernel))) (nc_of (hs (Cond.not (.castable eA eI)) (by decide +kernel))) (nc_of (hs (Cond.not (.castable eA eS)) (by decide +kernel)))
  simp only [wsH, List.mem_cons, List.not_mem_nil, or_false] at hw
  rcases hw with rfl | rfl | rfl | rfl | rfl | rfl | rfl | rfl | rfl | rfl
  · exact hs _ (by decide +kernel)
  · exact hs _ (by decide +kernel)
  · exact h _ (x_tb3 2 rfl)
  · exact h _ (x_tb3 4 rfl)
  · exact h _ (x_tb2 219 rfl)
  · exact h _ (x_tb2 221 rfl)
  · exact h _ (x_tb2 223 rfl)
  · exact h _ (x_tb2 217 rfl)
  · exact h _ (x_tb3 122 rfl)
  · exact h _ (x_tb3 54 rfl)
theorem ar_of {s : State} {a : Array Value} {ty : FieldType} (h : (Cond.arrayClass ty).before a s = true) : ∃ cA : ClassId, ArrOfT s cA ty ∧ s.vm.findClass ("[" ++ ty.toString) = some cA := by
  obtain ⟨cA, kA, comp, h1, h2, h3⟩ := Cond.arrayClass_spec h
  exact ⟨cA, fun n z => ⟨(fun k h => by cases h), kA, h2, comp, h3⟩, h1⟩
theorem ao_of {s : State} {C : String} (h : va_AO C s) : ∃ cA : ClassId, ArrOfT s cA (.object C) ∧ va_RA s cA (.object C) := by
  obtain ⟨comp, cA, kA, h1, h2, h3, h4, h5⟩ := Cond.arrayOver_spec h
  exact ⟨cA, fun n z => ⟨(fun k h => by cases h), kA, h3, comp, h4⟩, kA, comp, h3, h4, h1, h5⟩
set_option maxRecDepth 100000 in
theorem K_start {s : State} {a : Array Value} (hts : ∀ w ∈ wsA, w.before a s = true) (hN : xN s) : ∃ (D : va_G) (cI cL cC cB cZ cR : ClassId), va_K D vwCl (tyAll cI cL cC cB cZ cR) s := by
  obtain ⟨c0, i0, h0⟩ := u_known (n := 2) hts in_X0 (hts _ kw_128)
  obtain ⟨c1, i1, h1⟩ := u_known (n := 4) hts in_X1 (hts _ kw_71)
  obtain ⟨c2, i2, h2⟩ := u_known (n := 2) hts in_X2 (hts _ kw_54)
  obtain ⟨c3, i3, h3⟩ := u_known (n := 3) hts in_X3 (hts _ kw_106)
  obtain ⟨c4, i4, h4⟩ := u_known (n := 6) hts in_X4 (hts _ kw_144)
  obtain ⟨c5, i5, h5⟩ := u_known (n := 4) hts in_X5 (hts _ kw_27)
  obtain ⟨c6, i6, h6⟩ := u_known (n := 1) hts in_X6 (hts _ kw_77)
  obtain ⟨c7, i7, h7⟩ := u_known (n := 9) hts in_X7 (hts _ kw_18)
  obtain ⟨c8, i8, h8⟩ := u_known (n := 21) hts in_X8 (hts _ kw_686)
  obtain ⟨cI, qcI, rcI⟩ := ar_of (hts _ kw_761)
  obtain ⟨cL, qcL, rcL⟩ := ar_of (hts _ kw_86)
  obtain ⟨cC, qcC, rcC⟩ := ar_of (hts _ kw_69)
  obtain ⟨cB, qcB, rcB⟩ := ar_of (hts _ kw_142)
  obtain ⟨cZ, qcZ, rcZ⟩ := ar_of (hts _ kw_762)
  obtain ⟨cR, qcR, rcR⟩ := ao_of (hN _ kn_26)
  refine ⟨(fun k => match k with | 0 => c0 | 1 => c1 | 2 => c2 | 3 => c3 | 4 => c4 | 5 => c5 | 6 => c6 | 7 => c7 | _ => c8, fun k => match k with | 0 => i0 | 1 => i1 | 2 => i2 | 3 => i3 | 4 => i4 | 5 => i5 | 6 => i6 | 7 => i7 | _ => i8), cI, cL, cC, cB, cZ, cR, fun k q hq => ?_, fun k q hq => ?_⟩
  · match k, hq with
    | 0, hq => cases hq; exact h0
    | 1, hq => cases hq; exact h1
    | 2, hq => cases hq; exact h2
    | 3, hq => cases hq; exact h3
    | 4, hq => cases hq; exact h4
    | 5, hq => cases hq; exact h5
    | 6, hq => cases hq; exact h6
    | 7, hq => cases hq; exact h7
    | 8, hq => cases hq; exact h8
    | n + 9, hq => cases hq
  · match k, hq with
    | 0, hq => cases hq; exact ⟨qcI, rcI⟩
    | 1, hq => cases hq; exact ⟨qcL, rcL⟩
    | 2, hq => cases hq; exact ⟨qcC, rcC⟩
    | 3, hq => cases hq; exact ⟨qcB, rcB⟩
    | 4, hq => cases hq; exact ⟨qcZ, rcZ⟩
    | 5, hq => cases hq; exact ⟨qcR, rcR⟩
    | n + 6, hq => cases hq
theorem mD_0 : mD (fun _ => nI 0) (fun _ => 0) := fun r i _ _ => by
  show nI 0 = nI (dg 10 0 i)
  unfold dg; rw [Nat.zero_div]
theorem gOk_0 : gOk ((fun _ => 0), (fun _ => 0), (fun _ => 0), [], []) := ⟨fun r _ => ⟨by show 0 < lim; decide +kernel, Nat.zero_le _, Nat.zero_le _⟩, fun i _ h => absurd (show (0 : Nat) = 1 from h) (by decide), Nat.zero_le _, (fun x h => by cases h), Nat.zero_le _, (fun x h => by cases h)⟩
