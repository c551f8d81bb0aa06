/-! references in a row of references; registers from bits; a rounded number's bound -/
section XR3
variable {p : Program} {l : Launch} {e : Env} {R : Room} {s : State} {m : MethodId} {args : Array Value} {below : List Frame} {meth : Method} {c : Code} {H : Heap} {locs : List Loc} {cells slots : Nat} {Q : State → Prop}
variable {cc : ByteArray} {pc : Nat} {ls : Array Slot} {rest : List Value} {D : va_G} {cl : List vw_C} {a : Nat} {tys : List (ClassId × FieldType)} {ws : va_W}
theorem x_aald (hexec : p.tables.exec = Jvm.exec) (hb : c.code = cc) (hK : va_K D cl tys s) (hP : va_P D cl ws H) (q0 t0 : Nat) {cA : ClassId} {C : String} {n : Nat} {f : Nat → Option Nat} (ha : ws[q0]? = some (a, .inl (cA, n, .inr (.inr (.inr (.inr f)))))) (ht : tys[t0]? = some (cA, .object C)) {i r : Nat} (hi : i < n) (hn : n < 2 ^ 31) (hv : f i = some r) (hdg : decode cc pc = .ok (.aaload, 1))
    (kk : W p l e R s m args below meth c H locs cells slots Q (F0 m (pc + 1) ls (.ref r :: rest))) : W p l e R s m args below meth c H locs cells slots Q (F0 m pc ls (.int (nI i) :: .ref a :: rest)) := by
  refine va_aldq hexec hb hK hP q0 t0 ha ht (vp_in_nI hi hn) hdg ?_
  rw [nI_clamp (Nat.lt_trans hi hn), hv]; exact kk
end XR3
theorem sx_lo {lo hi : Nat} (hl : lo < 18446744073709551616) : (lo + 18446744073709551616 * hi) % 18446744073709551616 = lo := by omega
theorem sx_hi {lo hi : Nat} (hl : lo < 18446744073709551616) (hh : hi < 4294967296) : dg 4294967296 (lo + 18446744073709551616 * hi) 2 = hi := by
  rw [wd2]; omega
theorem rdC_lt {md g v s d : Nat} (hv : v < lim) : rdC md g v s d < lim := by
  by_cases c : s ≤ d
  · rw [(rd_0 c).1]; exact hv
  · have h := rd_lt (v := v) (k := s - d) (by omega) hv
    rw [(rd_1 (Nat.lt_of_not_le c)).1]
    have h2 : awN md g (v % 10 ^ (s - d)) (10 ^ (s - d)) (v / 10 ^ (s - d)) ≤ 1 := by unfold awN; split <;> omega
    omega
theorem trm_le : ∀ (v s : Nat), (trm v s).1 ≤ v
  | v, 0 => Nat.le_refl _
  | v, s + 1 => by
    show (if _ then _ else _ : Nat × Nat).1 ≤ v
    by_cases h : v % 10 = 0
    · rw [if_pos h]; exact Nat.le_trans (trm_le (v / 10) s) (Nat.div_le_self _ _)
    · rw [if_neg h]; exact Nat.le_refl _
theorem tk_s {L : List Nat} {k : Nat} (h : k < L.length) : L.take k ++ [L.getD k 0] = L.take (k + 1) := by
  rw [List.take_add_one, List.getD_eq_getElem?_getD, List.getElem?_eq_getElem h]; rfl
theorem dpP_some {num den s ng sc q t : Nat} {r : Int32} {f : Nat → Int64} (h : dpP num den s ng r sc f) (hp : plc num den (min s 28) = some (q, t)) : r = nI 1 ∧ sc = t ∧ wR f q ∧ q < lim := by
  rcases dpP_sp h with ⟨-, hn⟩ | ⟨hz, q9, hq, hf⟩
  · rw [hn] at hp; cases hp
  · rw [hq] at hp; cases hp; exact ⟨hz, rfl, hf, (plc_lt hq).1⟩
/-! new rows; what makes them is in the tables -/
theorem ra_inj {U : State} {c1 c2 : ClassId} {ty : FieldType} (h1 : va_RA U c1 ty) (h2 : va_RA U c2 ty) : c1 = c2 := by
  cases ty with
  | object C =>
    obtain ⟨_, _, _, _, _, e1⟩ := h1
    obtain ⟨_, _, _, _, _, e2⟩ := h2
    exact Option.some.inj (e1.symm.trans e2)
  | _ => exact Option.some.inj (Eq.trans (Eq.symm h1) h2)
theorem k_last {D : va_G} {cl : List vw_C} {tys : List (ClassId × FieldType)} {U : State} {cA : ClassId} {ty : FieldType} (h : va_K D cl (tys ++ [(cA, ty)]) U) : va_RA U cA ty := (h.2 tys.length (cA, ty) (by rw [List.getElem?_append_right (Nat.le_refl _), Nat.sub_self]; rfl)).2
section XR4
variable {p : Program} {l : Launch} {e : Env} {R : Room} {s : State} {m : MethodId} {args : Array Value} {below : List Frame} {meth : Method} {c : Code} {H : Heap} {locs : List Loc} {cells slots : Nat} {Q : State → Prop}
variable {cc : ByteArray} {pc : Nat} {ls : Array Slot} {rest : List Value} {D : va_G} {cl : List vw_C} {A : Nat → Prop} {a : Nat} {tys : List (ClassId × FieldType)} {ws : va_W} {H0 : Heap}
theorem x_newa (hexec : p.tables.exec = Jvm.exec) (hb : c.code = cc) {atype : ArrayType} (harr : (Cond.arrayClass (newarray.typeOf atype)).before args s = true) {ty : FieldType} (hty : newarray.typeOf atype = ty) (hK : va_K D cl tys s) (t0 : Nat) {cA : ClassId} (ht : tys[t0]? = some (cA, ty)) (hP : va_P D cl ws H) (hD : va_D A ws) (hS : va_S A H0 H locs) (hA : ∀ q, H0.size ≤ q → A q)
    {N1 : Nat} {a0 : vp_A} (ha : ∀ cA : ClassId, vp_cell cA a0 = arrV cA N1 (fun _ => defaultValue ty)) (hn : N1 < 2 ^ 31) (hbytes : N1 * componentBytes ty ≤ 536870912) (hcells : cells + 1 ≤ R.cells) (hslots : slots + N1 ≤ R.slots) (hdg : decode cc pc = .ok (.newarray atype, 2))
    (kk : ∀ (q : Nat) (H1 : Heap), va_P D cl (ws ++ [(q, .inl (cA, a0))]) H1 → va_D A (ws ++ [(q, .inl (cA, a0))]) → va_S A H0 H1 locs → W p l e R s m args below meth c H1 locs (cells + 1) (slots + N1) Q (F0 m (pc + 2) ls (.ref q :: rest))) : W p l e R s m args below meth c H locs cells slots Q (F0 m pc ls (.int (nI N1) :: rest)) :=
  va_newa hexec hb harr hty hK hP hD hS hA ha (nI_pos hn) (nI_clamp hn) hbytes hcells hslots hdg (fun q cB H1 hK1 hP1 hD1 hS1 => by
    have e := ra_inj (k_last hK1) (hK.2 t0 _ ht).2
    subst e
    exact kk q H1 hP1 hD1 hS1)
theorem x_newq (hexec : p.tables.exec = Jvm.exec) (hb : c.code = cc) {own C : String} {index : Nat} (hown : s.vm.findClass own = some m.cls) (hclink : (Cond.classLink own index C).before args s = true) (hover : va_AO C s) (hK : va_K D cl tys s) (t0 : Nat) {cA : ClassId} (ht : tys[t0]? = some (cA, .object C)) (hP : va_P D cl ws H) (hD : va_D A ws) (hS : va_S A H0 H locs) (hA : ∀ q, H0.size ≤ q → A q)
    {N1 : Nat} (hn : N1 < 2 ^ 31) (hbytes : N1 * 4 ≤ 536870912) (hcells : cells + 1 ≤ R.cells) (hslots : slots + N1 ≤ R.slots) (hdg : decode cc pc = .ok (.anewarray index, 3))
    (kk : ∀ (q : Nat) (H1 : Heap), va_P D cl (ws ++ [(q, .inl (cA, N1, .inr (.inr (.inr (.inr (fun _ => none))))))]) H1 → va_D A (ws ++ [(q, .inl (cA, N1, .inr (.inr (.inr (.inr (fun _ => none))))))]) → va_S A H0 H1 locs → W p l e R s m args below meth c H1 locs (cells + 1) (slots + N1) Q (F0 m (pc + 3) ls (.ref q :: rest))) : W p l e R s m args below meth c H locs cells slots Q (F0 m pc ls (.int (nI N1) :: rest)) :=
  va_newq hexec hb hown hclink hover hK hP hD hS hA (nI_pos hn) (nI_clamp hn) hbytes hcells hslots hdg (fun q cB H1 hK1 hP1 hD1 hS1 => by
    have e := ra_inj (k_last hK1) (hK.2 t0 _ ht).2
    subst e
    exact kk q H1 hP1 hD1 hS1)
theorem x_astq (hexec : p.tables.exec = Jvm.exec) (hb : c.code = cc) (hK : va_K D cl tys s) (hP : va_P D cl ws H) (hD : va_D A ws) (hS : va_S A H0 H locs) (q0 t0 qk ci : Nat) {cA : ClassId} {r : vw_C} {n v : Nat} {vs : List Value} {f : Nat → Option Nat} (ha : ws[q0]? = some (a, .inl (cA, n, .inr (.inr (.inr (.inr f)))))) (ht : tys[t0]? = some (cA, .object r.1)) (hv : ws[qk]? = some (v, .inr (ci, vs))) (hc : cl[ci]? = some r) {i : Nat} (hi : i < n) (hn : n < 2 ^ 31) (hdg : decode cc pc = .ok (.aastore, 1))
    (kk : ∀ (H1 : Heap) (locs1 : List Loc), va_P D cl (ws.set q0 (a, .inl (cA, n, .inr (.inr (.inr (.inr (va_up f i (some v)))))))) H1 → va_D A (ws.set q0 (a, .inl (cA, n, .inr (.inr (.inr (.inr (va_up f i (some v)))))))) → va_S A H0 H1 locs1 → W p l e R s m args below meth c H1 locs1 cells slots Q (F0 m (pc + 1) ls rest)) : W p l e R s m args below meth c H locs cells slots Q (F0 m pc ls (.ref v :: .int (nI i) :: .ref a :: rest)) := by
  refine va_astq hexec hb hK hP hD hS q0 t0 qk ci ha ht hv hc (vp_in_nI hi hn) hdg ?_
  rw [nI_clamp (Nat.lt_trans hi hn)]; exact kk
end XR4
theorem lim_0 : dR (upd (fun _ => nI 0) 0 (nI 1)) (2 ^ 0) := fun j hj => by
  by_cases h : j = 0
  · subst h; rfl
  · have e : upd (fun _ => nI 0) 0 (nI 1) j = nI 0 := if_neg h
    rw [e, dg_big (v := 2 ^ 0) (n := 1) (by decide) (by omega)]
/-! the object of the desk: its addresses, and what stands in its rows -/
abbrev kA : Type := Nat × Nat × Nat × Nat × Nat × Nat × Nat × Nat × Nat × Nat × Nat × Nat × Nat × Nat × Nat × Nat × Nat × Nat × Nat × Nat × Nat × Nat × Nat × Nat × (Nat → Option Nat) × (Nat → Nat)
abbrev kA.k9 (ka : kA) : Nat := ka.1
abbrev kA.q0 (ka : kA) : Nat := ka.2.1
abbrev kA.q1 (ka : kA) : Nat := ka.2.2.1
abbrev kA.q2 (ka : kA) : Nat := ka.2.2.2.1
abbrev kA.d (ka : kA) : Nat := ka.2.2.2.2.1
abbrev kA.o (ka : kA) : Nat := ka.2.2.2.2.2.1
abbrev kA.q5 (ka : kA) : Nat := ka.2.2.2.2.2.2.1
abbrev kA.e0 (ka : kA) : Nat := ka.2.2.2.2.2.2.2.1
abbrev kA.g0 (ka : kA) : Nat := ka.2.2.2.2.2.2.2.2.1
abbrev kA.t9 (ka : kA) : Nat := ka.2.2.2.2.2.2.2.2.2.1
abbrev kA.ta (ka : kA) : Nat := ka.2.2.2.2.2.2.2.2.2.2.1
abbrev kA.oa (ka : kA) : Nat := ka.2.2.2.2.2.2.2.2.2.2.2.1
abbrev kA.w (ka : kA) : Nat := ka.2.2.2.2.2.2.2.2.2.2.2.2.1
abbrev kA.wa (ka : kA) : Nat := ka.2.2.2.2.2.2.2.2.2.2.2.2.2.1
abbrev kA.x (ka : kA) : Nat := ka.2.2.2.2.2.2.2.2.2.2.2.2.2.2.1
abbrev kA.xa (ka : kA) : Nat := ka.2.2.2.2.2.2.2.2.2.2.2.2.2.2.2.1
abbrev kA.fa (ka : kA) : Nat := ka.2.2.2.2.2.2.2.2.2.2.2.2.2.2.2.2.1
abbrev kA.x1 (ka : kA) : Nat := ka.2.2.2.2.2.2.2.2.2.2.2.2.2.2.2.2.2.1
abbrev kA.x2 (ka : kA) : Nat := ka.2.2.2.2.2.2.2.2.2.2.2.2.2.2.2.2.2.2.1
abbrev kA.x3 (ka : kA) : Nat := ka.2.2.2.2.2.2.2.2.2.2.2.2.2.2.2.2.2.2.2.1
abbrev kA.a1 (ka : kA) : Nat := ka.2.2.2.2.2.2.2.2.2.2.2.2.2.2.2.2.2.2.2.2.1
abbrev kA.a2 (ka : kA) : Nat := ka.2.2.2.2.2.2.2.2.2.2.2.2.2.2.2.2.2.2.2.2.2.1
abbrev kA.a3 (ka : kA) : Nat := ka.2.2.2.2.2.2.2.2.2.2.2.2.2.2.2.2.2.2.2.2.2.2.1
abbrev kA.ga (ka : kA) : Nat := ka.2.2.2.2.2.2.2.2.2.2.2.2.2.2.2.2.2.2.2.2.2.2.2.1
abbrev kA.ra (ka : kA) : (Nat → Option Nat) := ka.2.2.2.2.2.2.2.2.2.2.2.2.2.2.2.2.2.2.2.2.2.2.2.2.1
abbrev kA.r (ka : kA) : (Nat → Nat) := ka.2.2.2.2.2.2.2.2.2.2.2.2.2.2.2.2.2.2.2.2.2.2.2.2.2
abbrev kS : Type := Int32 × Int32 × Int32 × Int32 × Int32 × Int32 × Int32 × Int32 × Int32 × Int32 × Int32 × Int32 × Int32 × Int32 × Int32 × (Nat → Int32) × (Nat → Int32) × (Nat → Int32) × (Nat → Int64) × (Nat → Int64) × (Nat → Int64) × (Nat → Int64) × (Nat → Int64) × (Nat → Int64)
abbrev kS.m1 (z : kS) : Int32 := z.1
abbrev kS.m2 (z : kS) : Int32 := z.2.1
abbrev kS.i1 (z : kS) : Int32 := z.2.2.1
abbrev kS.i2 (z : kS) : Int32 := z.2.2.2.1
abbrev kS.i3 (z : kS) : Int32 := z.2.2.2.2.1
abbrev kS.i4 (z : kS) : Int32 := z.2.2.2.2.2.1
abbrev kS.i5 (z : kS) : Int32 := z.2.2.2.2.2.2.1
abbrev kS.i6 (z : kS) : Int32 := z.2.2.2.2.2.2.2.1
abbrev kS.n0 (z : kS) : Int32 := z.2.2.2.2.2.2.2.2.1
abbrev kS.h0 (z : kS) : Int32 := z.2.2.2.2.2.2.2.2.2.1
abbrev kS.f0 (z : kS) : Int32 := z.2.2.2.2.2.2.2.2.2.2.1
abbrev kS.c0 (z : kS) : Int32 := z.2.2.2.2.2.2.2.2.2.2.2.1
abbrev kS.b0 (z : kS) : Int32 := z.2.2.2.2.2.2.2.2.2.2.2.2.1
abbrev kS.l0 (z : kS) : Int32 := z.2.2.2.2.2.2.2.2.2.2.2.2.2.1
abbrev kS.p0 (z : kS) : Int32 := z.2.2.2.2.2.2.2.2.2.2.2.2.2.2.1
abbrev kS.fx (z : kS) : (Nat → Int32) := z.2.2.2.2.2.2.2.2.2.2.2.2.2.2.2.1
abbrev kS.fo (z : kS) : (Nat → Int32) := z.2.2.2.2.2.2.2.2.2.2.2.2.2.2.2.2.1
abbrev kS.rw (z : kS) : (Nat → Int32) := z.2.2.2.2.2.2.2.2.2.2.2.2.2.2.2.2.2.1
abbrev kS.f (z : kS) : (Nat → Int64) := z.2.2.2.2.2.2.2.2.2.2.2.2.2.2.2.2.2.2.1
abbrev kS.g (z : kS) : (Nat → Int64) := z.2.2.2.2.2.2.2.2.2.2.2.2.2.2.2.2.2.2.2.1
abbrev kS.h (z : kS) : (Nat → Int64) := z.2.2.2.2.2.2.2.2.2.2.2.2.2.2.2.2.2.2.2.2.1
abbrev kS.fd (z : kS) : (Nat → Int64) := z.2.2.2.2.2.2.2.2.2.2.2.2.2.2.2.2.2.2.2.2.2.1
abbrev kS.fq (z : kS) : (Nat → Int64) := z.2.2.2.2.2.2.2.2.2.2.2.2.2.2.2.2.2.2.2.2.2.2.1
abbrev kS.fr (z : kS) : (Nat → Int64) := z.2.2.2.2.2.2.2.2.2.2.2.2.2.2.2.2.2.2.2.2.2.2.2
/-- text and output stay -/
def kK (u z : kS) : Prop := u.m1 = z.m1 ∧ u.fx = z.fx ∧ u.m2 = z.m2 ∧ u.fo = z.fo
theorem kK_r {u z : kS} (h1 : u.m1 = z.m1) (h2 : u.fx = z.fx) (h3 : u.m2 = z.m2) (h4 : u.fo = z.fo) : kK u z := ⟨h1, h2, h3, h4⟩
/-- the text stays -/
def kT (u z : kS) : Prop := u.m1 = z.m1 ∧ u.fx = z.fx
/-- the output stays -/
def kO (u z : kS) : Prop := u.m2 = z.m2 ∧ u.fo = z.fo
theorem df_X0 : ∀ j, j < 2 → defaultValue (tyX0 j) = vp_V [.null, .int (nI 0)] j := fun j hj => by
  match j, hj with
  | 0, _ => rfl
  | 1, _ => rfl
  | k + 2, hk => exact absurd hk (by omega)
theorem df_X1 : ∀ j, j < 4 → defaultValue (tyX1 j) = vp_V [.null, .int (nI 0), .int (nI 0), .int (nI 0)] j := fun j hj => by
  match j, hj with
  | 0, _ => rfl
  | 1, _ => rfl
  | 2, _ => rfl
  | 3, _ => rfl
  | k + 4, hk => exact absurd hk (by omega)
theorem df_X2 : ∀ j, j < 2 → defaultValue (tyX2 j) = vp_V [.null, .int (nI 0)] j := fun j hj => by
  match j, hj with
  | 0, _ => rfl
  | 1, _ => rfl
  | k + 2, hk => exact absurd hk (by omega)
theorem df_X3 : ∀ j, j < 3 → defaultValue (tyX3 j) = vp_V [.null, .null, .null] j := fun j hj => by
  match j, hj with
  | 0, _ => rfl
  | 1, _ => rfl
  | 2, _ => rfl
  | k + 3, hk => exact absurd hk (by omega)
theorem df_X4 : ∀ j, j < 6 → defaultValue (tyX4 j) = vp_V [.int (nI 0), .int (nI 0), .int (nI 0), .int (nI 0), .int (nI 0), .int (nI 0)] j := fun j hj => by
  match j, hj with
  | 0, _ => rfl
  | 1, _ => rfl
  | 2, _ => rfl
  | 3, _ => rfl
  | 4, _ => rfl
  | 5, _ => rfl
  | k + 6, hk => exact absurd hk (by omega)
theorem df_X5 : ∀ j, j < 4 → defaultValue (tyX5 j) = vp_V [.long (lN 0), .int (nI 0), .int (nI 0), .int (nI 0)] j := fun j hj => by
  match j, hj with
  | 0, _ => rfl
  | 1, _ => rfl
  | 2, _ => rfl
  | 3, _ => rfl
  | k + 4, hk => exact absurd hk (by omega)
theorem df_X6 : ∀ j, j < 1 → defaultValue (tyX6 j) = vp_V [.null] j := fun j hj => by
  match j, hj with
  | 0, _ => rfl
  | k + 1, hk => exact absurd hk (by omega)
theorem df_X7 : ∀ j, j < 9 → defaultValue (tyX7 j) = vp_V [.null, .null, .null, .null, .null, .null, .null, .null, .null] j := fun j hj => by
  match j, hj with
  | 0, _ => rfl
  | 1, _ => rfl
  | 2, _ => rfl
  | 3, _ => rfl
  | 4, _ => rfl
  | 5, _ => rfl
  | 6, _ => rfl
  | 7, _ => rfl
  | 8, _ => rfl
  | k + 9, hk => exact absurd hk (by omega)
theorem df_X8 : ∀ j, j < 21 → defaultValue (tyX8 j) = vp_V [.int (nI 0), .null, .null, .null, .int (nI 0), .null, .int (nI 0), .null, .null, .null, .null, .null, .null, .null, .null, .int (nI 0), .int (nI 0), .int (nI 0), .int (nI 0), .int (nI 0), .int (nI 0)] j := fun j hj => by
  match j, hj with
  | 0, _ => rfl
  | 1, _ => rfl
  | 2, _ => rfl
  | 3, _ => rfl
  | 4, _ => rfl
  | 5, _ => rfl
  | 6, _ => rfl
  | 7, _ => rfl
  | 8, _ => rfl
  | 9, _ => rfl
  | 10, _ => rfl
  | 11, _ => rfl
  | 12, _ => rfl
  | 13, _ => rfl
  | 14, _ => rfl
  | 15, _ => rfl
  | 16, _ => rfl
  | 17, _ => rfl
  | 18, _ => rfl
  | 19, _ => rfl
  | 20, _ => rfl
  | k + 21, hk => exact absurd hk (by omega)
