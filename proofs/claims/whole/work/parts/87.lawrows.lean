/-! the law: its script, its start's words -/
section LWR
variable {p : Program} {l : Launch} {e : Env} {R : Room} {s : State} {m : MethodId} {args : Array Value} {below : List Frame} {meth : Method} {c : Code} {H : Heap} {locs : List Loc} {cells slots : Nat} {Q : State → Prop}
variable {pc : Nat} {ls : Array Slot} {rest : List Value} {A : Nat → Prop} {H0 : Heap} {cc : ByteArray} {b L : Nat} {xs : Nat → Int32}
theorem x_sld (hexec : p.tables.exec = Jvm.exec) (hb : c.code = cc) (hX : va_X b L xs s H0) (hbl : b < H0.size) (hbA : ¬ A b) (hS : va_S A H0 H locs) {k : Nat} (hk : k < L) (hL : L < 2 ^ 31) (hdg : decode cc pc = .ok (.iaload, 1))
    (kk : W p l e R s m args below meth c H locs cells slots Q (F0 m (pc + 1) ls (.int (xs k) :: rest))) : W p l e R s m args below meth c H locs cells slots Q (F0 m pc ls (.int (nI k) :: .ref b :: rest)) := by
  refine va_sld hexec hb hX hbl hbA hS (vp_in_nI hk hL) hdg ?_
  rw [nI_clamp (Nat.lt_trans hk hL)]; exact kk
theorem x_slen (hexec : p.tables.exec = Jvm.exec) (hb : c.code = cc) (hX : va_X b L xs s H0) (hbl : b < H0.size) (hbA : ¬ A b) (hS : va_S A H0 H locs) (hdg : decode cc pc = .ok (.arraylength, 1))
    (kk : W p l e R s m args below meth c H locs cells slots Q (F0 m (pc + 1) ls (.int (nI L) :: rest))) : W p l e R s m args below meth c H locs cells slots Q (F0 m pc ls (.ref b :: rest)) := va_slen hexec hb hX hbl hbA hS hdg kk
end LWR
theorem x_N0 {A : Nat → Prop} {ws W : va_W} {N0 : Nat} (hD : va_D A ws) (hA0 : ∀ q, A q → N0 ≤ q) (is : List Nat) (hC : is.map (fun i => ws[i]?) = W.map some) : ∀ q ∈ W, N0 ≤ q.1 := fun q hq => by
  obtain ⟨k, hk⟩ := List.getElem?_of_mem hq
  have h1 : (is.map (fun i => ws[i]?))[k]? = some (some q) := by rw [hC, List.getElem?_map, hk]; rfl
  rw [List.getElem?_map] at h1
  cases hi : is[k]? with
  | none => rw [hi] at h1; cases h1
  | some i => rw [hi] at h1; exact hA0 _ (hD.2 i q (Option.some.inj h1))
theorem x_i2r (x : Int32) : (x.toUInt32 % 65536).toInt32 = nI (iN x % 65536) := by
  apply Int32.toBitVec_inj.mp
  rw [nI_bv]
  apply BitVec.eq_of_toNat_eq
  rw [BitVec.toNat_ofNat]
  show (x.toUInt32 % 65536).toNat = _
  rw [UInt32.toNat_mod]
  show iN x % 65536 = _
  have := Nat.mod_lt (iN x) (show 0 < 65536 by decide)
  rw [Nat.mod_eq_of_lt (a := iN x % 65536) (by omega)]
theorem x_lc {a b : Int64} (h : a = b) : lg_cmp a b = nI 0 := by
  subst h
  unfold lg_cmp
  simp
  rfl
theorem sCmp_c (g : gS) (a b : Int32) : (sCmp g a b).1 ≤ 1 := by
  unfold sCmp
  split
  · exact Nat.zero_le _
  · exact Nat.le_refl _
theorem sShow_c (g : gS) (a : Int32) : (sShow g a).1 ≤ 1 := by
  unfold sShow
  split
  · exact Nat.zero_le _
  · exact Nat.le_refl _
theorem sFmt_c (g : gS) (a : Int32) : (sFmt g a).1 ≤ 2 := by
  unfold sFmt
  split
  · split
    · exact Nat.zero_le _
    · exact Nat.le_refl _
  · exact Nat.le_succ _
/-- what holds all through the law's walk -/
def lwC (p : Program) (l : Launch) (s : State) (m : MethodId) (c : Code) (b L : Nat) (xs : Nat → Int32) (A : Nat → Prop) (D : va_G) (cI cL cC cB cZ cR : ClassId) (N0 : Nat) (ka : kA) : Prop :=
  (p.tables.exec = Jvm.exec ∧ c.code = code ∧ c.maxLocals = 7 ∧ s.vm.findClass "WideDecimalDeskLaw" = some m.cls ∧ (∀ w ∈ wsA, w.before #[Value.ref b] s = true)) ∧ xN s ∧ xS N0 s ∧ (∀ q, A q → N0 ≤ q) ∧ (∀ q, s.heap.size ≤ q → A q) ∧ va_K D vwCl (tyAll cI cL cC cB cZ cR) s ∧ l.stackTraces = false ∧ (∀ i, i < 6 → ka.ra i = some (ka.r i)) ∧ va_X b L xs s s.heap ∧ b < s.heap.size ∧ ¬ A b ∧ L ≤ 3584
/-- the two objects and the row between them -/
def lwW (cI cL cC cB cZ cR : ClassId) (ka : kA) (ma : mA) (oc : Nat) (z : kS) (w : mS) (g : gS) (fo9 : Nat → Int64) : va_W := (kB cL cC cB cR ka z ++ rgs (kR ka g.C g.S g.B)) ++ ([(oc, .inl (cL, 1, .inr (.inl fo9)))] : va_W) ++ (mB cI cC cZ ma w)
/-- the way on from the end of a step -/
def lwK (p : Program) (l : Launch) (e : Env) (s : State) (m : MethodId) (below : List Frame) (meth : Method) (c : Code) (b : Nat) (A : Nat → Prop) (D : va_G) (cI cL cC cB cZ cR : ClassId) (ka : kA) (ma : mA) (oc i cells slots : Nat) (Q : State → Prop) (pc : Nat) : Prop :=
  ∀ (z : kS) (w : mS) (g : gS) (fo9 : Nat → Int64) (H : Heap) (locs : List Loc) (ls : Array Slot), kU z g → mU w g → gOk g → va_P D vwCl (lwW cI cL cC cB cZ cR ka ma oc z w g fo9) H → va_D A (lwW cI cL cC cB cZ cR ka ma oc z w g fo9) → va_S A s.heap H locs → lv_has ls 7 [(0, .ref b), (1, .ref ka.k9), (2, .ref ma.m9), (3, .ref oc), (4, .int (nI i))] → W p l e room_1 s m #[Value.ref b] below meth c H locs cells slots Q (F0 m pc ls [])

