/-! the greater of two; remainders; an operation's result in the desk -/
theorem x_mx {x y : Nat} (hx : x < 2 ^ 31) (hy : y < 2 ^ 31) : (if nI x < nI y then nI y else nI x) = nI (max x y) := by
  have h := nI_ltI hx hy
  by_cases c : x < y
  · rw [if_pos (h.mpr c)]; congr 1; omega
  · rw [if_neg (fun z => c (h.mp z))]; congr 1; omega
theorem x_mxs {c s k : Nat} (hc : c < 1000) (hs : s < 1000) (hk : k < 1000) : (if nI c - nI s < nI k then nI k else nI c - nI s) = nI (max (c - s) k) := by
  have h : nI c - nI s < nI k ↔ (c : Int) - (s : Int) < (k : Int) := by
    rw [Int32.lt_iff_toInt_lt, sbt hc hs, nI_toInt (by omega)]
  by_cases z : (c : Int) - (s : Int) < (k : Int)
  · rw [if_pos (h.mpr z)]; congr 1; omega
  · rw [if_neg (fun q => z (h.mp q)), pk_sub (by omega)]; congr 1; omega
theorem rm_lt {v1 v2 s1 s2 : Nat} (h1 : v1 < lim) (h2 : v2 < lim) (hb : v2 ≠ 0) : v1 * 10 ^ (s2 - s1) % (v2 * 10 ^ (s1 - s2)) < lim := by
  by_cases c : s1 ≤ s2
  · rw [show s1 - s2 = 0 by omega, Nat.pow_zero, Nat.mul_one]
    exact Nat.lt_trans (Nat.mod_lt _ (Nat.pos_of_ne_zero hb)) h2
  · rw [show s2 - s1 = 0 by omega, Nat.pow_zero, Nat.mul_one]
    exact Nat.lt_of_le_of_lt (Nat.mod_le _ _) h1
theorem plc_ex {V s : Nat} (h : V < lim) : plc V (10 ^ s) s = some (V, s) := by
  have e : rne (V * 10 ^ s) (10 ^ s) = V := by rw [rne_exact (Nat.mul_mod_left _ _), Nat.mul_div_cancel _ (pw_pos (by decide) s)]
  have h2 := plc_y (num := V) (den := 10 ^ s) (s := s) (by rw [e]; exact h)
  rw [h2, e]
/-- what an operation leaves in the desk -/
def caP (o : Option (Nat × Nat × Nat)) (z sc ng : Int32) (f : Nat → Int64) : Prop := match o with
  | some (q, s, g) => z = nI 1 ∧ sc = nI s ∧ ng = nI g ∧ wR f q
  | none => z = nI 0
theorem ca_add {mi v1 s1 g1 v2 s2 g2 ng t : Nat} {z : Int32} {f : Nat → Int64} (hmi : mi < 2) (hs1 : s1 ≤ 28) (hs2 : s2 ≤ 28) (h : dpP (jnV g1 (neq g2 mi) (v1 * 10 ^ (s2 - s1)) (v2 * 10 ^ (s1 - s2))) (10 ^ max s1 s2) (max s1 s2) ng z t f) : caP (opR mi v1 s1 g1 v2 s2 g2) z (nI t) (nI (jnS g1 (neq g2 mi) (v1 * 10 ^ (s2 - s1)) (v2 * 10 ^ (s1 - s2)))) f := by
  have e1 : max s1 s2 - s1 = s2 - s1 := by omega
  have e2 : max s1 s2 - s2 = s1 - s2 := by omega
  rcases dpP_sp h with ⟨hz, hp⟩ | ⟨hz, q, hp, hf⟩
  · rw [rs_addn (mi := mi) (na := g1) (nb := g2) rfl hmi rfl (by omega) (by rw [e1, e2]; exact hp)]; exact hz
  · rw [rs_add (mi := mi) (na := g1) (nb := g2) rfl hmi rfl (by omega) (by rw [e1, e2]; exact hp), e1, e2]; exact ⟨hz, rfl, rfl, hf⟩
theorem ca_mul {v1 s1 g1 v2 s2 g2 ng t : Nat} {z : Int32} {f : Nat → Int64} (h : dpP (v1 * v2) (10 ^ (s1 + s2)) (s1 + s2) ng z t f) : caP (opR 2 v1 s1 g1 v2 s2 g2) z (nI t) (nI (neq g1 g2)) f := by
  rcases dpP_sp h with ⟨hz, hp⟩ | ⟨hz, q, hp, hf⟩
  · rw [rs_muln (na := g1) (nb := g2) rfl hp]; exact hz
  · rw [rs_mul (na := g1) (nb := g2) rfl hp]; exact ⟨hz, rfl, rfl, hf⟩
theorem ca_div {v1 s1 g1 v2 s2 g2 n ng t : Nat} {z : Int32} {f : Nat → Int64} (hs1 : s1 ≤ 28) (hb : v2 ≠ 0) (hE : dvE v1 v2 s1 s2 n) (h : dpP (v1 * 10 ^ s2) (v2 * 10 ^ s1) (s1 + n - s2) ng z t f) : caP (opR 3 v1 s1 g1 v2 s2 g2) z (nI t) (nI (neq g1 g2)) f := by
  have e := dvE_dvs hs1 hE
  have eo : opR 3 v1 s1 g1 v2 s2 g2 = (dvs (v1 * 10 ^ s2) (v2 * 10 ^ s1) (s1 - s2)).map (fun z => (z.1, z.2, neq g1 g2)) := by
    unfold opR
    rw [if_neg (by decide), if_neg (by decide), if_neg hb, if_pos rfl]
  rw [eo, ← e]
  rcases dpP_sp h with ⟨hz, hn⟩ | ⟨hz, q, hq, hf⟩
  · rw [hn]; exact hz
  · rw [hq]; exact ⟨hz, rfl, rfl, hf⟩
theorem ca_rem {v1 s1 g1 v2 s2 g2 ng t : Nat} {z : Int32} {f : Nat → Int64} (h1 : v1 < lim) (h2 : v2 < lim) (hs1 : s1 ≤ 28) (hs2 : s2 ≤ 28) (hb : v2 ≠ 0) (h : dpP (v1 * 10 ^ (s2 - s1) % (v2 * 10 ^ (s1 - s2))) (10 ^ max s1 s2) (max s1 s2) ng z t f) : caP (opR 4 v1 s1 g1 v2 s2 g2) z (nI t) (nI g1) f := by
  have e1 : max s1 s2 - s1 = s2 - s1 := by omega
  have e2 : max s1 s2 - s2 = s1 - s2 := by omega
  have hp := plc_ex (s := max s1 s2) (rm_lt (s1 := s1) (s2 := s2) h1 h2 hb)
  rw [rs_rem (op := 4) (na := g1) (nb := g2) rfl hb rfl, e1, e2]
  rcases dpP_sp h with ⟨hz, hn⟩ | ⟨hz, q, hq, hf⟩
  · rw [show min (max s1 s2) 28 = max s1 s2 by omega, hp] at hn; cases hn
  · rw [show min (max s1 s2) 28 = max s1 s2 by omega, hp] at hq
    cases hq
    exact ⟨hz, rfl, rfl, hf⟩
theorem ca_z {op v1 s1 g1 v2 s2 g2 : Nat} {sc ng : Int32} {f : Nat → Int64} (hop : 2 < op) (hb : v2 = 0) : caP (opR op v1 s1 g1 v2 s2 g2) (nI 0) sc ng f := by
  rw [opR_z hop hb]; rfl
theorem caP_cases {o : Option (Nat × Nat × Nat)} {z sc ng : Int32} {f : Nat → Int64} (h : caP o z sc ng f) : (o = none ∧ z = nI 0) ∨ ∃ q s g, o = some (q, s, g) ∧ z = nI 1 ∧ sc = nI s ∧ ng = nI g ∧ wR f q := by
  cases o with
  | none => exact Or.inl ⟨rfl, h⟩
  | some p => obtain ⟨q, s, g⟩ := p; exact Or.inr ⟨q, s, g, rfl, h.1, h.2.1, h.2.2.1, h.2.2.2⟩
theorem caP_1 {o : Option (Nat × Nat × Nat)} {z sc ng : Int32} {f : Nat → Int64} (h : caP o z sc ng f) (hz : ¬ z = 0) : z = nI 1 := by
  rcases caP_cases h with ⟨-, h⟩ | ⟨q, s, g, -, h, -⟩
  · exact absurd (h.trans nI_0) hz
  · exact h
theorem caP_nz {o : Option (Nat × Nat × Nat)} {z sc ng : Int32} {f : Nat → Int64} (h : caP o z sc ng f) : narrow .boolean (.int z) = .int z := by
  rcases caP_cases h with ⟨-, h⟩ | ⟨q, s, g, -, h, -⟩ <;> rw [h] <;> rfl

