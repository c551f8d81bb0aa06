theorem rs_add {op ca sa na cb sb nb mi mo q s : Nat} (hop : op = mi) (hmi : mi < 2) (hmo : mo = max sa sb) (hm : mo ≤ 28) (hpc : plc (jnV na (neq nb mi) (ca * 10 ^ (mo - sa)) (cb * 10 ^ (mo - sb))) (10 ^ mo) (min mo 28) = some (q, s)) : opR op ca sa na cb sb nb = some (q, s, jnS na (neq nb mi) (ca * 10 ^ (mo - sa)) (cb * 10 ^ (mo - sb))) := by
  subst hop
  rw [show min mo 28 = mo by omega] at hpc
  rw [opR_01 hmi, ← hmo, hpc]
  rfl
theorem rs_addn {op ca sa na cb sb nb mi mo : Nat} (hop : op = mi) (hmi : mi < 2) (hmo : mo = max sa sb) (hm : mo ≤ 28) (hpc : plc (jnV na (neq nb mi) (ca * 10 ^ (mo - sa)) (cb * 10 ^ (mo - sb))) (10 ^ mo) (min mo 28) = none) : opR op ca sa na cb sb nb = none := by
  subst hop
  rw [show min mo 28 = mo by omega] at hpc
  rw [opR_01 hmi, ← hmo, hpc]
  rfl
theorem rs_mul {op ca sa na cb sb nb q s : Nat} (hop : op = 2) (hpc : plc (ca * cb) (10 ^ (sa + sb)) (min (sa + sb) 28) = some (q, s)) : opR op ca sa na cb sb nb = some (q, s, neq na nb) := by
  subst hop; rw [opR_2, hpc]; rfl
theorem rs_muln {op ca sa na cb sb nb : Nat} (hop : op = 2) (hpc : plc (ca * cb) (10 ^ (sa + sb)) (min (sa + sb) 28) = none) : opR op ca sa na cb sb nb = none := by
  subst hop; rw [opR_2, hpc]; rfl
theorem rs_divx {op ca sa na cb sb nb s : Nat} (hop : op = 3) (hb : cb ≠ 0) (hx : exs (ca * 10 ^ sb) (cb * 10 ^ sa) (sa - sb) (29 - (sa - sb)) = some s) : opR op ca sa na cb sb nb = some (ca * 10 ^ sb * 10 ^ s / (cb * 10 ^ sa), s, neq na nb) := by
  subst hop; rw [opR_3 hb, dvs_y hx]; rfl
theorem rs_div {op ca sa na cb sb nb q s : Nat} (hop : op = 3) (hb : cb ≠ 0) (hx : exs (ca * 10 ^ sb) (cb * 10 ^ sa) (sa - sb) (29 - (sa - sb)) = none) (hpc : plc (ca * 10 ^ sb) (cb * 10 ^ sa) (min 28 28) = some (q, s)) : opR op ca sa na cb sb nb = some (q, s, neq na nb) := by
  have h28 : min 28 28 = 28 := by decide
  rw [h28] at hpc
  subst hop; rw [opR_3 hb, dvs_n hx, hpc]; rfl
theorem rs_divn {op ca sa na cb sb nb : Nat} (hop : op = 3) (hb : cb ≠ 0) (hx : exs (ca * 10 ^ sb) (cb * 10 ^ sa) (sa - sb) (29 - (sa - sb)) = none) (hpc : plc (ca * 10 ^ sb) (cb * 10 ^ sa) (min 28 28) = none) : opR op ca sa na cb sb nb = none := by
  have h28 : min 28 28 = 28 := by decide
  rw [h28] at hpc
  subst hop; rw [opR_3 hb, dvs_n hx, hpc]; rfl
theorem rs_rem {op ca sa na cb sb nb mo : Nat} (hop : op = 4) (hb : cb ≠ 0) (hmo : mo = max sa sb) : opR op ca sa na cb sb nb = some (ca * 10 ^ (mo - sa) % (cb * 10 ^ (mo - sb)), mo, na) := by
  subst hop; rw [opR_4 hb, ← hmo]
theorem rsP_cases {o : Option (Nat × Nat × Nat)} {r pl : Int32} {fq : Nat → Int32} (h : rsP o r pl fq) : (o = none ∧ r = nI 1) ∨ (∃ q s g, o = some (q, s, g) ∧ r = nI (2 * g) ∧ pl = nI s ∧ dR fq q) := by
  cases o with
  | none => exact Or.inl ⟨rfl, h⟩
  | some z => exact Or.inr ⟨z.1, z.2.1, z.2.2, rfl, h.1, h.2.1, h.2.2⟩
theorem lim30 : lim < 10 ^ 30 := by decide +kernel
theorem mul0 {v k : Nat} (h : v * 10 ^ k = 0) : v = 0 := by
  rcases Nat.mul_eq_zero.mp h with h | h
  · exact h
  · exact absurd h (Nat.ne_of_gt (pw_pos (by decide) k))
theorem mulp {v k : Nat} (h : v ≠ 0) : 0 < v * 10 ^ k := Nat.mul_pos (Nat.pos_of_ne_zero h) (pw_pos (by decide) k)
theorem exs_lt {num den : Nat} : ∀ (n s t : Nat), exs num den s n = some t → num * 10 ^ t / den < lim ∧ t < s + n
  | 0, s, t, h => by cases h
  | n + 1, s, t, h => by
    by_cases c : num * 10 ^ s % den = 0 ∧ num * 10 ^ s / den < lim
    · have h' : (if num * 10 ^ s % den = 0 ∧ num * 10 ^ s / den < lim then some s else exs num den (s + 1) n) = some t := h
      rw [if_pos c] at h'
      cases h'
      exact ⟨c.2, by omega⟩
    · have h' : (if num * 10 ^ s % den = 0 ∧ num * 10 ^ s / den < lim then some s else exs num den (s + 1) n) = some t := h
      rw [if_neg c] at h'
      have := exs_lt n (s + 1) t h'
      exact ⟨this.1, by omega⟩
theorem opR_lt {op ca sa na cb sb nb q s g : Nat} (h1 : ca < lim) (h2 : cb < lim) (h3 : sa ≤ 28) (h4 : sb ≤ 28) (h5 : na ≤ 1) (h6 : nb ≤ 1) (h : opR op ca sa na cb sb nb = some (q, s, g)) : q < lim ∧ s ≤ 28 ∧ g ≤ 1 := by
  by_cases c1 : op < 2
  · rw [opR_01 c1] at h
    cases hp : plc (jnV na (neq nb op) (ca * 10 ^ (max sa sb - sa)) (cb * 10 ^ (max sa sb - sb))) (10 ^ max sa sb) (max sa sb) with
    | none => rw [hp] at h; cases h
    | some z =>
      rw [hp] at h
      cases h
      have hz := plc_lt hp
      exact ⟨hz.1, by omega, jnS_le h5 (neq_le _ _)⟩
  · by_cases c2 : op = 2
    · subst c2
      rw [opR_2] at h
      cases hp : plc (ca * cb) (10 ^ (sa + sb)) (min (sa + sb) 28) with
      | none => rw [hp] at h; cases h
      | some z =>
        rw [hp] at h
        cases h
        have hz := plc_lt hp
        exact ⟨hz.1, by omega, neq_le _ _⟩
    · by_cases c3 : cb = 0
      · rw [opR_z (by omega) c3] at h; cases h
      · by_cases c4 : op = 3
        · subst c4
          rw [opR_3 c3] at h
          cases hx : exs (ca * 10 ^ sb) (cb * 10 ^ sa) (sa - sb) (29 - (sa - sb)) with
          | none =>
            rw [dvs_n hx] at h
            cases hp : plc (ca * 10 ^ sb) (cb * 10 ^ sa) 28 with
            | none => rw [hp] at h; cases h
            | some z =>
              rw [hp] at h
              cases h
              have hz := plc_lt hp
              exact ⟨hz.1, hz.2, neq_le _ _⟩
          | some t =>
            rw [dvs_y hx] at h
            cases h
            have hz := exs_lt _ _ _ hx
            exact ⟨hz.1, by omega, neq_le _ _⟩
        · unfold opR at h
          rw [if_neg c1, if_neg c2, if_neg c3, if_neg c4] at h
          cases h
          refine ⟨?_, by omega, h5⟩
          by_cases k : sa ≤ sb
          · have e : max sa sb - sb = 0 := by omega
            rw [e, Nat.pow_zero, Nat.mul_one]
            have := Nat.mod_lt (ca * 10 ^ (max sa sb - sa)) (Nat.pos_of_ne_zero c3)
            omega
          · have e : max sa sb - sa = 0 := by omega
            rw [e, Nat.pow_zero, Nat.mul_one]
            have := Nat.mod_le ca (cb * 10 ^ (max sa sb - sb))
            omega
def okR (op to a b : Int32) : Nat := if inR 5 op = 1 ∧ inR 6 to = 1 ∧ inR 6 a = 1 ∧ inR 6 b = 1 then 1 else 0
theorem inR_gt {k : Nat} {r : Int32} (hk : k + 1 < 2 ^ 31) : nI k < r ↔ nI (k + 1) ≤ r := by
  rw [Int32.lt_iff_toInt_lt, Int32.le_iff_toInt_le, nI_toInt (by omega), nI_toInt hk]
  omega
theorem inR_j {k j : Nat} (hk : k < 2 ^ 31) (hj : j < k) : inR k (nI j) = 1 := inR_y (nI_pos (by omega)) (nI_ge hj hk)
theorem inR_sp (k : Nat) (r : Int32) (hk : k < 2 ^ 31) : (inR k r = 1 ∧ ∃ j, j < k ∧ r = nI j) ∨ (inR k r = 0 ∧ (r < 0 ∨ nI k ≤ r)) := by
  rcases pk_ix r hk with h | h | ⟨j, hj, h⟩
  · exact Or.inr ⟨inR_n (Or.inl h), Or.inl h⟩
  · exact Or.inr ⟨inR_n (Or.inr h), Or.inr h⟩
  · exact Or.inl ⟨by rw [h]; exact inR_j hk hj, j, hj, h⟩
def mSt (fg fs fb : Nat → Int32) (C Sc Bl : Nat → Nat) : Prop := mD fg C ∧ rI 6 fs Sc ∧ rI 6 fb Bl
def mOk (C Sc Bl : Nat → Nat) : Prop := ∀ r, r < 6 → C r < lim ∧ Sc r ≤ 28 ∧ Bl r ≤ 1
/-- what compute leaves: what it threw, and the six numbers -/
def cpP (o : Option (Nat × Nat × Nat)) (to : Nat) (C Sc Bl : Nat → Nat) (th : Int32) (fg fs fb : Nat → Int32) : Prop := match o with
  | some (q, s, g) => th = nI 0 ∧ mSt fg fs fb (upN C to q) (upN Sc to s) (upN Bl to (sgn g q))
  | none => th = nI 2 ∧ mSt fg fs fb C Sc Bl
theorem mul88 {a b : Nat} (ha : a < lim) (hb : b < lim) : a * b * 10 ^ 28 < 10 ^ 99 := by
  have h1 : a * b ≤ lim * lim := Nat.mul_le_mul (Nat.le_of_lt ha) (Nat.le_of_lt hb)
  have h2 : a * b * 10 ^ 28 ≤ lim * lim * 10 ^ 28 := Nat.mul_le_mul_right _ h1
  have h3 : lim * lim * 10 ^ 28 < 10 ^ 99 := by decide +kernel
  exact Nat.lt_of_le_of_lt h2 h3
theorem okR_n {op to a b : Int32} (h : inR 5 op = 0 ∨ inR 6 to = 0 ∨ inR 6 a = 0 ∨ inR 6 b = 0) : okR op to a b = 0 := by
  unfold okR; rw [if_neg (by omega)]
theorem okR_y {op to a b : Int32} (h1 : inR 5 op = 1) (h2 : inR 6 to = 1) (h3 : inR 6 a = 1) (h4 : inR 6 b = 1) : okR op to a b = 1 := by
  unfold okR; rw [if_pos ⟨h1, h2, h3, h4⟩]
theorem okW_n {op to a b : Int32} (h : inR 5 op = 0 ∨ inR 6 to = 0 ∨ inR 6 a = 0 ∨ inR 6 b = 0) : nI 1 = nI (1 - okR op to a b) := by rw [okR_n h]
theorem okW_y {op to a b : Int32} (h1 : ¬ op < 0) (h0 : ¬ nI 4 < op) (h2 : inR 6 to ≠ 0) (h3 : inR 6 a ≠ 0) (h4 : inR 6 b ≠ 0) : nI 0 = nI (1 - okR op to a b) := by
  have i1 := inR_le 6 to
  have i2 := inR_le 6 a
  have i3 := inR_le 6 b
  rw [okR_y (inR_y h1 (fun z => h0 ((inR_gt (by decide)).mpr z))) (by omega) (by omega) (by omega)]

