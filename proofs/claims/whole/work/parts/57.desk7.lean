/-! the class's quotient and the document's -/
theorem dv_md {v1 v2 s1 s2 n sc : Nat} (h : s2 + sc = s1 + n) : v1 * 10 ^ s2 * 10 ^ sc % (v2 * 10 ^ s1) = 10 ^ s1 * (v1 * 10 ^ n % v2) := by
  have e : v1 * 10 ^ s2 * 10 ^ sc = 10 ^ s1 * (v1 * 10 ^ n) := by rw [Nat.mul_assoc, ← Nat.pow_add, h, Nat.pow_add, Nat.mul_left_comm]
  rw [e, Nat.mul_comm v2, Nat.mul_mod_mul_left]
theorem dv_mz {v1 v2 s1 s2 n sc : Nat} (h : s2 + sc = s1 + n) : v1 * 10 ^ s2 * 10 ^ sc % (v2 * 10 ^ s1) = 0 ↔ v1 * 10 ^ n % v2 = 0 := by
  rw [dv_md h]
  have hp := pw_pos (B := 10) (by decide) s1
  constructor
  · intro z; rcases Nat.mul_eq_zero.mp z with z | z
    · omega
    · exact z
  · intro z; rw [z, Nat.mul_zero]
theorem dvE_dvs {v1 v2 s1 s2 n : Nat} (hs1 : s1 ≤ 28) (h : dvE v1 v2 s1 s2 n) : plc (v1 * 10 ^ s2) (v2 * 10 ^ s1) (min (s1 + n - s2) 28) = dvs (v1 * 10 ^ s2) (v2 * 10 ^ s1) (s1 - s2) := by
  obtain ⟨h1, h2, h3, h4⟩ := h
  have hs : s1 + n - s2 ≤ 28 := by omega
  rw [Nat.min_eq_left hs]
  have hal : s2 + (s1 + n - s2) = s1 + n := by omega
  refine dvs_stop (by omega) hs (fun r ha hr => ?_) ?_
  · have hj : s2 + r = s1 + (s2 + r - s1) := by omega
    have h5 := h3 (s2 + r - s1) (by omega) (by omega)
    rw [dv_mz hj, ← (dv_al (v1 := v1) (v2 := v2) hj).1]
    exact h5
  · rw [dv_mz hal, ← (dv_al (v1 := v1) (v2 := v2) hal).1]
    rcases h4 with z | z | z
    · exact Or.inl (by omega)
    · exact Or.inr (Or.inl z)
    · exact Or.inr (Or.inr z)

