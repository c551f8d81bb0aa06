theorem bdm {a b : Nat} (ha : a < lim) (hb : b < lim) : a * b < 4294967296 ^ 6 := by
  have h := Nat.mul_lt_mul_of_le_of_lt (Nat.le_of_lt ha) hb (show 0 < lim by decide +kernel)
  have e : lim * lim = 4294967296 ^ 6 := by decide +kernel
  omega
theorem dpP_sp {num den s ng sc : Nat} {r : Int32} {f : Nat → Int64} (h : dpP num den s ng r sc f) : (r = nI 0 ∧ plc num den (min s 28) = none) ∨ (r = nI 1 ∧ ∃ q, plc num den (min s 28) = some (q, sc) ∧ wR f q) := by
  unfold dpP at h
  cases e : plc num den (min s 28) with
  | none => rw [e] at h; exact Or.inl ⟨h, rfl⟩
  | some p =>
    obtain ⟨q, t⟩ := p
    rw [e] at h
    exact Or.inr ⟨h.1, q, by rw [h.2.1], h.2.2⟩
theorem dpP_nz {num den s ng sc : Nat} {r : Int32} {f : Nat → Int64} (h : dpP num den s ng r sc f) : narrow .boolean (.int r) = .int r := by
  rcases dpP_sp h with h | h <;> rw [h.1] <;> rfl

