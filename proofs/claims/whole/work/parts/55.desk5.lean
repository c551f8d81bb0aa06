theorem dv_al {v1 v2 s1 s2 n sc : Nat} (h : s2 + sc = s1 + n) : v1 * 10 ^ n / v2 = v1 * 10 ^ s2 * 10 ^ sc / (v2 * 10 ^ s1) ∧ cls (v1 * 10 ^ n % v2) v2 = cls (v1 * 10 ^ s2 * 10 ^ sc % (v2 * 10 ^ s1)) (v2 * 10 ^ s1) := by
  have e : v1 * 10 ^ s2 * 10 ^ sc = 10 ^ s1 * (v1 * 10 ^ n) := by rw [Nat.mul_assoc, ← Nat.pow_add, h, Nat.pow_add, Nat.mul_left_comm]
  rw [e, Nat.mul_comm v2, Nat.mul_div_mul_left _ _ (pw_pos (by decide) s1), Nat.mul_mod_mul_left, cls_mul (pw_pos (by decide) s1)]
  exact ⟨rfl, rfl⟩
/-- where the class's division stops -/
def dvE (v1 v2 s1 s2 n : Nat) : Prop := s2 ≤ s1 + n ∧ (s1 + n ≤ s2 + 28 ∨ n = 0) ∧ (∀ j, j < n → s2 ≤ s1 + j → v1 * 10 ^ j % v2 ≠ 0 ∧ v1 * 10 ^ j / v2 < lim) ∧ (s2 + 28 ≤ s1 + n ∨ v1 * 10 ^ n % v2 = 0 ∨ lim ≤ v1 * 10 ^ n / v2)
theorem dv_all {v1 v2 s1 s2 n : Nat} (h : ∀ j, j < n → s2 ≤ s1 + j → v1 * 10 ^ j % v2 ≠ 0 ∧ v1 * 10 ^ j / v2 < lim) (hn : s1 + n < s2 ∨ (v1 * 10 ^ n % v2 ≠ 0 ∧ v1 * 10 ^ n / v2 < lim)) : ∀ j, j < n + 1 → s2 ≤ s1 + j → v1 * 10 ^ j % v2 ≠ 0 ∧ v1 * 10 ^ j / v2 < lim := by
  intro j hj hs
  by_cases e : j = n
  · subst e; rcases hn with g | g
    · omega
    · exact g
  · exact h j (by omega) hs
theorem ufN_sp (r q : Nat) : ((r ≠ 0 ∧ q < lim) ∧ ufN r q = 1) ∨ ((r = 0 ∨ lim ≤ q) ∧ ufN r q = 0) := by
  by_cases h : r ≠ 0 ∧ q < lim
  · exact Or.inl ⟨h, (ufN_y h).symm⟩
  · exact Or.inr ⟨by omega, (ufN_n h).symm⟩

