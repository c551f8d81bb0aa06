/-! the desk -/
theorem pl_0 (V s : Nat) : V = V * 10 ^ s / 10 ^ s := by rw [Nat.mul_div_cancel _ (pw_pos (by decide) s)]
theorem pl_1 (V s : Nat) : 0 = cls (V * 10 ^ s % 10 ^ s) (10 ^ s) := by rw [Nat.mul_mod_left]; rfl
theorem bd6 {v k : Nat} (hv : v < lim) (hk : k ≤ 28) : v * 10 ^ k < 800000000000000000000000000000000000000000000000000000000 := by
  have h1 : (10 : Nat) ^ k ≤ 10 ^ 28 := pw_le hk
  have h2 : lim = 79228162514264337593543950336 := rfl
  have h3 := Nat.mul_le_mul (Nat.le_of_lt hv) h1
  have h4 : lim * 10 ^ 28 < 800000000000000000000000000000000000000000000000000000000 := by rw [h2]; decide +kernel
  omega

