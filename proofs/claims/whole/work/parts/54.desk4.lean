/-! a scale that may be below 0 -/
theorem sbt {t s : Nat} (ht : t < 1000) (hs : s < 1000) : (nI t - nI s).toInt = (t : Int) - (s : Int) := by
  rw [Int32.toInt_sub, nI_toInt (by omega), nI_toInt (by omega)]
  exact Int.bmod_eq_of_le (by omega) (by omega)
theorem sb_28 {t s : Nat} (ht : t < 1000) (hs : s < 1000) : nI 28 ≤ nI t - nI s ↔ s + 28 ≤ t := by
  rw [Int32.le_iff_toInt_le, sbt ht hs, nI_toInt (by omega)]
  omega
theorem sb_0 {t s : Nat} (ht : t < 1000) (hs : s < 1000) : nI t - nI s < 0 ↔ t < s := by
  rw [Int32.lt_iff_toInt_lt, sbt ht hs, show (0 : Int32).toInt = 0 by decide]
  omega
theorem sb_1 (t s : Nat) : nI t - nI s + nI 1 = nI (t + 1) - nI s := by
  rw [← nI_add, Int32.sub_eq_add_neg, Int32.sub_eq_add_neg, Int32.add_assoc, Int32.add_comm (-nI s), ← Int32.add_assoc]
theorem dq_s {b : Nat} (hb : 0 < b) (a n : Nat) : 10 * (a * 10 ^ n / b) + (10 * (a * 10 ^ n % b) + 0) / b = a * 10 ^ (n + 1) / b := by
  rw [← ld_q hb, pw_s]
theorem dr_s {b : Nat} (a n : Nat) : (10 * (a * 10 ^ n % b) + 0) % b = a * 10 ^ (n + 1) % b := by
  rw [← ld_r, pw_s]
theorem dq_b {b : Nat} (hb : 0 < b) {a n : Nat} (h : a * 10 ^ n / b < lim) : a * 10 ^ (n + 1) / b < 10 * lim := by
  rw [← dq_s hb]
  have h1 := Nat.mod_lt (a * 10 ^ n) hb
  have h2 : (10 * (a * 10 ^ n % b) + 0) / b < 10 := Nat.div_lt_of_lt_mul (by rw [Nat.mul_comm b 10]; omega)
  omega

