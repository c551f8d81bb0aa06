/-! signed numbers, divisions, digits -/
theorem neq_sp (a b : Nat) : (a = b ∧ neq a b = 0) ∨ (a ≠ b ∧ neq a b = 1) := by
  by_cases h : a = b
  · exact Or.inl ⟨h, neq_y h⟩
  · exact Or.inr ⟨h, neq_n h⟩
theorem ag_1 {g1 g2 X Y : Nat} (h1 : g1 ≤ 1) (h2 : g2 ≤ 1) (hne : g1 ≠ g2) (hX : g1 = 1 → X ≠ 0) (h : g1 ≠ 0) : -1 = cmpR (jnV g1 (neq g2 1) X Y) (jnS g1 (neq g2 1) X Y) := by
  have e : g1 = neq g2 1 := by have := neq_sp g2 1; omega
  obtain ⟨e1, e2⟩ := jn_0 (X := X) (Y := Y) e
  have := hX (by omega)
  rw [e1, e2]; exact cmp_2 (by omega) h
theorem ag_2 {g1 g2 X Y : Nat} (h1 : g1 ≤ 1) (h2 : g2 ≤ 1) (hne : g1 ≠ g2) (hY : g2 = 1 → Y ≠ 0) (h : g1 = 0) : nI 1 = cmpR (jnV g1 (neq g2 1) X Y) (jnS g1 (neq g2 1) X Y) := by
  have e : g1 = neq g2 1 := by have := neq_sp g2 1; omega
  obtain ⟨e1, e2⟩ := jn_0 (X := X) (Y := Y) e
  have := hY (by omega)
  rw [e1, e2]; exact cmp_1 (by omega) h
theorem ag_3 {g1 g2 X Y : Nat} (h1 : g1 ≤ 1) (he : g1 = g2) (h : g1 ≠ 0) : ord3 Y X = cmpR (jnV g1 (neq g2 1) X Y) (jnS g1 (neq g2 1) X Y) := by
  have e : g1 ≠ neq g2 1 := by have := neq_sp g2 1; omega
  have f : neq g2 1 = 0 := by have := neq_sp g2 1; omega
  by_cases c : Y ≤ X
  · obtain ⟨e1, e2⟩ := jn_1 e c
    rw [e1, e2]
    by_cases d : Y = X
    · rw [← ord3_eq d]; exact cmp_0 (by omega)
    · rw [← ord3_lt (by omega)]; exact cmp_2 (by omega) h
  · obtain ⟨e1, e2⟩ := jn_2 (X := X) (Y := Y) e (by omega)
    rw [e1, e2, ← ord3_gt (by omega)]; exact cmp_1 (by omega) f
theorem ag_4 {g1 g2 X Y : Nat} (h1 : g1 ≤ 1) (he : g1 = g2) (h : g1 = 0) : ord3 X Y = cmpR (jnV g1 (neq g2 1) X Y) (jnS g1 (neq g2 1) X Y) := by
  have e : g1 ≠ neq g2 1 := by have := neq_sp g2 1; omega
  have f : neq g2 1 = 1 := by have := neq_sp g2 1; omega
  by_cases c : Y ≤ X
  · obtain ⟨e1, e2⟩ := jn_1 e c
    rw [e1, e2]
    by_cases d : X = Y
    · rw [← ord3_eq d]; exact cmp_0 (by omega)
    · rw [← ord3_gt (by omega)]; exact cmp_1 (by omega) h
  · obtain ⟨e1, e2⟩ := jn_2 (X := X) (Y := Y) e (by omega)
    rw [e1, e2, ← ord3_lt (by omega)]; exact cmp_2 (by omega) (by omega)
theorem ld_e (V d b : Nat) : 10 * V + d = (10 * (V % b) + d) + b * (10 * (V / b)) := by
  have h := Nat.div_add_mod V b
  have e : b * (10 * (V / b)) = 10 * (b * (V / b)) := by rw [Nat.mul_left_comm]
  omega
theorem ld_q {b : Nat} (hb : 0 < b) (V d : Nat) : (10 * V + d) / b = 10 * (V / b) + (10 * (V % b) + d) / b := by
  have e := ld_e V d b
  rw [show (10 * V + d) / b = ((10 * (V % b) + d) + b * (10 * (V / b))) / b from congrArg (· / b) e, Nat.add_mul_div_left _ _ hb, Nat.add_comm]
theorem ld_r {b : Nat} (V d : Nat) : (10 * V + d) % b = (10 * (V % b) + d) % b := by
  have e := ld_e V d b
  rw [show (10 * V + d) % b = ((10 * (V % b) + d) + b * (10 * (V / b))) % b from congrArg (· % b) e, Nat.add_mul_mod_self_left]
theorem ldv_end {x t b r9 : Nat} (hb : 0 < b) (h : r9 + t * b = x) (hr : r9 < b) : r9 = x % b ∧ t = x / b := by
  rw [← h, Nat.add_mul_mod_self_right, Nat.mod_eq_of_lt hr, Nat.add_mul_div_right _ _ hb, Nat.div_eq_of_lt hr, Nat.zero_add]
  exact ⟨rfl, rfl⟩
def ufN (r q : Nat) : Nat := if r ≠ 0 ∧ q < lim then 1 else 0
theorem ufN_y {r q : Nat} (h : r ≠ 0 ∧ q < lim) : 1 = ufN r q := (if_pos h).symm
theorem ufN_n {r q : Nat} (h : ¬ (r ≠ 0 ∧ q < lim)) : 0 = ufN r q := (if_neg h).symm
theorem cls_ord {r b : Nat} (h : r ≠ 0) : nI 2 + ord3 (r + r) b = nI (cls r b) := by
  have c := cls_sp r b
  rcases Nat.lt_trichotomy (r + r) b with g | g | g
  · rw [← ord3_lt g, show cls r b = 1 by omega]; rfl
  · rw [← ord3_eq g, show cls r b = 2 by omega]; rfl
  · rw [← ord3_gt g, show cls r b = 3 by omega]; rfl
/-- the digits of a number, and how many it has -/
def dgC (v c : Nat) : Prop := v < 10 ^ c ∧ (c = 0 ∨ 10 ^ (c - 1) ≤ v)
theorem dgC_s {v c : Nat} (h : v / 10 ^ c ≠ 0) : 10 ^ c ≤ v := by
  rcases Nat.lt_or_ge v (10 ^ c) with g | g
  · exact absurd (Nat.div_eq_of_lt g) h
  · exact g
theorem dgC_e {v c : Nat} (h : v / 10 ^ c = 0) : v < 10 ^ c := (Nat.div_eq_zero_iff_lt (pw_pos (by decide) _)).mp h
theorem dg_over {v c j : Nat} (h : v < 10 ^ c) (hj : c ≤ j) : dg 10 v j = 0 := dg_top (Nat.lt_of_lt_of_le h (pw_le hj))
theorem x_nb {n : Nat} (h : n < 128) : vp_nar .byte (nI n) = nI n := by
  rw [← x_i2b h]; exact pk_vb _
theorem dn_of (n : Nat) : nI n - nI 1 = dn n := by
  cases n with
  | zero => decide +kernel
  | succ j => exact pk_sub (by omega)
theorem x_nch {n : Nat} (h : n < 65536) : narrow .char (.int (nI n)) = .int (nI n) := by
  rw [← x_i2c h]; exact pk_nc _

