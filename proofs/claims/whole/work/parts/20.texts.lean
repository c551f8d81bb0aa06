/-! bits read off one by one -/
theorem bs_bit (v b : Nat) : dg 10 (v / 2 ^ b) 0 % 2 = v / 2 ^ b % 2 := dg_low2 _
theorem bs_mod (v b : Nat) : v % 2 ^ (b + 1) = v % 2 ^ b + 2 ^ b * (v / 2 ^ b % 2) := Nat.mod_pow_succ
theorem bs_hi {v b fr : Nat} (h : fr ≤ b) : v % 2 ^ b / 2 ^ fr + v / 2 ^ b % 2 * 2 ^ (b - fr) = v % 2 ^ (b + 1) / 2 ^ fr := by
  obtain ⟨k, rfl⟩ := Nat.exists_eq_add_of_le h
  rw [bs_mod, Nat.add_sub_cancel_left, Nat.pow_add, Nat.mul_assoc, Nat.add_mul_div_left _ _ (Nat.two_pow_pos fr), Nat.mul_comm (2 ^ k)]
theorem bs_lt {v b fr : Nat} (h : fr ≤ b) : v % 2 ^ b / 2 ^ fr < 2 ^ (b - fr) := by
  obtain ⟨k, rfl⟩ := Nat.exists_eq_add_of_le h
  rw [Nat.add_sub_cancel_left]
  refine (Nat.div_lt_iff_lt_mul (Nat.two_pow_pos fr)).mpr ?_
  rw [← Nat.pow_add, Nat.add_comm]
  exact Nat.mod_lt _ (Nat.two_pow_pos _)
theorem bs_lo {v b fr : Nat} (h : b < fr) : v % 2 ^ b / 2 ^ fr = v % 2 ^ (b + 1) / 2 ^ fr := by
  have p1 : (2 : Nat) ^ b ≤ 2 ^ fr := Nat.pow_le_pow_right (by decide) (by omega)
  have p2 : (2 : Nat) ^ (b + 1) ≤ 2 ^ fr := Nat.pow_le_pow_right (by decide) (by omega)
  have m1 := Nat.mod_lt v (Nat.two_pow_pos b)
  have m2 := Nat.mod_lt v (Nat.two_pow_pos (b + 1))
  rw [Nat.div_eq_of_lt (by omega), Nat.div_eq_of_lt (by omega)]
theorem bs_or {al t k : Nat} (hk : k < 64) (ha : al < 2 ^ k) (ht : t < 2) : lN al ||| lN (t * 2 ^ k) = lN (al + t * 2 ^ k) := by
  refine g_or' (k := k) rfl ha ?_
  have p1 : (2 : Nat) ^ (k + 1) ≤ 2 ^ 64 := Nat.pow_le_pow_right (by decide) (by omega)
  rw [Nat.pow_succ] at p1
  have : t = 0 ∨ t = 1 := by omega
  rcases this with rfl | rfl <;> omega
theorem bs_dd1 (w j : Nat) : (10 * (w / 10 ^ (j + 1) % 2) + dg 10 w j) / 2 = dg 10 (w / 2) j := by
  rw [Nat.mul_comm 10]; exact dd_quo (by decide) (by decide) w j
theorem bs_dd2 (w j : Nat) : (10 * (w / 10 ^ (j + 1) % 2) + dg 10 w j) % 2 = w / 10 ^ j % 2 := by
  rw [Nat.mul_comm 10]; exact dd_rem w j
theorem bs_half (v b : Nat) : v / 2 ^ b / 2 = v / 2 ^ (b + 1) := by rw [Nat.pow_succ, Nat.div_div_eq_div_mul]
/-! texts: lists of codes -/
def oR (f : Nat → Int32) (L : List Nat) : Prop := rI L.length f (fun j => L.getD j 0)
theorem oR_nil (f : Nat → Int32) : oR f [] := rI_nil
theorem oR_push {f : Nat → Int32} {L : List Nat} {v : Nat} (h : oR f L) : oR (upd f L.length (nI v)) (L ++ [v]) := fun j hj => by
  have hj1 : j < L.length + 1 := by rw [List.length_append] at hj; exact hj
  show _ = nI ((L ++ [v]).getD j 0)
  by_cases e : j = L.length
  · subst e; rw [pk_us]; congr 1; simp
  · have hj2 : j < L.length := by omega
    rw [pk_un e, h j hj2]
    show nI (L.getD j 0) = _
    congr 1
    rw [List.getD_eq_getElem?_getD, List.getD_eq_getElem?_getD, List.getElem?_append_left hj2]
theorem oL_push (L : List Nat) (v : Nat) : nI L.length + nI 1 = nI (L ++ [v]).length := by rw [nI_add, List.length_append]; rfl
theorem oR_at {f : Nat → Int32} {L : List Nat} {j : Nat} (h : oR f L) (hj : j < L.length) : f j = nI (L.getD j 0) := h j hj
theorem x_fc {n : Nat} (h : n < 65536) : vp_nar .char (nI n) = nI n := by
  rw [← x_i2c h]; exact pk_vc _
def tyP (L : List Nat) (v : Nat) (r sz : Int32) (f : Nat → Int32) : Prop := if 32 ≤ v ∧ v ≤ 126 ∧ L.length ≠ 40 then r = nI 1 ∧ sz = nI (L ++ [v]).length ∧ oR f (L ++ [v]) else r = nI 0 ∧ sz = nI L.length ∧ oR f L
theorem tyP_y {L : List Nat} {v : Nat} {f : Nat → Int32} (h : 32 ≤ v ∧ v ≤ 126 ∧ L.length ≠ 40) (hf : oR f (L ++ [v])) : tyP L v (nI 1) (nI (L ++ [v]).length) f := by unfold tyP; rw [if_pos h]; exact ⟨rfl, rfl, hf⟩
theorem tyP_n {L : List Nat} {v : Nat} {f : Nat → Int32} (h : ¬ (32 ≤ v ∧ v ≤ 126 ∧ L.length ≠ 40)) (hf : oR f L) : tyP L v (nI 0) (nI L.length) f := by unfold tyP; rw [if_neg h]; exact ⟨rfl, rfl, hf⟩
/-! a number as it is shown -/
def shD (v s : Nat) : Nat → List Nat
  | 0 => []
  | k + 1 => (if k + 1 = s then [46] else []) ++ (48 + dg 10 v k) :: shD v s k
theorem shD_y {v s k : Nat} (h : k + 1 = s) : shD v s (k + 1) = 46 :: (48 + dg 10 v k) :: shD v s k := by
  show (if _ then _ else _) ++ _ = _; rw [if_pos h]; rfl
theorem shD_n {v s k : Nat} (h : k + 1 ≠ s) : shD v s (k + 1) = (48 + dg 10 v k) :: shD v s k := by
  show (if _ then _ else _) ++ _ = _; rw [if_neg h]; rfl
theorem shD_len (v s : Nat) : ∀ k, (shD v s k).length ≤ 2 * k
  | 0 => Nat.le_refl _
  | k + 1 => by
    have := shD_len v s k
    by_cases h : k + 1 = s
    · rw [shD_y h]; simp only [List.length_cons]; omega
    · rw [shD_n h]; simp only [List.length_cons]; omega
def hiF (v s : Nat) : Nat → Nat
  | 0 => 0
  | n + 1 => if s < n + 1 ∧ dg 10 v (n + 1) = 0 then hiF v s n else n + 1
theorem hiF_s {v s n : Nat} (h : s < n) (hd : dg 10 v n = 0) : hiF v s n = hiF v s (n - 1) := by
  cases n with
  | zero => omega
  | succ n => show (if _ then _ else _) = _; rw [if_pos ⟨h, hd⟩]; rfl
theorem hiF_e {v s n : Nat} (h : n ≤ s ∨ dg 10 v n ≠ 0) : hiF v s n = n := by
  cases n with
  | zero => rfl
  | succ n => show (if _ then _ else _) = _; rw [if_neg (by omega)]
def sgL (ng : Nat) : List Nat := if ng = 0 then [] else [45]
def shT (v s ng : Nat) : List Nat := sgL ng ++ shD v s (hiF v s 29 + 1)

