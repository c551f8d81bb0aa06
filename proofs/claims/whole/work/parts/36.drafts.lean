/-! drafts -/
theorem st_eq {v : Nat} (hv : v < lim) : v % 18446744073709551616 + 18446744073709551616 * dg 4294967296 v 2 = v := by
  have : lim = 79228162514264337593543950336 := rfl
  rw [wd2]; omega
theorem sgn_le {ng v : Nat} (h : ng ≤ 1) : sgn ng v ≤ 1 := by unfold sgn; split <;> omega
theorem sgn_sp (ng v : Nat) : (v = 0 ∧ sgn ng v = 0) ∨ (v ≠ 0 ∧ sgn ng v = ng) := by
  unfold sgn
  by_cases h : v = 0
  · rw [if_pos h]; exact Or.inl ⟨h, rfl⟩
  · rw [if_neg h]; exact Or.inr ⟨h, rfl⟩
def gwN (md ng ct v : Nat) : Nat := if (md = 0 ∧ (ct = 3 ∨ (ct = 2 ∧ v % 2 = 1))) ∨ (md = 1 ∧ 2 ≤ ct) ∨ (md = 3 ∧ ct ≠ 0 ∧ ng = 1) ∨ (md = 4 ∧ ct ≠ 0 ∧ ng = 0) then 1 else 0
theorem gwN_y {md ng ct v : Nat} (h : (md = 0 ∧ (ct = 3 ∨ (ct = 2 ∧ v % 2 = 1))) ∨ (md = 1 ∧ 2 ≤ ct) ∨ (md = 3 ∧ ct ≠ 0 ∧ ng = 1) ∨ (md = 4 ∧ ct ≠ 0 ∧ ng = 0)) : 1 = gwN md ng ct v := by unfold gwN; rw [if_pos h]
theorem gwN_n {md ng ct v : Nat} (h : ¬ ((md = 0 ∧ (ct = 3 ∨ (ct = 2 ∧ v % 2 = 1))) ∨ (md = 1 ∧ 2 ≤ ct) ∨ (md = 3 ∧ ct ≠ 0 ∧ ng = 1) ∨ (md = 4 ∧ ct ≠ 0 ∧ ng = 0))) : 0 = gwN md ng ct v := by unfold gwN; rw [if_neg h]
theorem gwN_le (md ng ct v : Nat) : gwN md ng ct v ≤ 1 := by unfold gwN; split <;> omega
theorem gwN_rne (ng : Nat) {n d : Nat} : n / d + gwN 0 ng (cls (n % d) d) (n / d) = rne n d := by
  unfold gwN rne
  congr 1
  by_cases h : cls (n % d) d = 3 ∨ (cls (n % d) d = 2 ∧ n / d % 2 = 1)
  · rw [if_pos h, if_pos (Or.inl ⟨rfl, h⟩)]
  · rw [if_neg h, if_neg (by omega)]
def fiN (ct v : Nat) : Nat := if v + gwN 0 0 ct v < lim then 1 else 0
theorem gw0 (ng ct v : Nat) : gwN 0 ng ct v = gwN 0 0 ct v := by unfold gwN; congr 1; apply propext; constructor <;> intro h <;> omega
theorem fiN_sp (ct v : Nat) : (v + gwN 0 0 ct v < lim ∧ fiN ct v = 1) ∨ (lim ≤ v + gwN 0 0 ct v ∧ fiN ct v = 0) := by
  unfold fiN
  by_cases h : v + gwN 0 0 ct v < lim
  · rw [if_pos h]; exact Or.inl ⟨h, rfl⟩
  · rw [if_neg h]; exact Or.inr ⟨by omega, rfl⟩
theorem cls_le (r d : Nat) : cls r d ≤ 3 := by have := cls_sp r d; omega
theorem cutf_le (t c : Nat) : cutf t c ≤ 3 := by have := cutf_sp t c; omega
/-- the place of a draft -/
def dpP (num den s ng : Nat) (r : Int32) (sc : Nat) (f : Nat → Int64) : Prop := match plc num den (min s 28) with
  | some (q, t) => r = nI 1 ∧ sc = t ∧ wR f q
  | none => r = nI 0
theorem dpP_y {num den s ng t : Nat} {f : Nat → Int64} (h : plc num den (min s 28) = plc num den t) (hf : rne (num * 10 ^ t) den < lim) (hq : wR f (rne (num * 10 ^ t) den)) : dpP num den s ng (nI 1) t f := by
  unfold dpP
  rw [h, plc_y hf]
  exact ⟨rfl, rfl, hq⟩
theorem dpP_n {num den s ng t : Nat} {f : Nat → Int64} (h : plc num den (min s 28) = none) : dpP num den s ng (nI 0) t f := by
  unfold dpP
  rw [h]
theorem pw_s (v k : Nat) : 10 * (v * 10 ^ k) + 0 = v * 10 ^ (k + 1) := by
  rw [Nat.pow_succ, Nat.mul_comm (10 ^ k) 10, Nat.mul_left_comm v 10, Nat.add_zero]

