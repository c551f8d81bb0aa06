/-! words of 32 bits -/
theorem wR_of {f : Nat → Int64} {a b : Nat} (hf : wR f a) (h : a = b) : wR f b := h ▸ hf
theorem wB : (4294967296 : Nat) ^ 2 = 18446744073709551616 := by decide
theorem wB3 : (4294967296 : Nat) ^ 3 = lim := by decide +kernel
theorem wd0 (v : Nat) : dg 4294967296 v 0 = v % 4294967296 := by unfold dg; rw [Nat.pow_zero, Nat.div_one]
theorem wd1 (v : Nat) : dg 4294967296 v 1 = v / 4294967296 % 4294967296 := by unfold dg; rw [Nat.pow_one]
theorem wd2 (v : Nat) : dg 4294967296 v 2 = v / 18446744073709551616 % 4294967296 := by unfold dg; rw [wB]
theorem w_tk {f : Nat → Int64} {lo hi : Nat} (hf : wR f 0) (hl : lo < 18446744073709551616) (hh : hi < 4294967296) : wR (vp_updL (vp_updL (vp_updL f 0 (lN (lo % 4294967296))) 1 (lN (lo / 4294967296))) 2 (lN hi)) (lo + 18446744073709551616 * hi) := fun j hj => by
  by_cases e2 : j = 2
  · subst e2; rw [pk_uLs, wd2]; congr 1; omega
  · rw [pk_uLn e2]
    by_cases e1 : j = 1
    · subst e1; rw [pk_uLs, wd1]; congr 1; omega
    · rw [pk_uLn e1]
      by_cases e0 : j = 0
      · subst e0; rw [pk_uLs, wd0]; congr 1; omega
      · rw [pk_uLn e0, hf j hj, dg_0]
        congr 1
        have h3 : lo + 18446744073709551616 * hi < 4294967296 ^ j := by
          have : (4294967296 : Nat) ^ 3 ≤ 4294967296 ^ j := Nat.pow_le_pow_right (by decide) (by omega)
          have e : (4294967296 : Nat) ^ 3 = 79228162514264337593543950336 := by decide
          omega
        exact (dg_top h3).symm
theorem wv_low (v : Nat) : dg 4294967296 v 0 + dg 4294967296 v 1 * 4294967296 = v % 18446744073709551616 := by
  rw [wd0, wd1]; omega
def cfN (v : Nat) : Nat := if v < lim then 1 else 0
theorem cfN_sp (v : Nat) : (v < lim ∧ cfN v = 1) ∨ (lim ≤ v ∧ cfN v = 0) := by
  unfold cfN
  by_cases h : v < lim
  · rw [if_pos h]; exact Or.inl ⟨h, rfl⟩
  · rw [if_neg h]; exact Or.inr ⟨by omega, rfl⟩
theorem w_top {v : Nat} (hv : v < 4294967296 ^ 6) : v / 4294967296 ^ 3 = dg 4294967296 v 3 + 4294967296 * (dg 4294967296 v 4 + 4294967296 * dg 4294967296 v 5) := by
  have h3 := dg_split 4294967296 v 3
  have h4 := dg_split 4294967296 v 4
  have h5 := dg_split 4294967296 v 5
  have h6 : v / 4294967296 ^ (5 + 1) = 0 := dv_top hv
  rw [h6] at h5
  omega
theorem w_cf {v : Nat} (hv : v < 4294967296 ^ 6) : (dg 4294967296 v 3 = 0 ∧ dg 4294967296 v 4 = 0 ∧ dg 4294967296 v 5 = 0) ↔ v < lim := by
  have h := w_top hv
  rw [← wB3]
  constructor
  · rintro ⟨a, b, d⟩
    rw [a, b, d] at h
    exact (Nat.div_eq_zero_iff_lt (by decide)).mp h
  · intro q
    rw [Nat.div_eq_of_lt q] at h
    omega
theorem w_lo3 {v : Nat} (hv : v < lim) : v = dg 4294967296 v 0 + 4294967296 * (dg 4294967296 v 1 + 4294967296 * dg 4294967296 v 2) := by
  have h0 := dg_split 4294967296 v 0
  have h1 := dg_split 4294967296 v 1
  have h2 := dg_split 4294967296 v 2
  have h3 : v / 4294967296 ^ (2 + 1) = 0 := dv_top (by rw [wB3]; exact hv)
  rw [h3] at h2
  rw [dv_0] at h0
  omega
def gcN (v : Nat) : Nat := if v + 1 = lim then 1 else 0
theorem gcN_sp (v : Nat) : (v + 1 = lim ∧ gcN v = 1) ∨ (v + 1 ≠ lim ∧ gcN v = 0) := by
  unfold gcN
  by_cases h : v + 1 = lim
  · rw [if_pos h]; exact Or.inl ⟨h, rfl⟩
  · rw [if_neg h]; exact Or.inr ⟨h, rfl⟩
theorem w_odd (v : Nat) : dg 4294967296 v 0 % 2 = v % 2 := by rw [wd0]; omega
theorem lN_tib {m : Nat} (h : m < 18446744073709551616) (h2 : 9223372036854775808 ≤ m) : (lN m).toInt < 0 := by
  have c := BitVec.toInt_eq_toNat_cond (lN m).toBitVec
  rw [wb_tn h] at c
  show (lN m).toBitVec.toInt < 0
  rw [c]
  split <;> omega
theorem lN_w64 (n : Nat) : lN (n + 18446744073709551616) = lN n := by
  have h : (n + 18446744073709551616) % 2 ^ 64 = n % 2 ^ 64 := by omega
  rw [wb_mod (n + 18446744073709551616), h, ← wb_mod n]
/-- a difference of two words and a borrow -/
theorem sb_wd {a b k : Nat} (ha : a < 4294967296) (hb : b < 4294967296) (hk : k ≤ 1) : (0 ≤ lg_cmp (lN a - lN b - lN k) (lN 0) ↔ b + k ≤ a) ∧ (b + k ≤ a → (lN a - lN b - lN k) &&& lN 4294967295 = lN (a - b - k)) ∧ (a < b + k → (lN a - lN b - lN k) &&& lN 4294967295 = lN (a + 4294967296 - b - k)) := by
  by_cases c : b + k ≤ a
  · have e : lN a - lN b - lN k = lN (a - b - k) := by rw [lN_sub (by omega), lN_sub (by omega)]
    rw [e]
    refine ⟨⟨fun _ => c, fun _ => ?_⟩, fun _ => ?_, fun q => by omega⟩
    · rw [lg_cmp_ge]; exact (pk_lLE (by decide) (by omega)).mpr (Nat.zero_le _)
    · rw [wM (by omega)]; congr 1; omega
  · have e : lN a - lN b - lN k = lN (a + 18446744073709551616 - b - k) := by
      rw [← lN_w64 a, lN_sub (by omega), lN_sub (by omega)]
    rw [e]
    refine ⟨⟨fun q => ?_, fun q => by omega⟩, fun q => by omega, fun _ => ?_⟩
    · rw [lg_cmp_ge, Int64.le_iff_toInt_le] at q
      have h1 := lN_tib (m := a + 18446744073709551616 - b - k) (by omega) (by omega)
      have h2 : (lN 0).toInt = 0 := by decide +kernel
      omega
    · rw [wM (by omega)]; congr 1; omega
theorem sb_pick {da db dc k k2 : Nat} {d : Int64} {c9 : Nat} (he : da + 4294967296 * k2 = db + dc + k) (hc : dc < 4294967296) (ha : da < 4294967296) (hb : db < 4294967296) (hk : k ≤ 1) (hk2 : k2 ≤ 1) (t2 : db + k ≤ da → d &&& lN 4294967295 = lN (da - db - k)) (t3 : da < db + k → d &&& lN 4294967295 = lN (da + 4294967296 - db - k)) : d &&& lN 4294967295 = lN dc := by
  by_cases g : db + k ≤ da
  · exact (t2 g).trans (congrArg lN (by omega))
  · exact (t3 (by omega)).trans (congrArg lN (by omega))
theorem lg0 {n : Nat} (h : n < 18446744073709551616) : lg_cmp (lN n) (lN 0) = 0 ↔ n = 0 := by
  unfold lg_cmp
  by_cases c : n = 0
  · subst c
    exact ⟨fun _ => rfl, fun _ => by decide +kernel⟩
  · have hne : ¬ lN n = lN 0 := fun q => by
      have := congrArg (fun z => z.toBitVec.toNat) q
      simp only [wb_tn h, wb_tn (show 0 < 2 ^ 64 by decide)] at this
      exact c this
    refine ⟨fun q => ?_, fun q => absurd q c⟩
    rw [if_neg hne] at q
    split at q
    · exact absurd q (by decide +kernel)
    · exact absurd q (by decide +kernel)
theorem nI0 {n : Nat} (h : n < 4294967296) : nI n = 0 ↔ n = 0 := by
  constructor
  · intro q
    have := congrArg (fun z : Int32 => z.toBitVec.toNat) q
    simp only [pk_tn h] at this
    exact this
  · intro q; rw [q]; rfl
theorem rz_a {lo hi : Nat} (hl : lo < 18446744073709551616) (hh : hi < 4294967296) (h : ¬ lg_cmp (lN lo) (lN 0) = 0) : 0 = iz (lo + 18446744073709551616 * hi) := by
  have h2 : lo ≠ 0 := fun z => h ((lg0 hl).mpr z)
  have := iz_sp (lo + 18446744073709551616 * hi); omega
theorem rz_b {lo hi : Nat} (hl : lo < 18446744073709551616) (hh : hi < 4294967296) (h : ¬ nI hi = 0) : 0 = iz (lo + 18446744073709551616 * hi) := by
  have h2 : hi ≠ 0 := fun z => h ((nI0 hh).mpr z)
  have := iz_sp (lo + 18446744073709551616 * hi); omega
theorem rz_c {lo hi : Nat} (hl : lo < 18446744073709551616) (hh : hi < 4294967296) (h1 : lg_cmp (lN lo) (lN 0) = 0) (h2 : nI hi = 0) : 1 = iz (lo + 18446744073709551616 * hi) := by
  have e1 := (lg0 hl).mp h1
  have e2 := (nI0 hh).mp h2
  have := iz_sp (lo + 18446744073709551616 * hi); omega

