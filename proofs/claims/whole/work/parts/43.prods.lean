/-! products -/
theorem ma_e {B u q b j k : Nat} (hB : 0 < B) (hk : u / B ^ j + k = (u + q * (b % B ^ j)) / B ^ j) : (u + q * (b % B ^ (j + 1))) / B ^ j = (q * dg B b j + dg B u j + k) + B * (u / B ^ (j + 1)) := by
  have e1 : (u + q * (b % B ^ (j + 1))) / B ^ j = u / B ^ j + k + q * dg B b j := by
    rw [dg_mod, Nat.mul_add, ← Nat.add_assoc, Nat.mul_left_comm q, Nat.add_mul_div_left _ _ (pw_pos hB j), hk]
  have e2 := dg_split B u j
  omega
theorem ma_c {B u q b j k : Nat} (hB : 0 < B) (hk : u / B ^ j + k = (u + q * (b % B ^ j)) / B ^ j) : u / B ^ (j + 1) + (q * dg B b j + dg B u j + k) / B = (u + q * (b % B ^ (j + 1))) / B ^ (j + 1) := by
  rw [show (u + q * (b % B ^ (j + 1))) / B ^ (j + 1) = (u + q * (b % B ^ (j + 1))) / B ^ j / B by rw [Nat.div_div_eq_div_mul, ← Nat.pow_succ], ma_e hB hk, Nat.add_mul_div_left _ _ hB, Nat.add_comm]
theorem ma_d {B u q b j k : Nat} (hB : 0 < B) (hk : u / B ^ j + k = (u + q * (b % B ^ j)) / B ^ j) : (q * dg B b j + dg B u j + k) % B = dg B (u + q * b) j := by
  have h1 : q * b = q * (b % B ^ (j + 1)) + q * (B ^ (j + 1) * (b / B ^ (j + 1))) := by rw [← Nat.mul_add, Nat.mod_add_div]
  have h2 : q * (B ^ (j + 1) * (b / B ^ (j + 1))) = B ^ j * (B * (q * (b / B ^ (j + 1)))) := by
    rw [Nat.pow_succ, Nat.mul_assoc (B ^ j) B, Nat.mul_left_comm q (B ^ j), Nat.mul_left_comm q B]
  have e3 : u + q * b = (u + q * (b % B ^ (j + 1))) + B ^ j * (B * (q * (b / B ^ (j + 1)))) := by omega
  show _ = (u + q * b) / B ^ j % B
  rw [e3, Nat.add_mul_div_left _ _ (pw_pos hB j), ma_e hB hk, Nat.add_mul_mod_self_left, Nat.add_mul_mod_self_left]
theorem ma_T (B a b i : Nat) : a % B ^ (i + 1) * b = a % B ^ i * b + B ^ i * (dg B a i * b) := by rw [dg_mod, Nat.add_mul, Nat.mul_assoc]
theorem ma_lo {B X M i p : Nat} (hB : 0 < B) (h : p < i) : dg B (X + B ^ i * M) p = dg B X p := by
  obtain ⟨d, rfl⟩ : ∃ d, i = p + 1 + d := ⟨i - p - 1, by omega⟩
  show (X + B ^ (p + 1 + d) * M) / B ^ p % B = X / B ^ p % B
  rw [Nat.pow_add, Nat.pow_succ, Nat.mul_assoc, Nat.mul_assoc, Nat.add_mul_div_left _ _ (pw_pos hB p), Nat.add_mul_mod_self_left]
theorem ma_hi (B X i j : Nat) : dg B X (i + j) = dg B (X / B ^ i) j := by
  show X / B ^ (i + j) % B = X / B ^ i / B ^ j % B
  rw [Nat.div_div_eq_div_mul, ← Nat.pow_add]
theorem ma_TD {B : Nat} (hB : 0 < B) (a b i : Nat) : a % B ^ (i + 1) * b / B ^ i = a % B ^ i * b / B ^ i + dg B a i * b := by
  rw [ma_T, Nat.add_mul_div_left _ _ (pw_pos hB i)]
theorem ma_lt {B : Nat} (hB : 0 < B) {a b : Nat} (i : Nat) (hb : b < B ^ 3) : a % B ^ i * b < B ^ (i + 3) := by
  rw [Nat.pow_add]
  exact Nat.mul_lt_mul_of_le_of_lt (Nat.le_of_lt (Nat.mod_lt _ (pw_pos hB i))) hb (pw_pos hB i)
theorem ma_st {B a b i : Nat} (hB : 0 < B) {f : Nat → Int64} (hf : rL 6 f (dg B (a % B ^ i * b))) : rL 6 f (mx (dg B (a % B ^ (i + 1) * b)) (dg B (a % B ^ i * b)) (i + 0)) := rL_eq hf (fun p _ => by
  show dg B (a % B ^ i * b) p = mx _ _ i p
  by_cases h : p < i
  · rw [mx_lt h, ma_T, ma_lo hB h]
  · rw [mx_ge (Nat.le_of_not_lt h)])
theorem ma_dg {B a b i j k : Nat} (hB : 0 < B) (hk : a % B ^ i * b / B ^ i / B ^ j + k = (a % B ^ i * b / B ^ i + dg B a i * (b % B ^ j)) / B ^ j) : (dg B a i * dg B b j + dg B (a % B ^ i * b / B ^ i) j + k) % B = dg B (a % B ^ (i + 1) * b) (i + j) := by
  rw [ma_hi, ma_TD hB]; exact ma_d hB hk
theorem ma_end {B a b i k : Nat} (hB : 0 < B) {f : Nat → Int64} (hb : b < B ^ 3) (hk1 : k < B) (hk : a % B ^ i * b / B ^ i / B ^ 3 + k = (a % B ^ i * b / B ^ i + dg B a i * (b % B ^ 3)) / B ^ 3) (hf : rL 6 f (mx (dg B (a % B ^ (i + 1) * b)) (dg B (a % B ^ i * b)) (i + 3))) : rL 6 (vp_updL f (i + 3) (lN k)) (dg B (a % B ^ (i + 1) * b)) := by
  have hx := ma_lt hB (a := a) i hb
  have hy := ma_lt hB (a := a) (i + 1) hb
  have e : k = dg B (a % B ^ (i + 1) * b) (i + 3) := by
    rw [ma_hi, ma_TD hB]
    show k = (a % B ^ i * b / B ^ i + dg B a i * b) / B ^ 3 % B
    rw [Nat.mod_eq_of_lt hb, Nat.div_div_eq_div_mul, ← Nat.pow_add, Nat.div_eq_of_lt hx, Nat.zero_add] at hk
    rw [← hk, Nat.mod_eq_of_lt hk1]
  refine rL_eq (rL_up hf (congrArg lN e)) (fun p _ => ?_)
  by_cases h : p < i + 3 + 1
  · rw [mx_lt h]
  · rw [mx_ge (Nat.le_of_not_lt h), dg_top (Nat.lt_of_lt_of_le hx (Nat.pow_le_pow_right hB (by omega))), dg_top (Nat.lt_of_lt_of_le hy (Nat.pow_le_pow_right hB (by omega)))]
theorem ma_bd {q d u k : Nat} (h1 : q < 4294967296) (h2 : d < 4294967296) (h3 : u < 4294967296) (h4 : k < 4294967296) : q * d + u + k < 18446744073709551616 := by
  have := Nat.mul_le_mul (show q ≤ 4294967295 by omega) (show d ≤ 4294967295 by omega)
  omega
/-! reading -/
def cdI (L : List Nat) (j : Nat) : Int32 := if j < L.length then nI (L.getD j 0) else -1
theorem cdI_y {L : List Nat} {j : Nat} (h : j < L.length) : nI (L.getD j 0) = cdI L j := (if_pos h).symm
theorem cdI_n {L : List Nat} {j : Nat} (h : ¬ j < L.length) : -1 = cdI L j := (if_neg h).symm
theorem cdI_eq {L : List Nat} {j x : Nat} (hx : x < 128) (hc : ∀ y ∈ L, y < 128) : cdI L j = nI x ↔ j < L.length ∧ L.getD j 0 = x := by
  have hg := getD_lt (by decide) hc j
  unfold cdI
  by_cases h : j < L.length
  · rw [if_pos h]
    constructor
    · intro e; exact ⟨h, (nI_eq (by omega) (by omega)).mp e⟩
    · intro e; rw [e.2]
  · rw [if_neg h]
    constructor
    · intro e; exact absurd e (by revert x; decide +kernel)
    · intro e; exact absurd e.1 h
theorem prF_g0 : ∀ (L : List Nat) (n p b v : Nat), (prF L n p b 0 v).2.2.2.1 = 0
  | [], n, p, b, v => rfl
  | x :: L, n, p, b, v => by
    show (if _ then _ else _ : Nat × Nat × Nat × Nat × Nat).2.2.2.1 = 0
    split
    · exact prF_g0 L _ _ _ _
    · rw [show (if x = 46 then 0 else 0) = 0 by split <;> rfl]; exact prF_g0 L _ _ _ _
theorem prF_pp : ∀ (L : List Nat) (n p b g v : Nat), p ≤ (prF L n p b g v).2.1
  | [], n, p, b, g, v => Nat.le_refl _
  | x :: L, n, p, b, g, v => by
    show p ≤ (if _ then _ else _ : Nat × Nat × Nat × Nat × Nat).2.1
    split
    · exact prF_pp L _ _ _ _ _
    · exact Nat.le_trans (Nat.le_succ p) (prF_pp L _ _ _ _ _)
theorem prR_bad {L : List Nat} {k n p b v : Nat} (hk : k < L.length) (hp : p ≤ 1) (h : ¬ (48 ≤ L.getD k 0 ∧ L.getD k 0 ≤ 57)) (hpr : prA L = prF (L.drop k) n p b 1 v) (hb : L.getD k 0 ≠ 46 ∨ p ≠ 0) : prR L = none := by
  have e := hpr.trans (prF_o hk h)
  refine prR_n (n := (prA L).1) (p := (prA L).2.1) (b := (prA L).2.2.1) (g := (prA L).2.2.2.1) (v := (prA L).2.2.2.2) rfl (fun hn => ?_)
  by_cases c : L.getD k 0 = 46
  · have h1 := prF_pp (L.drop (k + 1)) n (p + 1) b (if L.getD k 0 = 46 then 1 else 0) v
    rw [← e] at h1
    omega
  · rw [if_neg c] at e
    have h1 := prF_g0 (L.drop (k + 1)) n (p + 1) b v
    rw [← e] at h1
    omega
def rdP (L : List Nat) (r : Int32) (sc : Nat) (f : Nat → Int64) : Prop := match prR L with
  | some (v, b) => r = nI 1 ∧ sc = b ∧ wR f v ∧ v < 10 ^ L.length ∧ b ≤ L.length
  | none => r = nI 0
theorem rdP_n {L : List Nat} {sc : Nat} {f : Nat → Int64} (h : prR L = none) : rdP L (nI 0) sc f := by unfold rdP; rw [h]
theorem rdP_y {L : List Nat} {v b : Nat} {f : Nat → Int64} (h : prR L = some (v, b)) (hf : wR f v) (hv : v < 10 ^ L.length) (hb : b ≤ L.length) : rdP L (nI 1) b f := by unfold rdP; rw [h]; exact ⟨rfl, rfl, hf, hv, hb⟩
theorem rdP_e {L : List Nat} {k n p b v ds : Nat} {f : Nat → Int64} (hk : k = L.length) (hp : p ≤ 1) (hds : (n = 0 ∧ ds = 0) ∨ (n ≠ 0 ∧ ds = 1)) (hpr : prA L = prF (L.drop k) n p b 1 v) (hf : wR f v) (hv : v < 10 ^ k) (hb : b ≤ k) : rdP L (nI ds) b f := by
  have e := hpr.trans (prF_e (by omega))
  rcases hds with ⟨h1, h2⟩ | ⟨h1, h2⟩
  · rw [h2]; exact rdP_n (prR_n e (by omega))
  · rw [h2]; rw [hk] at hv hb; exact rdP_y (prR_y e rfl hp h1) hf hv hb

