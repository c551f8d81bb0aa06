/-! digits of a number in base B, carries of a sum, of a product by a small factor, rests of a division by a small divisor -/
theorem pw_pos {B : Nat} (hB : 0 < B) (i : Nat) : 0 < B ^ i := Nat.pow_pos_iff.mpr (Or.inl hB)
def dg (B v i : Nat) : Nat := v / B ^ i % B
theorem dg_lt {B : Nat} (hB : 0 < B) (v i : Nat) : dg B v i < B := Nat.mod_lt _ hB
theorem dg_div (B v i : Nat) : v / B ^ (i + 1) = v / B ^ i / B := by
  rw [Nat.pow_succ, Nat.div_div_eq_div_mul]
theorem dg_split (B v i : Nat) : v / B ^ i = B * (v / B ^ (i + 1)) + dg B v i := by
  rw [dg_div]; exact (Nat.div_add_mod _ _).symm
theorem dg_mod (B v i : Nat) : v % B ^ (i + 1) = v % B ^ i + B ^ i * dg B v i := by
  unfold dg; exact Nat.mod_pow_succ
theorem dg_0 (B i : Nat) : dg B 0 i = 0 := by
  unfold dg; rw [Nat.zero_div, Nat.zero_mod]
theorem dv_0 (B v : Nat) : v / B ^ 0 = v := by rw [Nat.pow_zero, Nat.div_one]
theorem md_0 (B v : Nat) : v % B ^ 0 = 0 := by rw [Nat.pow_zero, Nat.mod_one]
theorem dv_top {B v n : Nat} (h : v < B ^ n) : v / B ^ n = 0 := Nat.div_eq_of_lt h
theorem dg_top {B v n : Nat} (h : v < B ^ n) : dg B v n = 0 := by
  unfold dg; rw [dv_top h, Nat.zero_mod]
theorem lt_of_dv {a b P : Nat} (h : a / P < b / P) : a < b := by
  refine Nat.lt_of_not_le fun hc => ?_
  have := Nat.div_le_div_right (c := P) hc
  omega
/-! sums -/
def cy (B a b i : Nat) : Nat := (a % B ^ i + b % B ^ i) / B ^ i
theorem cy_0 (B a b : Nat) : cy B a b 0 = 0 := by
  unfold cy; rw [md_0, md_0, Nat.pow_zero, Nat.div_one]
theorem cy_sum {B : Nat} (hB : 0 < B) (a b i : Nat) : (a + b) / B ^ i = a / B ^ i + b / B ^ i + cy B a b i := by
  have hp := pw_pos hB i
  have ha := Nat.div_add_mod a (B ^ i)
  have hb := Nat.div_add_mod b (B ^ i)
  have h : a + b = (a % B ^ i + b % B ^ i) + B ^ i * (a / B ^ i + b / B ^ i) := by rw [Nat.mul_add]; omega
  rw [h, Nat.add_mul_div_left _ _ hp]
  unfold cy; omega
theorem cy_succ {B : Nat} (hB : 0 < B) (a b i : Nat) : cy B a b (i + 1) = (dg B a i + dg B b i + cy B a b i) / B := by
  have hp := pw_pos hB i
  unfold cy
  rw [dg_mod B a, dg_mod B b, Nat.pow_succ, ← Nat.div_div_eq_div_mul]
  have h : a % B ^ i + B ^ i * dg B a i + (b % B ^ i + B ^ i * dg B b i) = (a % B ^ i + b % B ^ i) + B ^ i * (dg B a i + dg B b i) := by rw [Nat.mul_add]; omega
  rw [h, Nat.add_mul_div_left _ _ hp, Nat.add_comm]
theorem dg_add {B : Nat} (hB : 0 < B) (a b i : Nat) : dg B (a + b) i = (dg B a i + dg B b i + cy B a b i) % B := by
  have h1 := Nat.div_add_mod (a / B ^ i) B
  have h2 := Nat.div_add_mod (b / B ^ i) B
  have h : a / B ^ i + b / B ^ i + cy B a b i = (dg B a i + dg B b i + cy B a b i) + B * (a / B ^ i / B + b / B ^ i / B) := by unfold dg; rw [Nat.mul_add]; omega
  show (a + b) / B ^ i % B = _
  rw [cy_sum hB, h, Nat.add_mul_mod_self_left]
theorem cy_eq {B : Nat} (hB : 0 < B) (a b i : Nat) : dg B (a + b) i + B * cy B a b (i + 1) = dg B a i + dg B b i + cy B a b i := by
  rw [dg_add hB, cy_succ hB]; exact Nat.mod_add_div _ _
theorem cy_le {B : Nat} (hB : 0 < B) (a b i : Nat) : cy B a b i ≤ 1 := by
  have hp := pw_pos hB i
  have h1 := Nat.mod_lt a hp
  have h2 := Nat.mod_lt b hp
  have : cy B a b i < 2 := (Nat.div_lt_iff_lt_mul hp).mpr (by omega)
  omega
/-! a small factor and a digit -/
def ap (B q d v i : Nat) : Nat := (q * (v % B ^ i) + d) / B ^ i
theorem ap_0 (B q d v : Nat) : ap B q d v 0 = d := by
  unfold ap; rw [md_0, Nat.pow_zero, Nat.div_one]; omega
theorem ap_lt {B q d : Nat} (hB : 0 < B) (hd : d < q) (v i : Nat) : ap B q d v i < q := by
  have hp := pw_pos hB i
  have h1 := Nat.mod_lt v hp
  refine (Nat.div_lt_iff_lt_mul hp).mpr ?_
  have h2 : q * (v % B ^ i + 1) ≤ q * B ^ i := Nat.mul_le_mul_left q h1
  rw [Nat.mul_add] at h2
  omega
theorem ap_succ {B : Nat} (hB : 0 < B) (q d v i : Nat) : ap B q d v (i + 1) = (q * dg B v i + ap B q d v i) / B := by
  have hp := pw_pos hB i
  unfold ap
  rw [dg_mod B v, Nat.pow_succ, ← Nat.div_div_eq_div_mul]
  have h : q * (v % B ^ i + B ^ i * dg B v i) + d = (q * (v % B ^ i) + d) + B ^ i * (q * dg B v i) := by
    rw [Nat.mul_add, Nat.mul_left_comm q]; omega
  rw [h, Nat.add_mul_div_left _ _ hp, Nat.add_comm]
theorem ap_dg {B : Nat} (hB : 0 < B) (q d v i : Nat) : dg B (q * v + d) i = (q * dg B v i + ap B q d v i) % B := by
  have hp := pw_pos hB i
  have h0 := Nat.div_add_mod v (B ^ i)
  have h1 : q * v + d = (q * (v % B ^ i) + d) + B ^ i * (q * (v / B ^ i)) := by
    have : q * v = q * (B ^ i * (v / B ^ i)) + q * (v % B ^ i) := by rw [← Nat.mul_add, h0]
    rw [Nat.mul_left_comm q] at this; omega
  have h2 : (q * v + d) / B ^ i = q * (v / B ^ i) + ap B q d v i := by
    rw [h1, Nat.add_mul_div_left _ _ hp]; unfold ap; omega
  have h3 := Nat.div_add_mod (v / B ^ i) B
  have h4 : q * (v / B ^ i) + ap B q d v i = (q * dg B v i + ap B q d v i) + B * (q * (v / B ^ i / B)) := by
    have : q * (v / B ^ i) = q * (B * (v / B ^ i / B)) + q * (v / B ^ i % B) := by rw [← Nat.mul_add, h3]
    rw [Nat.mul_left_comm q] at this
    unfold dg; omega
  show (q * v + d) / B ^ i % B = _
  rw [h2, h4, Nat.add_mul_mod_self_left]
theorem ap_eq {B : Nat} (hB : 0 < B) (q d v i : Nat) : dg B (q * v + d) i + B * ap B q d v (i + 1) = q * dg B v i + ap B q d v i := by
  rw [ap_dg hB, ap_succ hB]; exact Nat.mod_add_div _ _
/-! a small divisor, from the top -/
theorem dd_eq {B q : Nat} (v i : Nat) : v / B ^ i = (v / B ^ (i + 1) % q * B + dg B v i) + q * (B * (v / B ^ (i + 1) / q)) := by
  have h1 := dg_split B v i
  have h2 := Nat.div_add_mod (v / B ^ (i + 1)) q
  have h3 : B * (v / B ^ (i + 1)) = B * (q * (v / B ^ (i + 1) / q)) + B * (v / B ^ (i + 1) % q) := by rw [← Nat.mul_add, h2]
  rw [Nat.mul_left_comm B] at h3
  rw [Nat.mul_comm (v / B ^ (i + 1) % q)]
  omega
theorem dd_rem {B q : Nat} (v i : Nat) : (v / B ^ (i + 1) % q * B + dg B v i) % q = v / B ^ i % q := by
  have h := dd_eq (B := B) (q := q) v i
  have h2 : v / B ^ i % q = ((v / B ^ (i + 1) % q * B + dg B v i) + q * (B * (v / B ^ (i + 1) / q))) % q := by rw [← h]
  rw [h2, Nat.add_mul_mod_self_left]
theorem dd_quo {B q : Nat} (hB : 0 < B) (hq : 0 < q) (v i : Nat) : (v / B ^ (i + 1) % q * B + dg B v i) / q = dg B (v / q) i := by
  have h := dd_eq (B := B) (q := q) v i
  have hr := Nat.mod_lt (v / B ^ (i + 1)) hq
  have hd := dg_lt hB v i
  have h1 : v / q / B ^ i = v / B ^ i / q := by rw [Nat.div_div_eq_div_mul, Nat.mul_comm, ← Nat.div_div_eq_div_mul]
  have h2 : v / B ^ i / q = (v / B ^ (i + 1) % q * B + dg B v i) / q + B * (v / B ^ (i + 1) / q) := by
    have h3 : v / B ^ i / q = ((v / B ^ (i + 1) % q * B + dg B v i) + q * (B * (v / B ^ (i + 1) / q))) / q := by rw [← h]
    rw [h3, Nat.add_mul_div_left _ _ hq]
  have h5 : (v / B ^ (i + 1) % q * B + dg B v i) / q < B := by
    refine (Nat.div_lt_iff_lt_mul hq).mpr ?_
    have h6 : (v / B ^ (i + 1) % q + 1) * B ≤ q * B := Nat.mul_le_mul_right B hr
    rw [Nat.add_mul] at h6
    rw [Nat.mul_comm B q]
    omega
  show _ = v / q / B ^ i % B
  rw [h1, h2, Nat.add_mul_mod_self_left, Nat.mod_eq_of_lt h5]
/-! a shift by n places -/
theorem dg_shl {B : Nat} (hB : 0 < B) (v n i : Nat) : dg B (v * B ^ n) i = if n ≤ i then dg B v (i - n) else 0 := by
  unfold dg
  by_cases h : n ≤ i
  · rw [if_pos h]
    obtain ⟨k, rfl⟩ := Nat.exists_eq_add_of_le h
    have h1 : v * B ^ n / B ^ (n + k) = v / B ^ k := by
      rw [Nat.pow_add, ← Nat.div_div_eq_div_mul, Nat.mul_div_cancel _ (pw_pos hB n)]
    rw [h1, Nat.add_sub_cancel_left]
  · rw [if_neg h]
    have h0 : ¬ n ≤ i := h
    obtain ⟨k, hk⟩ := Nat.exists_eq_add_of_le (Nat.le_of_lt (Nat.lt_of_not_le h0))
    have hk2 : ∃ j, k = j + 1 := ⟨k - 1, by omega⟩
    obtain ⟨j, rfl⟩ := hk2
    have h1 : v * B ^ n = v * B ^ j * B * B ^ i := by
      rw [hk, show i + (j + 1) = (j + 1) + i by omega, Nat.pow_add, Nat.pow_succ]
      simp only [Nat.mul_assoc]
    rw [h1, Nat.mul_div_cancel _ (pw_pos hB i), Nat.mul_mod_left]
/-! all digits are 0 -/
theorem md_zero {B : Nat} (hB : 0 < B) (v i : Nat) : v % B ^ (i + 1) = 0 ↔ v % B ^ i = 0 ∧ dg B v i = 0 := by
  rw [dg_mod]
  have hp := pw_pos hB i
  constructor
  · intro h
    obtain ⟨h0, h1⟩ := Nat.add_eq_zero_iff.mp h
    refine ⟨h0, ?_⟩
    rcases Nat.mul_eq_zero.mp h1 with h2 | h2
    · omega
    · exact h2
  · rintro ⟨h1, h2⟩
    rw [h1, h2, Nat.mul_zero]

/-! rounding: how a rest stands to half of the divisor; half to even; the greatest scale that fits -/
def lim : Nat := 79228162514264337593543950336
def cls (r d : Nat) : Nat := if r = 0 then 0 else if 2 * r < d then 1 else if 2 * r = d then 2 else 3
theorem cls_sp (r d : Nat) : (r = 0 ∧ cls r d = 0) ∨ (0 < r ∧ 2 * r < d ∧ cls r d = 1) ∨ (0 < r ∧ 2 * r = d ∧ cls r d = 2) ∨ (0 < r ∧ d < 2 * r ∧ cls r d = 3) := by
  unfold cls
  by_cases h1 : r = 0
  · rw [if_pos h1]; omega
  · rw [if_neg h1]
    by_cases h2 : 2 * r < d
    · rw [if_pos h2]; omega
    · rw [if_neg h2]
      by_cases h3 : 2 * r = d
      · rw [if_pos h3]; omega
      · rw [if_neg h3]; omega
def cutf (t c : Nat) : Nat := if 5 < t ∨ (t = 5 ∧ c ≠ 0) then 3 else if t = 5 then 2 else if 0 < t ∨ c ≠ 0 then 1 else 0
theorem cutf_sp (t c : Nat) : ((5 < t ∨ (t = 5 ∧ c ≠ 0)) ∧ cutf t c = 3) ∨ (t = 5 ∧ c = 0 ∧ cutf t c = 2) ∨ (t < 5 ∧ (0 < t ∨ c ≠ 0) ∧ cutf t c = 1) ∨ (t = 0 ∧ c = 0 ∧ cutf t c = 0) := by
  unfold cutf
  by_cases h1 : 5 < t ∨ (t = 5 ∧ c ≠ 0)
  · rw [if_pos h1]; omega
  · rw [if_neg h1]
    by_cases h2 : t = 5
    · rw [if_pos h2]; omega
    · rw [if_neg h2]
      by_cases h3 : 0 < t ∨ c ≠ 0
      · rw [if_pos h3]; omega
      · rw [if_neg h3]; omega
theorem cut_cls {den r r' t : Nat} (ht : t < 10) (h : 10 * r = den * t + r') (hr : r' < den) : cls r den = cutf t (cls r' den) := by
  have a := cls_sp r den
  have b := cls_sp r' den
  have c := cutf_sp t (cls r' den)
  have k : t = 0 ∨ t = 1 ∨ t = 2 ∨ t = 3 ∨ t = 4 ∨ t = 5 ∨ t = 6 ∨ t = 7 ∨ t = 8 ∨ t = 9 := by omega
  rcases k with rfl | rfl | rfl | rfl | rfl | rfl | rfl | rfl | rfl | rfl <;> omega
theorem cut_quo (n den : Nat) : 10 * n / den / 10 = n / den := by
  rw [Nat.div_div_eq_div_mul, Nat.mul_comm den 10, Nat.mul_div_mul_left _ _ (by decide)]
theorem cut_rem (n den : Nat) : 10 * (n % den) = den * (10 * n / den % 10) + 10 * n % den := by
  have h1 := Nat.div_add_mod n den
  have h2 := Nat.div_add_mod (10 * n) den
  have h3 := Nat.div_add_mod (10 * n / den) 10
  rw [cut_quo] at h3
  have h4 : den * (10 * n / den) = den * (10 * (n / den)) + den * (10 * n / den % 10) := by rw [← Nat.mul_add, h3]
  rw [Nat.mul_left_comm den 10] at h4
  omega
/-- one digit cut off: from scale s + 1 to scale s -/
theorem cutd_step {num den : Nat} (hd : 0 < den) (s : Nat) : num * 10 ^ (s + 1) / den / 10 = num * 10 ^ s / den ∧ cls (num * 10 ^ s % den) den = cutf (num * 10 ^ (s + 1) / den % 10) (cls (num * 10 ^ (s + 1) % den) den) := by
  have e : num * 10 ^ (s + 1) = 10 * (num * 10 ^ s) := by rw [Nat.pow_succ, ← Nat.mul_assoc, Nat.mul_comm]
  rw [e]
  exact ⟨cut_quo _ _, cut_cls (Nat.mod_lt _ (by decide)) (cut_rem _ _) (Nat.mod_lt _ hd)⟩
def aw0 (k q : Nat) : Prop := k = 3 ∨ (k = 2 ∧ q % 2 = 1)
theorem aw0_dec (k q : Nat) : aw0 k q ∨ ¬ aw0 k q := by unfold aw0; omega
def rne (n d : Nat) : Nat := n / d + (if cls (n % d) d = 3 ∨ (cls (n % d) d = 2 ∧ n / d % 2 = 1) then 1 else 0)
theorem rne_y {n d : Nat} (h : aw0 (cls (n % d) d) (n / d)) : rne n d = n / d + 1 := by
  have h9 : cls (n % d) d = 3 ∨ (cls (n % d) d = 2 ∧ n / d % 2 = 1) := h
  unfold rne; rw [if_pos h9]
theorem rne_n {n d : Nat} (h : ¬ aw0 (cls (n % d) d) (n / d)) : rne n d = n / d := by
  have h9 : ¬ (cls (n % d) d = 3 ∨ (cls (n % d) d = 2 ∧ n / d % 2 = 1)) := h
  unfold rne; rw [if_neg h9]; rfl
theorem rne_ge (n d : Nat) : n / d ≤ rne n d := Nat.le_add_right _ _
def plc (num den : Nat) : Nat → Option (Nat × Nat)
  | 0 => if rne (num * 10 ^ 0) den < lim then some (rne (num * 10 ^ 0) den, 0) else none
  | s + 1 => if rne (num * 10 ^ (s + 1)) den < lim then some (rne (num * 10 ^ (s + 1)) den, s + 1) else plc num den s
theorem plc_y {num den s : Nat} (h : rne (num * 10 ^ s) den < lim) : plc num den s = some (rne (num * 10 ^ s) den, s) := by
  cases s with
  | zero => unfold plc; rw [if_pos h]
  | succ s => unfold plc; rw [if_pos h]
theorem plc_n {num den s : Nat} (h : ¬ rne (num * 10 ^ (s + 1)) den < lim) : plc num den (s + 1) = plc num den s := by
  show (if _ then _ else _) = _
  rw [if_neg h]
theorem plc_0 {num den : Nat} (h : ¬ rne (num * 10 ^ 0) den < lim) : plc num den 0 = none := by
  show (if _ then _ else _) = _
  rw [if_neg h]
theorem plc_lt {num den : Nat} : ∀ {s q t : Nat}, plc num den s = some (q, t) → q < lim ∧ t ≤ s
  | 0, q, t, h => by
    by_cases c : rne (num * 10 ^ 0) den < lim
    · rw [plc_y c] at h; cases h; exact ⟨c, Nat.le_refl _⟩
    · rw [plc_0 c] at h; cases h
  | s + 1, q, t, h => by
    by_cases c : rne (num * 10 ^ (s + 1)) den < lim
    · rw [plc_y c] at h; cases h; exact ⟨c, Nat.le_refl _⟩
    · rw [plc_n c] at h
      have := plc_lt h
      exact ⟨this.1, Nat.le_succ_of_le this.2⟩
/-! the quotient: the least scale at which it is exact and fits, else placed from 28 on -/
theorem qs_mono {num den s t : Nat} (h : s ≤ t) : num * 10 ^ s / den ≤ num * 10 ^ t / den :=
  Nat.div_le_div_right (Nat.mul_le_mul_left _ (Nat.pow_le_pow_right (by decide) h))
def exs (num den : Nat) : Nat → Nat → Option Nat
  | _, 0 => none
  | s, n + 1 => if num * 10 ^ s % den = 0 ∧ num * 10 ^ s / den < lim then some s else exs num den (s + 1) n
theorem exs_none {num den : Nat} : ∀ (n s : Nat), (∀ r, s ≤ r → r < s + n → ¬ (num * 10 ^ r % den = 0 ∧ num * 10 ^ r / den < lim)) → exs num den s n = none
  | 0, _, _ => rfl
  | n + 1, s, h => by
    show (if _ then _ else _) = _
    rw [if_neg (h s (Nat.le_refl _) (by omega))]
    exact exs_none n (s + 1) (fun r h1 h2 => h r (by omega) (by omega))
theorem exs_some {num den t : Nat} (ht : num * 10 ^ t % den = 0 ∧ num * 10 ^ t / den < lim) : ∀ (n s : Nat), s ≤ t → t < s + n → (∀ r, s ≤ r → r < t → ¬ (num * 10 ^ r % den = 0 ∧ num * 10 ^ r / den < lim)) → exs num den s n = some t
  | 0, s, h1, h2, _ => by omega
  | n + 1, s, h1, h2, h => by
    show (if _ then _ else _) = _
    by_cases e : s = t
    · subst e; rw [if_pos ht]
    · rw [if_neg (h s (Nat.le_refl _) (by omega))]
      exact exs_some ht n (s + 1) (by omega) (by omega) (fun r h3 h4 => h r (by omega) h4)
def dvs (num den least : Nat) : Option (Nat × Nat) := match exs num den least (29 - least) with
  | some s => some (num * 10 ^ s / den, s)
  | none => plc num den 28
theorem plc_down {num den s : Nat} : ∀ (t : Nat), s ≤ t → (∀ r, s < r → r ≤ t → lim ≤ num * 10 ^ r / den) → plc num den t = plc num den s
  | 0, h, _ => by
    have : s = 0 := by omega
    rw [this]
  | t + 1, h, hl => by
    by_cases e : s = t + 1
    · rw [e]
    · have h1 : ¬ rne (num * 10 ^ (t + 1)) den < lim := fun q => by
        have h2 := hl (t + 1) (by omega) (Nat.le_refl _)
        have h3 := rne_ge (num * 10 ^ (t + 1)) den
        omega
      rw [plc_n h1]
      exact plc_down t (by omega) (fun r a b => hl r a (by omega))
theorem rne_exact {n d : Nat} (h : n % d = 0) : rne n d = n / d := by
  refine rne_n ?_
  rw [h]
  unfold aw0 cls
  simp
/-- the scale at which the digits stop being brought down gives the same placing -/
theorem dvs_stop {num den least s : Nat} (h0 : least ≤ s) (h1 : s ≤ 28) (hb : ∀ r, least ≤ r → r < s → ¬ num * 10 ^ r % den = 0 ∧ num * 10 ^ r / den < lim) (hs : s = 28 ∨ num * 10 ^ s % den = 0 ∨ lim ≤ num * 10 ^ s / den) : plc num den s = dvs num den least := by
  unfold dvs
  by_cases c : num * 10 ^ s % den = 0 ∧ num * 10 ^ s / den < lim
  · rw [exs_some c (29 - least) least h0 (by omega) (fun r a b q => (hb r a b).1 q.1)]
    have e : rne (num * 10 ^ s) den = num * 10 ^ s / den := rne_exact c.1
    rw [plc_y (by rw [e]; exact c.2), e]
  · have hn : exs num den least (29 - least) = none := exs_none _ _ (fun r a b q => by
      by_cases k : r < s
      · exact (hb r a k).1 q.1
      · rcases hs with e | e | e
        · have : r = s := by omega
          rw [this] at q; exact c q
        · by_cases k2 : lim ≤ num * 10 ^ s / den
          · have := qs_mono (num := num) (den := den) (s := s) (t := r) (by omega); omega
          · exact c ⟨e, by omega⟩
        · have := qs_mono (num := num) (den := den) (s := s) (t := r) (by omega); omega)
    rw [hn]
    show plc num den s = plc num den 28
    refine (plc_down 28 h1 (fun r a b => ?_)).symm
    rcases hs with e | e | e
    · omega
    · by_cases k2 : lim ≤ num * 10 ^ s / den
      · exact Nat.le_trans k2 (qs_mono (by omega))
      · exact absurd ⟨e, by omega⟩ c
    · exact Nat.le_trans e (qs_mono (by omega))

