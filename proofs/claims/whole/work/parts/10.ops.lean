/-! the operations, over natural numbers -/
theorem exs_y {num den s : Nat} (hs : s ≤ 28) (h : num * 10 ^ s % den = 0 ∧ num * 10 ^ s / den < lim) : exs num den s (29 - s) = some s := by
  rw [show 29 - s = (28 - s) + 1 by omega]
  show (if _ then _ else _) = _
  rw [if_pos h]
theorem exs_n {num den s : Nat} (hs : s ≤ 28) (h : ¬ (num * 10 ^ s % den = 0 ∧ num * 10 ^ s / den < lim)) : exs num den s (29 - s) = exs num den (s + 1) (29 - (s + 1)) := by
  rw [show 29 - s = (28 - s) + 1 by omega, show 29 - (s + 1) = 28 - s by omega]
  show (if _ then _ else _) = _
  rw [if_neg h]
def exP (num den least : Nat) (r pl : Int32) (fq : Nat → Int32) : Prop := match exs num den least (29 - least) with
  | some s => r = nI 1 ∧ pl = nI s ∧ dR fq (num * 10 ^ s / den)
  | none => r = nI 0
theorem exP_y {num den least s : Nat} {pl : Int32} {fq : Nat → Int32} (h : exs num den least (29 - least) = exs num den s (29 - s)) (hs : s ≤ 28) (hc : num * 10 ^ s % den = 0 ∧ num * 10 ^ s / den < lim) (hp : pl = nI s) (hq : dR fq (num * 10 ^ s / den)) : exP num den least (nI 1) pl fq := by
  unfold exP
  rw [h, exs_y hs hc]
  exact ⟨rfl, hp, hq⟩
theorem exP_n {num den least s : Nat} {pl : Int32} {fq : Nat → Int32} (h : exs num den least (29 - least) = exs num den s (29 - s)) (hs : s = 29) : exP num den least (nI 0) pl fq := by
  unfold exP
  rw [h, hs]
  rfl
def neq (a b : Nat) : Nat := if a = b then 0 else 1
theorem neq_y {a b : Nat} (h : a = b) : neq a b = 0 := if_pos h
theorem neq_n {a b : Nat} (h : a ≠ b) : neq a b = 1 := if_neg h
theorem neq_le (a b : Nat) : neq a b ≤ 1 := by unfold neq; split <;> omega
def jnV (s1 s2 X Y : Nat) : Nat := if s1 = s2 then X + Y else if Y ≤ X then X - Y else Y - X
def jnS (s1 s2 X Y : Nat) : Nat := if s1 = s2 then s1 else if Y ≤ X then s1 else s2
theorem jn_0 {s1 s2 X Y : Nat} (h : s1 = s2) : jnV s1 s2 X Y = X + Y ∧ jnS s1 s2 X Y = s1 := by unfold jnV jnS; rw [if_pos h, if_pos h]; exact ⟨rfl, rfl⟩
theorem jn_1 {s1 s2 X Y : Nat} (h : s1 ≠ s2) (g : Y ≤ X) : jnV s1 s2 X Y = X - Y ∧ jnS s1 s2 X Y = s1 := by unfold jnV jnS; rw [if_neg h, if_neg h, if_pos g, if_pos g]; exact ⟨rfl, rfl⟩
theorem jn_2 {s1 s2 X Y : Nat} (h : s1 ≠ s2) (g : X < Y) : jnV s1 s2 X Y = Y - X ∧ jnS s1 s2 X Y = s2 := by unfold jnV jnS; rw [if_neg h, if_neg h, if_neg (by omega), if_neg (by omega)]; exact ⟨rfl, rfl⟩
theorem jnV_le (s1 s2 X Y : Nat) : jnV s1 s2 X Y ≤ X + Y := by unfold jnV; split; · omega
                                                               · split <;> omega
theorem jnS_le {s1 s2 X Y : Nat} (h1 : s1 ≤ 1) (h2 : s2 ≤ 1) : jnS s1 s2 X Y ≤ 1 := by unfold jnS; split; · omega
                                                                                       · split <;> omega
theorem bnd58 {v k : Nat} (hc : v < 10 ^ 30) (hk : k ≤ 28) : v * 10 ^ k < 10 ^ 58 := by
  have h1 : v * 10 ^ k ≤ v * 10 ^ 28 := mul_pw hk
  have h2 : v * 10 ^ 28 < 10 ^ 30 * 10 ^ 28 := Nat.mul_lt_mul_of_pos_right hc (by decide)
  have h3 : (10 : Nat) ^ 30 * 10 ^ 28 = 10 ^ 58 := by decide +kernel
  omega
theorem pw_le {k n : Nat} (hk : k ≤ n) : (10 : Nat) ^ k ≤ 10 ^ n := Nat.pow_le_pow_right (by decide) hk
/-- the result of an operation: coefficient, scale, sign; none where there is none -/
def opR (op ca sa na cb sb nb : Nat) : Option (Nat × Nat × Nat) :=
  if op < 2 then (plc (jnV na (neq nb op) (ca * 10 ^ (max sa sb - sa)) (cb * 10 ^ (max sa sb - sb))) (10 ^ max sa sb) (max sa sb)).map (fun z => (z.1, z.2, jnS na (neq nb op) (ca * 10 ^ (max sa sb - sa)) (cb * 10 ^ (max sa sb - sb))))
  else if op = 2 then (plc (ca * cb) (10 ^ (sa + sb)) (min (sa + sb) 28)).map (fun z => (z.1, z.2, neq na nb))
  else if cb = 0 then none
  else if op = 3 then (dvs (ca * 10 ^ sb) (cb * 10 ^ sa) (sa - sb)).map (fun z => (z.1, z.2, neq na nb))
  else some (ca * 10 ^ (max sa sb - sa) % (cb * 10 ^ (max sa sb - sb)), max sa sb, na)
def rsP (o : Option (Nat × Nat × Nat)) (r pl : Int32) (fq : Nat → Int32) : Prop := match o with
  | some (q, s, g) => r = nI (2 * g) ∧ pl = nI s ∧ dR fq q
  | none => r = nI 1
theorem plP_yes {num den p : Nat} {r pl : Int32} {fq : Nat → Int32} (h : plP num den p r pl fq) (hr : ¬ r = 0) : ∃ q s, plc num den (min p 28) = some (q, s) ∧ pl = nI s ∧ dR fq q := by
  unfold plP at h
  cases hc : plc num den (min p 28) with
  | none => rw [hc] at h; exact absurd (h.trans nI_0) hr
  | some z => rw [hc] at h; exact ⟨z.1, z.2, rfl, h.2.1, h.2.2⟩
theorem plP_no {num den p : Nat} {r pl : Int32} {fq : Nat → Int32} (h : plP num den p r pl fq) (hr : r = 0) : plc num den (min p 28) = none := by
  unfold plP at h
  cases hc : plc num den (min p 28) with
  | none => rfl
  | some z =>
    rw [hc] at h
    have h1 := h.1.symm.trans hr
    exact absurd h1 (by decide +kernel)
theorem exP_yes {num den p : Nat} {r pl : Int32} {fq : Nat → Int32} (h : exP num den p r pl fq) (hr : ¬ r = 0) : ∃ s, exs num den p (29 - p) = some s ∧ pl = nI s ∧ dR fq (num * 10 ^ s / den) := by
  unfold exP at h
  cases hc : exs num den p (29 - p) with
  | none => rw [hc] at h; exact absurd (h.trans nI_0) hr
  | some z => rw [hc] at h; exact ⟨z, rfl, h.2.1, h.2.2⟩
theorem exP_no {num den p : Nat} {r pl : Int32} {fq : Nat → Int32} (h : exP num den p r pl fq) (hr : r = 0) : exs num den p (29 - p) = none := by
  unfold exP at h
  cases hc : exs num den p (29 - p) with
  | none => rfl
  | some z =>
    rw [hc] at h
    have h1 := h.1.symm.trans hr
    exact absurd h1 (by decide +kernel)
theorem rsP_y {o : Option (Nat × Nat × Nat)} {q s g k : Nat} {pl : Int32} {fq : Nat → Int32} (h : o = some (q, s, g)) (hk : k = 2 * g) (hp : pl = nI s) (hq : dR fq q) : rsP o (nI k) pl fq := by
  rw [h, hk]; exact ⟨rfl, hp, hq⟩
theorem rsP_n {o : Option (Nat × Nat × Nat)} {pl : Int32} {fq : Nat → Int32} (h : o = none) : rsP o (nI 1) pl fq := by
  rw [h]; rfl
theorem opR_01 {op ca sa na cb sb nb : Nat} (h : op < 2) : opR op ca sa na cb sb nb = (plc (jnV na (neq nb op) (ca * 10 ^ (max sa sb - sa)) (cb * 10 ^ (max sa sb - sb))) (10 ^ max sa sb) (max sa sb)).map (fun z => (z.1, z.2, jnS na (neq nb op) (ca * 10 ^ (max sa sb - sa)) (cb * 10 ^ (max sa sb - sb)))) := by
  unfold opR; rw [if_pos h]
theorem opR_2 {ca sa na cb sb nb : Nat} : opR 2 ca sa na cb sb nb = (plc (ca * cb) (10 ^ (sa + sb)) (min (sa + sb) 28)).map (fun z => (z.1, z.2, neq na nb)) := rfl
theorem opR_z {op ca sa na cb sb nb : Nat} (h : 2 < op) (hb : cb = 0) : opR op ca sa na cb sb nb = none := by
  unfold opR; rw [if_neg (by omega), if_neg (by omega), if_pos hb]
theorem opR_3 {ca sa na cb sb nb : Nat} (hb : cb ≠ 0) : opR 3 ca sa na cb sb nb = (dvs (ca * 10 ^ sb) (cb * 10 ^ sa) (sa - sb)).map (fun z => (z.1, z.2, neq na nb)) := by
  unfold opR; rw [if_neg (by omega), if_neg (by omega), if_neg hb, if_pos rfl]
theorem opR_4 {ca sa na cb sb nb : Nat} (hb : cb ≠ 0) : opR 4 ca sa na cb sb nb = some (ca * 10 ^ (max sa sb - sa) % (cb * 10 ^ (max sa sb - sb)), max sa sb, na) := by
  unfold opR; rw [if_neg (by omega), if_neg (by omega), if_neg hb, if_neg (by omega)]
theorem dvs_y {num den least s : Nat} (h : exs num den least (29 - least) = some s) : dvs num den least = some (num * 10 ^ s / den, s) := by
  unfold dvs; rw [h]
theorem dvs_n {num den least : Nat} (h : exs num den least (29 - least) = none) : dvs num den least = plc num den 28 := by
  unfold dvs; rw [h]
theorem mul_dig (a b j : Nat) : a * (b / 10 ^ (j + 1)) * 10 ^ 1 + dg 10 b j * a = a * (b / 10 ^ j) := by
  rw [dg_split 10 b j, Nat.mul_add, Nat.pow_one, Nat.mul_left_comm a 10, Nat.mul_comm 10, Nat.mul_comm (dg 10 b j)]

