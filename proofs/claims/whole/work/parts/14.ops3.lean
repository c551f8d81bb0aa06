theorem cpP_n {o : Option (Nat × Nat × Nat)} {to : Nat} {C Sc Bl : Nat → Nat} {fg fs fb : Nat → Int32} (ho : o = none) (h : mSt fg fs fb C Sc Bl) : cpP o to C Sc Bl (nI 2) fg fs fb := by
  rw [ho]; exact ⟨rfl, h⟩
theorem cpP_y {o : Option (Nat × Nat × Nat)} {to q s g ng : Nat} {C Sc Bl : Nat → Nat} {fg fs fb : Nat → Int32} (ho : o = some (q, s, g)) (hg : g = ng) (h1 : mD fg (upN C to q)) (h2 : rI 6 fs (upN Sc to s)) (h3 : rI 6 fb (upN Bl to (sgn ng q))) : cpP o to C Sc Bl (nI 0) fg fs fb := by
  subst hg; rw [ho]; exact ⟨rfl, h1, h2, h3⟩
theorem cpP_cases {o : Option (Nat × Nat × Nat)} {to : Nat} {C Sc Bl : Nat → Nat} {th : Int32} {fg fs fb : Nat → Int32} (h : cpP o to C Sc Bl th fg fs fb) : (o = none ∧ th = nI 2 ∧ mSt fg fs fb C Sc Bl) ∨ (∃ q s g, o = some (q, s, g) ∧ th = nI 0 ∧ mSt fg fs fb (upN C to q) (upN Sc to s) (upN Bl to (sgn g q))) := by
  cases o with
  | none => exact Or.inl ⟨rfl, h.1, h.2⟩
  | some z => exact Or.inr ⟨z.1, z.2.1, z.2.2, rfl, h.1, h.2⟩
/-- what attempt leaves and answers -/
def atP (o : Option (Nat × Nat × Nat)) (to : Nat) (C Sc Bl : Nat → Nat) (r : Int32) (fg fs fb : Nat → Int32) : Prop := match o with
  | some (q, s, g) => r = nI 1 ∧ mSt fg fs fb (upN C to q) (upN Sc to s) (upN Bl to (sgn g q))
  | none => r = nI 0 ∧ mSt fg fs fb C Sc Bl
theorem atP_n {o : Option (Nat × Nat × Nat)} {to : Nat} {C Sc Bl : Nat → Nat} {fg fs fb : Nat → Int32} (ho : o = none) (h : mSt fg fs fb C Sc Bl) : atP o to C Sc Bl (nI 0) fg fs fb := by
  rw [ho]; exact ⟨rfl, h⟩
theorem atP_y {o : Option (Nat × Nat × Nat)} {to q s g : Nat} {C Sc Bl : Nat → Nat} {fg fs fb : Nat → Int32} (ho : o = some (q, s, g)) (h : mSt fg fs fb (upN C to q) (upN Sc to s) (upN Bl to (sgn g q))) : atP o to C Sc Bl (nI 1) fg fs fb := by
  rw [ho]; exact ⟨rfl, h⟩
/-! rounding to so many digits, in five modes -/
def awN (md ng r P q : Nat) : Nat := if (md = 0 ∧ (P < r + r ∨ (r + r = P ∧ q % 2 = 1))) ∨ (md = 1 ∧ P ≤ r + r) ∨ (md = 3 ∧ ng = 1 ∧ r ≠ 0) ∨ (md = 4 ∧ ng = 0 ∧ r ≠ 0) then 1 else 0
theorem awN_y {md ng r P q : Nat} (h : (md = 0 ∧ (P < r + r ∨ (r + r = P ∧ q % 2 = 1))) ∨ (md = 1 ∧ P ≤ r + r) ∨ (md = 3 ∧ ng = 1 ∧ r ≠ 0) ∨ (md = 4 ∧ ng = 0 ∧ r ≠ 0)) : 1 = awN md ng r P q := by unfold awN; rw [if_pos h]
theorem awN_n {md ng r P q : Nat} (h : ¬ ((md = 0 ∧ (P < r + r ∨ (r + r = P ∧ q % 2 = 1))) ∨ (md = 1 ∧ P ≤ r + r) ∨ (md = 3 ∧ ng = 1 ∧ r ≠ 0) ∨ (md = 4 ∧ ng = 0 ∧ r ≠ 0))) : 0 = awN md ng r P q := by unfold awN; rw [if_neg h]
def rdC (md ng v s d : Nat) : Nat := if s ≤ d then v else v / 10 ^ (s - d) + awN md ng (v % 10 ^ (s - d)) (10 ^ (s - d)) (v / 10 ^ (s - d))
def rdS (s d : Nat) : Nat := if s ≤ d then s else d
theorem rd_0 {md ng v s d : Nat} (h : s ≤ d) : rdC md ng v s d = v ∧ rdS s d = s := by unfold rdC rdS; rw [if_pos h, if_pos h]; exact ⟨rfl, rfl⟩
theorem rd_1 {md ng v s d : Nat} (h : d < s) : rdC md ng v s d = v / 10 ^ (s - d) + awN md ng (v % 10 ^ (s - d)) (10 ^ (s - d)) (v / 10 ^ (s - d)) ∧ rdS s d = d := by unfold rdC rdS; rw [if_neg (by omega), if_neg (by omega)]; exact ⟨rfl, rfl⟩
theorem rd_lt {v k : Nat} (hk : 0 < k) (hv : v < lim) : v / 10 ^ k + 1 < lim := by
  have h1 : (10 : Nat) ^ 1 ≤ 10 ^ k := pw_le hk
  have h2 : v / 10 ^ k ≤ v / 10 ^ 1 := Nat.div_le_div_left h1 (by decide)
  have h3 : v / 10 ^ 1 < lim / 10 + 1 := by
    have : v / 10 ^ 1 ≤ lim / 10 ^ 1 := Nat.div_le_div_right (Nat.le_of_lt hv)
    omega
  have h4 : lim / 10 + 2 < lim := by decide +kernel
  omega
/-! trailing zeros -/
def trm : Nat → Nat → Nat × Nat
  | v, 0 => (v, 0)
  | v, s + 1 => if v % 10 = 0 then trm (v / 10) s else (v, s + 1)
theorem trm_s {v s : Nat} (h0 : 0 < s) (h : v % 10 = 0) : trm v s = trm (v / 10) (s - 1) := by
  cases s with
  | zero => omega
  | succ s => show (if _ then _ else _) = _; rw [if_pos h]; rfl
theorem trm_e {v s : Nat} (h : s = 0 ∨ v % 10 ≠ 0) : trm v s = (v, s) := by
  cases s with
  | zero => rfl
  | succ s => show (if _ then _ else _) = _; rw [if_neg (by omega)]
theorem dg_0v (v : Nat) : dg 10 v 0 = v % 10 := by unfold dg; rw [Nat.pow_zero, Nat.div_one]
theorem dg_up (v j : Nat) : dg 10 v (j + 1) = dg 10 (v / 10) j := by
  unfold dg; rw [Nat.pow_succ, Nat.mul_comm, ← Nat.div_div_eq_div_mul]
theorem tr_end {f : Nat → Int32} {v : Nat} (hv : v < 10 ^ 30) (h : rI 100 f (mx (dg 10 (v / 10)) (dg 10 v) 99)) : dR (upd f 99 (nI 0)) (v / 10) := fun j hj => by
  by_cases e : j = 99
  · subst e
    rw [pk_us, ← dg_up, dg_big hv (by omega)]
  · rw [pk_un e, rI_lt h hj (by omega)]
/-! comparing -/
def cmpR (V S : Nat) : Int32 := if V = 0 then nI 0 else if S = 0 then nI 1 else -1
theorem cmp_0 {V S : Nat} (h : V = 0) : nI 0 = cmpR V S := by unfold cmpR; rw [if_pos h]
theorem cmp_1 {V S : Nat} (h : V ≠ 0) (g : S = 0) : nI 1 = cmpR V S := by unfold cmpR; rw [if_neg h, if_pos g]
theorem cmp_2 {V S : Nat} (h : V ≠ 0) (g : S ≠ 0) : -1 = cmpR V S := by unfold cmpR; rw [if_neg h, if_neg g]

