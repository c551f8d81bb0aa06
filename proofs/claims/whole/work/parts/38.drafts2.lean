theorem cls_mul {k r d : Nat} (hk : 0 < k) : cls (k * r) (k * d) = cls r d := by
  have a := cls_sp (k * r) (k * d)
  have b := cls_sp r d
  have h0 : k * r = 0 ↔ r = 0 := by
    constructor
    · intro h; rcases Nat.mul_eq_zero.mp h with h | h <;> omega
    · intro h; rw [h, Nat.mul_zero]
  have h1 : 2 * (k * r) < k * d ↔ 2 * r < d := by
    rw [Nat.mul_left_comm 2 k r]; exact Nat.mul_lt_mul_left hk
  have h2 : 2 * (k * r) = k * d ↔ 2 * r = d := by
    rw [Nat.mul_left_comm 2 k r]; exact Nat.mul_left_cancel_iff hk
  have h3 : 0 < k * r ↔ 0 < r := by
    constructor
    · intro h; exact Nat.pos_of_ne_zero (fun z => by rw [z, Nat.mul_zero] at h; omega)
    · intro h; exact Nat.mul_pos hk h
  have h4 : k * d < 2 * (k * r) ↔ d < 2 * r := by
    rw [Nat.mul_left_comm 2 k r]; exact Nat.mul_lt_mul_left hk
  rw [h0, h1, h2, h3, h4] at a
  omega
theorem sh_div (v k : Nat) : v / 10 ^ k / 10 = v / 10 ^ (k + 1) := by rw [Nat.pow_succ, Nat.div_div_eq_div_mul]
theorem sh_cls (v k : Nat) : cutf (v / 10 ^ k % 10) (cls (v % 10 ^ k) (10 ^ k)) = cls (v % 10 ^ (k + 1)) (10 ^ (k + 1)) := by
  have hp := pw_pos (B := 10) (by decide) k
  have hm := Nat.mod_lt v hp
  have e := dg_mod 10 v k
  have h := cut_cls (den := 10 ^ (k + 1)) (r := v % 10 ^ (k + 1)) (r' := 10 * (v % 10 ^ k)) (t := v / 10 ^ k % 10) (Nat.mod_lt _ (by decide)) (by
    rw [e, Nat.pow_succ]
    show 10 * (v % 10 ^ k + 10 ^ k * (v / 10 ^ k % 10)) = _
    rw [Nat.mul_add, Nat.mul_comm (10 ^ k) 10, Nat.mul_assoc, Nat.add_comm]) (by rw [Nat.pow_succ]; omega)
  rw [h, show (10 : Nat) ^ (k + 1) = 10 * 10 ^ k by rw [Nat.pow_succ, Nat.mul_comm], cls_mul (by decide)]
/-- what a mode asks of the cut, and of the rest -/
theorem gw_aw (md ng : Nat) {r P q : Nat} (hP : 0 < P) : gwN md ng (cls r P) q = awN md ng r P q := by
  have c := cls_sp r P
  unfold gwN awN
  congr 1
  apply propext
  constructor <;> intro h <;> omega
theorem rne_fi (ng : Nat) {n d v ct : Nat} (hv : v = n / d) (hc : ct = cls (n % d) d) : v + gwN 0 ng ct v = rne n d := by
  rw [hv, hc]; exact gwN_rne ng
theorem sh_end {v v0 ct s9 t n9 md g9 : Nat} (hv0 : v = v0 / 10 ^ (s9 - t)) (hc0 : ct = cls (v0 % 10 ^ (s9 - t)) (10 ^ (s9 - t))) (h1 : t ≤ s9) (h2 : t = s9 ∨ n9 ≤ t) (h3 : t ≤ n9) : t = rdS s9 n9 ∧ v + gwN md g9 ct v = rdC md g9 v0 s9 n9 := by
  by_cases c : s9 ≤ n9
  · have e : t = s9 := by omega
    subst e
    obtain ⟨e1, e2⟩ := rd_0 (md := md) (ng := g9) (v := v0) c
    rw [e1, e2]
    rw [Nat.sub_self, Nat.pow_zero, Nat.div_one] at hv0
    rw [Nat.sub_self, Nat.pow_zero, Nat.mod_one] at hc0
    refine ⟨rfl, ?_⟩
    have hc : ct = 0 := hc0
    rw [hc, ← gwN_n (by omega)]
    omega
  · have e : t = n9 := by omega
    subst e
    obtain ⟨e1, e2⟩ := rd_1 (md := md) (ng := g9) (v := v0) (Nat.lt_of_not_le c)
    rw [e1, e2, hc0, gw_aw md g9 (pw_pos (by decide) _), hv0]
    exact ⟨rfl, rfl⟩
theorem pl_step {num den j ct v : Nat} (hgo : 28 < j + 1 ∨ (j + 1 ≤ 28 ∧ fiN ct v = 0)) (hr : fiN ct v = 0 → ¬ rne (num * 10 ^ (j + 1)) den < lim) : plc num den (min (j + 1) 28) = plc num den (min j 28) := by
  rcases hgo with h | ⟨h, h5⟩
  · rw [show min (j + 1) 28 = min j 28 by omega]
  · rw [show min (j + 1) 28 = j + 1 by omega, show min j 28 = j by omega]
    exact plc_n (hr h5)

