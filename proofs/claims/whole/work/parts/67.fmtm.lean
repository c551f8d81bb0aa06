/-! the reference's format -/
theorem dn_lti {k b : Nat} (hk : k < 1000) (hb : b < 1000) : dn k < nI b ↔ k ≤ b := by
  cases k with
  | zero =>
    have h : (dn 0).toInt = -1 := by decide
    rw [Int32.lt_iff_toInt_lt, h, nI_toInt (by omega)]; omega
  | succ j =>
    show nI j < nI b ↔ _
    rw [nI_ltI (by omega) (by omega)]; omega
theorem dn_w {k b : Nat} (h : b ≤ k) : dn k - nI b + nI 1 = nI (k - b) := by
  rw [← dn_of, Int32.sub_eq_add_neg, Int32.sub_eq_add_neg, Int32.add_assoc, Int32.add_assoc, Int32.add_comm (-nI b) (nI 1), ← Int32.add_assoc (-nI 1), Int32.add_comm (-nI 1) (nI 1), ← Int32.sub_eq_add_neg (nI 1), Int32.sub_self, Int32.zero_add, ← Int32.sub_eq_add_neg]
  exact pk_sub h
theorem nd_c {v : Nat} (h : v < 10 ^ 100) : dgC v (ndg v) := ndF_c v 100 h
theorem nd_le {v b : Nat} (h : v < 10 ^ b) (hb : b ≤ 100) : ndg v ≤ b := by
  have hc := nd_c (Nat.lt_of_lt_of_le h (pw_le hb))
  rcases hc.2 with h0 | h1
  · omega
  · have := pw_inj h1 h; omega
theorem nd_eq {v j : Nat} (h : v < 10 ^ (j + 1)) (hj : j < 100) (hd : dg 10 v j ≠ 0) : j + 1 = ndg v :=
  ndg_of ⟨h, Or.inr (Nat.le_of_not_lt (fun z => hd (dg_top z)))⟩ (by omega)
theorem nd_s {v j : Nat} (h : v < 10 ^ (j + 1)) (hd : dg 10 v j = 0) : v < 10 ^ j := by
  have e := dg_split 10 v j
  rw [hd, dv_top h] at e
  exact (Nat.div_eq_zero_iff_lt (pw_pos (by decide) _)).mp (by omega)
theorem bh_j {v b j : Nat} (h : j < b) : bhL v b (b - (j + 1)) ++ [48 + dg 10 v j] = bhL v b (b - j) := by
  have h1 := bh_y (v := v) (s := b) (n := b - (j + 1)) (by omega)
  rw [show b - (b - (j + 1) + 1) = j by omega, show b - (j + 1) + 1 = b - j by omega] at h1
  exact h1
/-- the number that format writes, at the pattern's places -/
def fmQ (pe v s bk : Nat) : Nat := pcV pe v * 10 ^ bk / 10 ^ s + (if 10 ^ s ≤ pcV pe v * 10 ^ bk % 10 ^ s + pcV pe v * 10 ^ bk % 10 ^ s then 1 else 0)
theorem fmQ_y {pe v s bk : Nat} (h : 10 ^ s ≤ pcV pe v * 10 ^ bk % 10 ^ s + pcV pe v * 10 ^ bk % 10 ^ s) : pcV pe v * 10 ^ bk / 10 ^ s + 1 = fmQ pe v s bk := by
  unfold fmQ; rw [if_pos h]
theorem fmQ_n {pe v s bk : Nat} (h : pcV pe v * 10 ^ bk % 10 ^ s + pcV pe v * 10 ^ bk % 10 ^ s < 10 ^ s) : pcV pe v * 10 ^ bk / 10 ^ s = fmQ pe v s bk := by
  unfold fmQ; rw [if_neg (Nat.not_le.mpr h)]; rfl
theorem fm_b {pe v bk : Nat} (hv : v < lim) (hbk : bk ≤ 40) : pcV pe v * 10 ^ bk < 10 ^ 71 := by
  have hp := pcV_sp pe v
  have hl : 100 * lim < 10 ^ 31 := by decide +kernel
  have h1 : pcV pe v < 10 ^ 31 := by omega
  have h2 : (10 : Nat) ^ bk ≤ 10 ^ 40 := pw_le hbk
  have h3 : pcV pe v * 10 ^ bk ≤ pcV pe v * 10 ^ 40 := Nat.mul_le_mul_left _ h2
  have h4 : pcV pe v * 10 ^ 40 < 10 ^ 31 * 10 ^ 40 := Nat.mul_lt_mul_of_pos_right h1 (pw_pos (by decide) _)
  have h5 : (10 : Nat) ^ 31 * 10 ^ 40 = 10 ^ 71 := by decide +kernel
  omega
theorem fmQ_b {pe v s bk : Nat} (hv : v < lim) (hbk : bk ≤ 40) : fmQ pe v s bk < 10 ^ 72 := by
  have h := fm_b (pe := pe) hv hbk
  have h1 := Nat.div_le_self (pcV pe v * 10 ^ bk) (10 ^ s)
  have h2 : (10 : Nat) ^ 71 + 1 ≤ 10 ^ 72 := by decide +kernel
  unfold fmQ
  split <;> omega
theorem fm_rd {g pe v s bk : Nat} : fmQ pe v s bk = rdC 1 g (pcV pe v) s bk * 10 ^ (bk - rdS s bk) := by
  by_cases c : s ≤ bk
  · rw [(rd_0 c).1, (rd_0 (md := 1) (ng := g) (v := pcV pe v) c).2]
    have e : pcV pe v * 10 ^ bk = pcV pe v * 10 ^ (bk - s) * 10 ^ s := by rw [Nat.mul_assoc, ← Nat.pow_add, Nat.sub_add_cancel c]
    have hp := pw_pos (B := 10) (by decide) s
    unfold fmQ
    rw [e, Nat.mul_mod_left, Nat.mul_div_cancel _ hp, if_neg (by omega)]; rfl
  · have c := Nat.lt_of_not_le c
    rw [(rd_1 c).1, (rd_1 (md := 1) (ng := g) (v := pcV pe v) c).2, Nat.sub_self, Nat.pow_zero, Nat.mul_one]
    have e : (10 : Nat) ^ s = 10 ^ (s - bk) * 10 ^ bk := by rw [← Nat.pow_add, Nat.sub_add_cancel (Nat.le_of_lt c)]
    have hp := pw_pos (B := 10) (by decide) bk
    unfold fmQ
    rw [e, Nat.mul_div_mul_right _ _ hp, Nat.mul_mod_mul_right, ← Nat.add_mul]
    congr 1
    unfold awN
    have hiff : (10 ^ (s - bk) * 10 ^ bk ≤ (pcV pe v % 10 ^ (s - bk) + pcV pe v % 10 ^ (s - bk)) * 10 ^ bk) ↔ 10 ^ (s - bk) ≤ pcV pe v % 10 ^ (s - bk) + pcV pe v % 10 ^ (s - bk) := Nat.mul_le_mul_right_iff hp
    by_cases z : 10 ^ (s - bk) ≤ pcV pe v % 10 ^ (s - bk) + pcV pe v % 10 ^ (s - bk)
    · rw [if_pos (hiff.mpr z), if_pos (by omega)]
    · rw [if_neg (fun q => z (hiff.mp q)), if_neg (by omega)]
/-- zeros behind a number's last digit change nothing of its text -/
theorem tx_dg {v s b k : Nat} (h : s ≤ b) : dg 10 (v * 10 ^ (b - s)) (b + k) = dg 10 v (s + k) := by
  rw [dg_shl (by decide), if_pos (by omega), show b + k - (b - s) = s + k by omega]
theorem tx_bf {v s b gr : Nat} (h : s ≤ b) : ∀ k, bfT (v * 10 ^ (b - s)) b gr k = bfT v s gr k
  | 0 => rfl
  | k + 1 => by
    have ih := tx_bf (v := v) (gr := gr) h k
    by_cases c : gr ≠ 0 ∧ 0 < k ∧ k % 3 = 0
    · rw [bf_y c, bf_y c, ih, tx_dg h]
    · rw [bf_n c, bf_n c, ih, tx_dg h]
theorem tx_bx {v s b i : Nat} (h : s ≤ b) (hi : i ≤ b) : bhX (v * 10 ^ (b - s)) b i = bhX v s i := by
  rw [bhX_y hi, dg_shl (by decide)]
  by_cases c : i ≤ s
  · rw [if_pos (by omega), bhX_y c, show b - i - (b - s) = s - i by omega]
  · rw [if_neg (by omega), bhX_n (by omega)]
theorem tx_bh {v s b : Nat} (h : s ≤ b) : ∀ n, n ≤ b → bhL (v * 10 ^ (b - s)) b n = bhL v s n
  | 0, _ => rfl
  | n + 1, hn => by
    show bhL _ _ n ++ [48 + bhX _ _ (n + 1)] = bhL _ _ n ++ [48 + bhX _ _ (n + 1)]
    rw [tx_bh h n (by omega), tx_bx h hn]
theorem tx_pb {v s b lb : Nat} (h : s ≤ b) : ∀ n, n ≤ b → pbF (v * 10 ^ (b - s)) b lb n = pbF v s lb n
  | 0, _ => rfl
  | n + 1, hn => by
    show (if _ ∧ bhX _ _ (n + 1) = 0 then _ else _) = (if _ ∧ bhX _ _ (n + 1) = 0 then _ else _)
    rw [tx_bx h hn, tx_pb h n (by omega)]
theorem tx_nd {v s b : Nat} (h : s ≤ b) (hv : v < 10 ^ 31) (hb : b ≤ 40) : ndg (v * 10 ^ (b - s)) - b = ndg v - s := by
  by_cases z : v = 0
  · subst z
    rw [Nat.zero_mul]
    have := nd_le (v := 0) (b := 0) (by decide) (by decide)
    omega
  · have hn := nd_c (v := v) (Nat.lt_of_lt_of_le hv (pw_le (by decide)))
    have hn31 := nd_le hv (by decide)
    have hpos : 10 ^ (ndg v - 1) ≤ v := by
      rcases hn.2 with h0 | h1
      · have : v < 1 := by have := hn.1; rw [h0] at this; exact this
        omega
      · exact h1
    have h0 : ndg v ≠ 0 := fun e => by have := hn.1; rw [e] at this; rw [Nat.pow_zero] at this; omega
    have hp := pw_pos (B := 10) (by decide) (b - s)
    have e1 : v * 10 ^ (b - s) < 10 ^ (ndg v + (b - s)) := by rw [Nat.pow_add]; exact Nat.mul_lt_mul_of_pos_right hn.1 hp
    have e2 : 10 ^ (ndg v + (b - s) - 1) ≤ v * 10 ^ (b - s) := by
      rw [show ndg v + (b - s) - 1 = (ndg v - 1) + (b - s) by omega, Nat.pow_add]
      exact Nat.mul_le_mul_right _ hpos
    have e3 := ndg_of (v := v * 10 ^ (b - s)) (n := ndg v + (b - s)) ⟨e1, Or.inr e2⟩ (by omega)
    omega
theorem tx_sg {g v k : Nat} : sgn g (v * 10 ^ k) = sgn g v := by
  have h1 := sgn_sp g (v * 10 ^ k)
  have h2 := sgn_sp g v
  have h3 : v * 10 ^ k = 0 ↔ v = 0 := ⟨mul0, fun e => by rw [e, Nat.zero_mul]⟩
  omega
theorem tx_link {g v s gr fd b kp pe : Nat} (h : s ≤ b) (hv : v < 10 ^ 31) (hb : b ≤ 40) : txT g (v * 10 ^ (b - s)) b gr fd b kp pe = txT g v s gr fd b kp pe := by
  unfold txT
  rw [tx_sg, tx_nd h hv hb, tx_bf h, tx_pb h b (Nat.le_refl _), tx_bh h _ (pb_le _ _ _ _)]
theorem rdS_le (s d : Nat) : rdS s d ≤ d := by unfold rdS; split <;> omega
/-- the desk's text by a pattern is the reference's -/
theorem tx_same {g pe v s gr fd bk kp : Nat} (hv : v < lim) (hbk : bk ≤ 40) : txT g (fmQ pe v s bk) bk gr fd bk kp pe = txT g (rdC 1 g (pcV pe v) s bk) (rdS s bk) gr fd bk kp pe := by
  have hp := pcV_sp pe v
  rw [fm_rd (g := g)]
  exact tx_link (rdS_le s bk) (rd_31 (by omega)) hbk
theorem tx_fin {L9 : List Nat} {g v s gr fd bk kp pe : Nat} (h : L9 = ((sgL (sgn g v) ++ bfT v s gr (max (ndg v - s) fd)) ++ ptL (pbF v s kp bk)) ++ bhL v s (pbF v s kp bk)) : (pe = 0 → L9 = txT g v s gr fd bk kp pe) ∧ (pe ≠ 0 → L9 ++ [37] = txT g v s gr fd bk kp pe) := by
  refine ⟨fun z => ?_, fun z => ?_⟩
  · unfold txT; rw [pcL_0 z, List.append_nil]; exact h
  · unfold txT; rw [pcL_1 z, ← h]

