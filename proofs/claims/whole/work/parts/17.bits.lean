/-! bits of a number against its digits -/
theorem bt_split (v j : Nat) : 2 * (v / 2 ^ (j + 1)) + v / 2 ^ j % 2 = v / 2 ^ j := by
  rw [Nat.pow_succ, ← Nat.div_div_eq_div_mul]; omega
theorem bt_lo {lo hi j : Nat} (hj : j < 64) : (lo + 18446744073709551616 * hi) / 2 ^ j % 2 = lo / 2 ^ j % 2 := by
  obtain ⟨k, hk⟩ : ∃ k, 64 = j + 1 + k := ⟨64 - (j + 1), by omega⟩
  have e : 18446744073709551616 * hi = 2 ^ j * (2 * (2 ^ k * hi)) := by
    have : (18446744073709551616 : Nat) = 2 ^ j * 2 * 2 ^ k := by
      rw [← Nat.pow_succ, ← Nat.pow_add, ← hk]
    rw [this]
    simp only [Nat.mul_assoc]
  rw [e, Nat.add_mul_div_left _ _ (Nat.two_pow_pos j)]
  omega
theorem bt_hi {lo hi j : Nat} (hl : lo < 18446744073709551616) (hj : 64 ≤ j) : (lo + 18446744073709551616 * hi) / 2 ^ j = hi / 2 ^ (j - 64) := by
  obtain ⟨k, rfl⟩ := Nat.exists_eq_add_of_le hj
  rw [Nat.add_sub_cancel_left, Nat.pow_add, ← Nat.div_div_eq_div_mul]
  congr 1
  have : (2 : Nat) ^ 64 = 18446744073709551616 := by decide
  rw [this]
  omega
theorem st_lo {lo hi j : Nat} (hj : j < 64) : 2 * ((lo + 18446744073709551616 * hi) / 2 ^ (j + 1)) + lo / 2 ^ j % 2 = (lo + 18446744073709551616 * hi) / 2 ^ j := by
  rw [← bt_lo (hi := hi) hj]; exact bt_split _ _
theorem st_hi {lo hi j : Nat} (hl : lo < 18446744073709551616) (hj : 64 ≤ j) : 2 * ((lo + 18446744073709551616 * hi) / 2 ^ (j + 1)) + hi / 2 ^ (j - 64) % 2 = (lo + 18446744073709551616 * hi) / 2 ^ j := by
  rw [← bt_hi hl hj]; exact bt_split _ _
theorem wx_inj {a b : Int64} (h : a.toBitVec = b.toBitVec) : a = b := Int64.toBitVec_inj.mp h
theorem wx_tb (n : Nat) : (lN n).toBitVec = BitVec.ofNat 64 n := rfl
theorem wx_c : ∀ k, k < 64 → ((nI k).toInt64 &&& 63) = lN k := by decide +kernel
theorem wx_sm : ∀ k, k < 64 → (BitVec.ofNat 64 k).smod 64 = BitVec.ofNat 64 k := by decide +kernel
theorem x_tbn (n j : Nat) : (n.testBit j).toNat = n / 2 ^ j % 2 := by
  rw [Nat.testBit_eq_decide_div_mod_eq]
  by_cases h : n / 2 ^ j % 2 = 1
  · rw [decide_eq_true h, h]; rfl
  · rw [decide_eq_false h]; show 0 = _; omega
theorem x_tb0 (n : Nat) (b : Bool) (hb : n.testBit 0 = b) : n % 2 = b.toNat := by
  rw [← hb, x_tbn, Nat.pow_zero, Nat.div_one]
theorem x_and1 (x : BitVec 64) (b : Bool) (hb : x.getLsbD 0 = b) : x &&& BitVec.ofNat 64 1 = BitVec.ofNat 64 b.toNat := by
  apply BitVec.eq_of_toNat_eq
  show x.toNat &&& 1 = (BitVec.ofNat 64 b.toNat).toNat
  rw [Nat.and_one_is_mod, x_tb0 x.toNat b hb]
  cases b <;> rfl
theorem y_and1 (x : BitVec 32) (b : Bool) (hb : x.getLsbD 0 = b) : x &&& BitVec.ofNat 32 1 = BitVec.ofNat 32 b.toNat := by
  apply BitVec.eq_of_toNat_eq
  show x.toNat &&& 1 = (BitVec.ofNat 32 b.toNat).toNat
  rw [Nat.and_one_is_mod, x_tb0 x.toNat b hb]
  cases b <;> rfl
theorem x_bitL {lo j : Nat} (hl : lo < 18446744073709551616) (hj : j < 64) : (lN lo >>> ((nI j).toInt64 &&& 63)) &&& lN 1 = lN (lo / 2 ^ j % 2) := by
  apply wx_inj
  rw [wx_c j hj, Int64.toBitVec_and, Int64.toBitVec_shiftRight, wx_tb, wx_tb, wx_tb, wx_tb, wx_sm j hj]
  have h1 : (BitVec.ofNat 64 j).toNat = j := by rw [BitVec.toNat_ofNat, Nat.mod_eq_of_lt (by omega)]
  rw [x_and1 _ (lo.testBit j) (by
    rw [BitVec.sshiftRight_eq', BitVec.getLsbD_sshiftRight, h1, Nat.add_zero, if_pos hj, BitVec.getLsbD_ofNat]
    simp [hj]), x_tbn]
theorem y_c : ∀ k, k < 32 → (nI k &&& 31).toBitVec.smod 32 = BitVec.ofNat 32 k := by decide +kernel
theorem x_bitI {hi j : Nat} (hh : hi < 4294967296) (hj : j < 32) : (nI hi >>> (nI j &&& 31)) &&& nI 1 = nI (hi / 2 ^ j % 2) := by
  apply Int32.toBitVec_inj.mp
  rw [Int32.toBitVec_and, Int32.toBitVec_shiftRight, y_c j hj]
  show (BitVec.ofNat 32 hi).sshiftRight' (BitVec.ofNat 32 j) &&& BitVec.ofNat 32 1 = BitVec.ofNat 32 _
  have h1 : (BitVec.ofNat 32 j).toNat = j := by rw [BitVec.toNat_ofNat, Nat.mod_eq_of_lt (by omega)]
  rw [y_and1 _ (hi.testBit j) (by
    rw [BitVec.sshiftRight_eq', BitVec.getLsbD_sshiftRight, h1, Nat.add_zero, if_pos hj, BitVec.getLsbD_ofNat]
    simp [hj]), x_tbn]

