/-! patterns as the class reads them -/
def hpN : Nat → Nat
  | 0 => 0
  | _ + 1 => 1
theorem hpN_sp (n : Nat) : (n = 0 ∧ hpN n = 0) ∨ (0 < n ∧ hpN n = 1) := by
  cases n with
  | zero => exact Or.inl ⟨rfl, rfl⟩
  | succ n => exact Or.inr ⟨Nat.succ_pos n, rfl⟩
def cbF (L : List Nat) : Nat → Nat
  | 0 => 0
  | k + 1 => if L.getD k 0 = 44 then hpN (anyF L k) else cbF L k
def gpF (L : List Nat) : Nat → Nat
  | 0 => 0
  | k + 1 => if slotN (L.getD k 0) = 1 then cbF L k else gpF L k
theorem cb_st (L : List Nat) (k : Nat) : (L.getD k 0 = 44 ∧ cbF L (k + 1) = hpN (anyF L k)) ∨ (L.getD k 0 ≠ 44 ∧ cbF L (k + 1) = cbF L k) := by
  by_cases h : L.getD k 0 = 44
  · exact Or.inl ⟨h, if_pos h⟩
  · exact Or.inr ⟨h, if_neg h⟩
theorem gp_st (L : List Nat) (k : Nat) : (slotN (L.getD k 0) = 1 ∧ gpF L (k + 1) = cbF L k) ∨ (slotN (L.getD k 0) = 0 ∧ gpF L (k + 1) = gpF L k) := by
  have := slotN_sp (L.getD k 0)
  by_cases h : slotN (L.getD k 0) = 1
  · exact Or.inl ⟨h, if_pos h⟩
  · exact Or.inr ⟨by omega, if_neg h⟩
theorem any_st (L : List Nat) (k : Nat) : anyF L (k + 1) = anyF L k + slotN (L.getD k 0) := rfl
theorem zr_st (L : List Nat) (k : Nat) : ((zrF L k ≠ 0 ∨ L.getD k 0 = 48) ∧ zrF L (k + 1) = 1) ∨ (zrF L k = 0 ∧ L.getD k 0 ≠ 48 ∧ zrF L (k + 1) = 0) := by
  by_cases h : zrF L k ≠ 0 ∨ L.getD k 0 = 48
  · exact Or.inl ⟨h, if_pos h⟩
  · exact Or.inr ⟨by omega, by omega, if_neg h⟩
theorem fd_st0 (L : List Nat) (k : Nat) : (zrF L (k + 1) ≠ 0 ∧ slotN (L.getD k 0) ≠ 0 ∧ fdF L (k + 1) = fdF L k + 1) ∨ (¬ (zrF L (k + 1) ≠ 0 ∧ slotN (L.getD k 0) ≠ 0) ∧ fdF L (k + 1) = fdF L k) := by
  by_cases h : zrF L (k + 1) ≠ 0 ∧ slotN (L.getD k 0) ≠ 0
  · exact Or.inl ⟨h.1, h.2, (fdF_y h).symm⟩
  · exact Or.inr ⟨h, (fdF_n h).symm⟩
theorem fd_zr (L : List Nat) : ∀ k, (fdF L k = 0 ∧ zrF L k = 0) ∨ (0 < fdF L k ∧ zrF L k = 1)
  | 0 => Or.inl ⟨rfl, rfl⟩
  | k + 1 => by
    have h0 := fd_zr L k
    have h1 := zr_st L k
    have h2 := fd_st0 L k
    have h3 := slotN_sp (L.getD k 0)
    omega
theorem fd_st (L : List Nat) (k : Nat) : (slotN (L.getD k 0) = 0 ∧ fdF L (k + 1) = fdF L k) ∨ (slotN (L.getD k 0) = 1 ∧ (L.getD k 0 = 48 ∨ 0 < fdF L k) ∧ fdF L (k + 1) = fdF L k + 1) ∨ (slotN (L.getD k 0) = 1 ∧ L.getD k 0 ≠ 48 ∧ fdF L k = 0 ∧ fdF L (k + 1) = fdF L k) := by
  have h0 := fd_zr L k
  have h1 := zr_st L k
  have h2 := fd_st0 L k
  have h3 := slotN_sp (L.getD k 0)
  omega
theorem cbF_le (L : List Nat) : ∀ k, cbF L k ≤ 1
  | 0 => Nat.zero_le _
  | k + 1 => by
    have h0 := cbF_le L k
    have h1 := cb_st L k
    have h2 := hpN_sp (anyF L k)
    omega
theorem gpF_le (L : List Nat) : ∀ k, gpF L k ≤ 1
  | 0 => Nat.zero_le _
  | k + 1 => by
    have h0 := gpF_le L k
    have h1 := gp_st L k
    have h2 := cbF_le L k
    omega
theorem any_mono (L : List Nat) : ∀ {j k : Nat}, j ≤ k → anyF L j ≤ anyF L k
  | j, 0, h => by rw [Nat.le_zero.mp h]; exact Nat.le_refl _
  | j, k + 1, h => by
    by_cases e : j = k + 1
    · rw [e]; exact Nat.le_refl _
    · have := any_mono L (show j ≤ k by omega); have := any_st L k; omega
theorem cbF_ex (L : List Nat) : ∀ k, cbF L k = 1 ↔ ∃ c, c < k ∧ L.getD c 0 = 44 ∧ 0 < anyF L c
  | 0 => ⟨fun h => absurd (show (0 : Nat) = 1 from h) (by decide), fun ⟨c, h, _⟩ => absurd h (Nat.not_lt_zero c)⟩
  | k + 1 => by
    have ih := cbF_ex L k
    have h1 := cb_st L k
    have h2 := hpN_sp (anyF L k)
    constructor
    · intro h
      rcases h1 with ⟨a, b⟩ | ⟨a, b⟩
      · exact ⟨k, Nat.lt_succ_self k, a, by omega⟩
      · obtain ⟨c, x, y⟩ := ih.mp (by omega); exact ⟨c, by omega, y⟩
    · rintro ⟨c, x, y, z⟩
      rcases h1 with ⟨a, b⟩ | ⟨a, b⟩
      · have := any_mono L (show c ≤ k by omega); omega
      · have hc : c ≠ k := fun e => a (e ▸ y)
        rw [b]; exact ih.mpr ⟨c, by omega, y, z⟩
theorem gpF_ex (L : List Nat) : ∀ k, gpF L k = 1 ↔ ∃ c, c < k ∧ L.getD c 0 = 44 ∧ 0 < anyF L c ∧ anyF L c < anyF L k
  | 0 => ⟨fun h => absurd (show (0 : Nat) = 1 from h) (by decide), fun ⟨c, h, _⟩ => absurd h (Nat.not_lt_zero c)⟩
  | k + 1 => by
    have ih := gpF_ex L k
    have h1 := gp_st L k
    have h3 := any_st L k
    constructor
    · intro h
      rcases h1 with ⟨a, b⟩ | ⟨a, b⟩
      · obtain ⟨c, x, y, z⟩ := (cbF_ex L k).mp (by omega)
        have := any_mono L (show c ≤ k by omega)
        exact ⟨c, by omega, y, z, by omega⟩
      · obtain ⟨c, x, y, z, w⟩ := ih.mp (by omega); exact ⟨c, by omega, y, z, by omega⟩
    · rintro ⟨c, x, y, z, w⟩
      have hc : c ≠ k ∨ slotN (L.getD k 0) = 0 := by
        by_cases e : c = k
        · right; rw [← e, y]; rfl
        · exact Or.inl e
      rcases h1 with ⟨a, b⟩ | ⟨a, b⟩
      · rw [b]; exact (cbF_ex L k).mpr ⟨c, by omega, y, z⟩
      · have hk : c ≠ k := fun e => by rw [e] at w; omega
        rw [b]; exact ih.mpr ⟨c, by omega, y, z, by omega⟩
theorem grF_ex (L : List Nat) (al : Nat) : ∀ k, grF L al k = 1 ↔ ∃ c, c < k ∧ L.getD c 0 = 44 ∧ 0 < anyF L c ∧ anyF L c < al
  | 0 => ⟨fun h => absurd (show (0 : Nat) = 1 from h) (by decide), fun ⟨c, h, _⟩ => absurd h (Nat.not_lt_zero c)⟩
  | k + 1 => by
    have ih := grF_ex L al k
    have hl := grF_le L al k
    by_cases h : grF L al k ≠ 0 ∨ (L.getD k 0 = 44 ∧ 0 < anyF L k ∧ anyF L k < al)
    · rw [← grF_y h]
      refine ⟨fun _ => ?_, fun _ => rfl⟩
      by_cases g : grF L al k ≠ 0
      · obtain ⟨c, x, y⟩ := ih.mp (by omega); exact ⟨c, by omega, y⟩
      · rcases h with h | h
        · exact absurd h g
        · exact ⟨k, Nat.lt_succ_self k, h⟩
    · rw [← grF_n h]
      refine ⟨fun e => absurd e (by decide), ?_⟩
      rintro ⟨c, x, y⟩
      by_cases e : c = k
      · exact absurd (Or.inr (e ▸ y)) h
      · exact absurd (Or.inl (by have := ih.mpr ⟨c, by omega, y⟩; omega)) h
theorem gp_gr (L : List Nat) (k : Nat) : gpF L k = grF L (anyF L k) k := by
  have h1 := gpF_ex L k
  have h2 := grF_ex L (anyF L k) k
  have h3 := gpF_le L k
  have h4 := grF_le L (anyF L k) k
  have h : gpF L k = 1 ↔ grF L (anyF L k) k = 1 := h1.trans h2.symm
  omega
theorem scn_stop {ok : Nat → Nat} {L : List Nat} : ∀ (n k : Nat), L.length < k + n → ¬ (scn ok L k n < L.length ∧ ok (L.getD (scn ok L k n) 0) = 1)
  | 0, k, h => fun z => by have := z.1; simp only [scn] at this; omega
  | n + 1, k, h => by
    by_cases c : k < L.length ∧ ok (L.getD k 0) = 1
    · rw [scn_s c.1 c.2 (Nat.succ_pos n)]
      exact scn_stop n (k + 1) (by omega)
    · rw [scn_e c]; exact c
theorem ptE_n {L : List Nat} (hL : L.length ≤ 40) (h : ¬ (ptP L < L.length ∧ L.getD (ptP L) 0 = 46)) : ptP L = ptE L := by
  have hs := scn_stop (ok := frN) (L := L) 41 0 (by omega)
  have e := ptB_n h
  unfold ptE
  rw [← e]
  have a := slotN_sp (L.getD (ptP L) 0)
  have b := frN_sp (L.getD (ptP L) 0)
  have hz : ¬ (ptP L < L.length ∧ slotN (L.getD (ptP L) 0) = 1) := fun z => hs ⟨z.1, show frN (L.getD (ptP L) 0) = 1 by omega⟩
  exact (scn_e hz).symm
theorem ptX_n {L : List Nat} (h : ¬ (ptP L < L.length ∧ L.getD (ptP L) 0 = 46)) : txF L (ptP L) ≠ 46 := fun z => by
  by_cases d : ptP L < L.length
  · rw [← txF_y d] at z; exact h ⟨d, z⟩
  · rw [← txF_n (Nat.le_of_not_lt d)] at z; omega
theorem ptC_sp (L : List Nat) : (ptE L < L.length ∧ L.getD (ptE L) 0 = 37 ∧ ptC L = 1) ∨ (¬ (ptE L < L.length ∧ L.getD (ptE L) 0 = 37) ∧ ptC L = 0) := by
  by_cases d : ptE L < L.length
  · by_cases e : L.getD (ptE L) 0 = 37
    · exact Or.inl ⟨d, e, (ptC_y (by rw [← txF_y d]; exact e)).symm⟩
    · exact Or.inr ⟨fun z => e z.2, (ptC_n (by rw [← txF_y d]; exact e)).symm⟩
  · exact Or.inr ⟨fun z => d z.1, (ptC_n (by rw [← txF_n (Nat.le_of_not_lt d)]; decide)).symm⟩

