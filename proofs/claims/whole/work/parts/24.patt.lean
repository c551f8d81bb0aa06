/-! patterns -/
def slotN (x : Nat) : Nat := if x = 48 ∨ x = 35 then 1 else 0
theorem slotN_sp (x : Nat) : ((x = 48 ∨ x = 35) ∧ slotN x = 1) ∨ (¬ (x = 48 ∨ x = 35) ∧ slotN x = 0) := by
  unfold slotN
  by_cases h : x = 48 ∨ x = 35
  · rw [if_pos h]; exact Or.inl ⟨h, rfl⟩
  · rw [if_neg h]; exact Or.inr ⟨h, rfl⟩
def frN (x : Nat) : Nat := if x = 48 ∨ x = 35 ∨ x = 44 then 1 else 0
theorem frN_sp (x : Nat) : ((x = 48 ∨ x = 35 ∨ x = 44) ∧ frN x = 1) ∨ (¬ (x = 48 ∨ x = 35 ∨ x = 44) ∧ frN x = 0) := by
  unfold frN
  by_cases h : x = 48 ∨ x = 35 ∨ x = 44
  · rw [if_pos h]; exact Or.inl ⟨h, rfl⟩
  · rw [if_neg h]; exact Or.inr ⟨h, rfl⟩
def scn (ok : Nat → Nat) (L : List Nat) : Nat → Nat → Nat
  | k, 0 => k
  | k, n + 1 => if k < L.length ∧ ok (L.getD k 0) = 1 then scn ok L (k + 1) n else k
theorem scn_s {ok : Nat → Nat} {L : List Nat} {k n : Nat} (h1 : k < L.length) (h2 : ok (L.getD k 0) = 1) (hn : 0 < n) : scn ok L k n = scn ok L (k + 1) (n - 1) := by
  cases n with
  | zero => omega
  | succ n => show (if _ then _ else _) = _; rw [if_pos ⟨h1, h2⟩]; rfl
theorem scn_e {ok : Nat → Nat} {L : List Nat} {k n : Nat} (h : ¬ (k < L.length ∧ ok (L.getD k 0) = 1)) : scn ok L k n = k := by
  cases n with
  | zero => rfl
  | succ n => show (if _ then _ else _) = _; rw [if_neg h]
theorem scn_ge (ok : Nat → Nat) (L : List Nat) : ∀ (n k : Nat), k ≤ scn ok L k n
  | 0, k => Nat.le_refl _
  | n + 1, k => by
    show k ≤ (if _ then _ else _)
    split
    · exact Nat.le_trans (Nat.le_succ k) (scn_ge ok L n (k + 1))
    · exact Nat.le_refl _
theorem scn_le (ok : Nat → Nat) (L : List Nat) : ∀ (n k : Nat), k ≤ L.length → scn ok L k n ≤ L.length
  | 0, k, h => h
  | n + 1, k, h => by
    show (if _ then _ else _) ≤ _
    split
    · next c => exact scn_le ok L n (k + 1) c.1
    · exact h
def txF (L : List Nat) (k : Nat) : Nat := if k < L.length then L.getD k 0 else 32
theorem txF_y {L : List Nat} {k : Nat} (h : k < L.length) : L.getD k 0 = txF L k := (if_pos h).symm
theorem txF_n {L : List Nat} {k : Nat} (h : L.length ≤ k) : 32 = txF L k := (if_neg (by omega)).symm
theorem txF_lt {L : List Nat} (hc : ∀ x ∈ L, x < 128) (k : Nat) : txF L k < 128 := by
  have := getD_lt (by decide) hc k
  unfold txF; split <;> omega
def anyF (L : List Nat) : Nat → Nat
  | 0 => 0
  | k + 1 => anyF L k + slotN (L.getD k 0)
theorem anyF_le (L : List Nat) : ∀ k, anyF L k ≤ k
  | 0 => Nat.le_refl _
  | k + 1 => by
    have h1 := anyF_le L k
    have h2 := slotN_sp (L.getD k 0)
    show anyF L k + slotN (L.getD k 0) ≤ k + 1
    omega
def zrF (L : List Nat) : Nat → Nat
  | 0 => 0
  | k + 1 => if zrF L k ≠ 0 ∨ L.getD k 0 = 48 then 1 else 0
theorem zrF_y {L : List Nat} {k : Nat} (h : zrF L k ≠ 0 ∨ L.getD k 0 = 48) : 1 = zrF L (k + 1) := (if_pos h).symm
theorem zrF_n {L : List Nat} {k : Nat} (h : ¬ (zrF L k ≠ 0 ∨ L.getD k 0 = 48)) : 0 = zrF L (k + 1) := (if_neg h).symm
theorem zrF_le (L : List Nat) (k : Nat) : zrF L k ≤ 1 := by
  cases k with
  | zero => exact Nat.zero_le _
  | succ k => show (if _ then _ else _) ≤ 1; split <;> omega
def fdF (L : List Nat) : Nat → Nat
  | 0 => 0
  | k + 1 => fdF L k + (if zrF L (k + 1) ≠ 0 ∧ slotN (L.getD k 0) ≠ 0 then 1 else 0)
theorem fdF_y {L : List Nat} {k : Nat} (h : zrF L (k + 1) ≠ 0 ∧ slotN (L.getD k 0) ≠ 0) : fdF L k + 1 = fdF L (k + 1) := by
  show _ = fdF L k + _; rw [if_pos h]
theorem fdF_n {L : List Nat} {k : Nat} (h : ¬ (zrF L (k + 1) ≠ 0 ∧ slotN (L.getD k 0) ≠ 0)) : fdF L k + 0 = fdF L (k + 1) := by
  show _ = fdF L k + _; rw [if_neg h]
theorem fdF_le (L : List Nat) : ∀ k, fdF L k ≤ k
  | 0 => Nat.le_refl _
  | k + 1 => by
    have h1 := fdF_le L k
    show fdF L k + (if _ then _ else _) ≤ k + 1
    split <;> omega
def grF (L : List Nat) (al : Nat) : Nat → Nat
  | 0 => 0
  | k + 1 => if grF L al k ≠ 0 ∨ (L.getD k 0 = 44 ∧ 0 < anyF L k ∧ anyF L k < al) then 1 else 0
theorem grF_y {L : List Nat} {al k : Nat} (h : grF L al k ≠ 0 ∨ (L.getD k 0 = 44 ∧ 0 < anyF L k ∧ anyF L k < al)) : 1 = grF L al (k + 1) := (if_pos h).symm
theorem grF_n {L : List Nat} {al k : Nat} (h : ¬ (grF L al k ≠ 0 ∨ (L.getD k 0 = 44 ∧ 0 < anyF L k ∧ anyF L k < al))) : 0 = grF L al (k + 1) := (if_neg h).symm
theorem grF_le (L : List Nat) (al k : Nat) : grF L al k ≤ 1 := by
  cases k with
  | zero => exact Nat.zero_le _
  | succ k => show (if _ then _ else _) ≤ 1; split <;> omega
def kpF (L : List Nat) (fr : Nat) : Nat → Nat
  | 0 => 0
  | k + 1 => if L.getD (fr + k) 0 = 48 then k + 1 else kpF L fr k
theorem kpF_y {L : List Nat} {fr k : Nat} (h : L.getD (fr + k) 0 = 48) : k + 1 = kpF L fr (k + 1) := (if_pos h).symm
theorem kpF_n {L : List Nat} {fr k : Nat} (h : L.getD (fr + k) 0 ≠ 48) : kpF L fr k = kpF L fr (k + 1) := (if_neg h).symm
theorem kpF_le (L : List Nat) (fr : Nat) : ∀ k, kpF L fr k ≤ k
  | 0 => Nat.le_refl _
  | k + 1 => by
    show (if _ then _ else _) ≤ k + 1
    split
    · exact Nat.le_refl _
    · exact Nat.le_succ_of_le (kpF_le L fr k)
/-- where the front ends; where the back begins and ends; how many places it has; is there a percent sign -/
def ptP (L : List Nat) : Nat := scn frN L 0 41
def ptB (L : List Nat) : Nat := if txF L (ptP L) = 46 then ptP L + 1 else ptP L
def ptE (L : List Nat) : Nat := scn slotN L (ptB L) 41
def ptK (L : List Nat) : Nat := if txF L (ptP L) = 46 then ptE L - ptB L else 0
def ptC (L : List Nat) : Nat := if txF L (ptE L) = 37 then 1 else 0
def ptO (L : List Nat) : Nat := if ptE L + ptC L = L.length ∧ 0 < anyF L (ptP L) + ptK L then 1 else 0
theorem ptP_le (L : List Nat) : ptP L ≤ L.length := scn_le frN L 41 0 (Nat.zero_le _)
theorem ptB_le (L : List Nat) : ptB L ≤ L.length := by
  have h := ptP_le L
  unfold ptB
  by_cases c : txF L (ptP L) = 46
  · rw [if_pos c]
    by_cases d : ptP L < L.length
    · omega
    · rw [← txF_n (Nat.le_of_not_lt d)] at c; omega
  · rw [if_neg c]; exact h
theorem ptE_le (L : List Nat) : ptE L ≤ L.length := scn_le slotN L 41 _ (ptB_le L)
theorem ptE_ge (L : List Nat) : ptB L ≤ ptE L := scn_ge slotN L 41 _
theorem ptC_le (L : List Nat) : ptC L ≤ 1 := by unfold ptC; split <;> omega
theorem ptK_le (L : List Nat) : ptK L ≤ L.length := by
  have := ptE_le L
  unfold ptK; split <;> omega
theorem x_fz {b : Nat} (h : b ≤ 1) : fits .boolean (.int (nI b)) = true := by
  have : b = 0 ∨ b = 1 := by omega
  rcases this with rfl | rfl <;> rfl
theorem ptB_y {L : List Nat} (h1 : ptP L < L.length) (h2 : L.getD (ptP L) 0 = 46) : ptP L + 1 = ptB L := by
  unfold ptB; rw [if_pos (by rw [← txF_y h1]; exact h2)]
theorem ptB_n {L : List Nat} (h : ¬ (ptP L < L.length ∧ L.getD (ptP L) 0 = 46)) : ptP L = ptB L := by
  unfold ptB
  rw [if_neg]
  intro c
  by_cases d : ptP L < L.length
  · rw [← txF_y d] at c; exact h ⟨d, c⟩
  · rw [← txF_n (Nat.le_of_not_lt d)] at c; omega
theorem ptK_y {L : List Nat} (h : txF L (ptP L) = 46) : ptE L - ptB L = ptK L := by unfold ptK; rw [if_pos h]
theorem ptK_n {L : List Nat} (h : txF L (ptP L) ≠ 46) : 0 = ptK L := by unfold ptK; rw [if_neg h]
theorem ptC_y {L : List Nat} (h : txF L (ptE L) = 37) : 1 = ptC L := by unfold ptC; rw [if_pos h]
theorem ptC_n {L : List Nat} (h : txF L (ptE L) ≠ 37) : 0 = ptC L := by unfold ptC; rw [if_neg h]
theorem ptK_le2 (L : List Nat) : ptK L ≤ ptE L - ptB L := by unfold ptK; split <;> omega
theorem ptO_y {L : List Nat} (h1 : ptE L + ptC L = L.length) (h2 : 0 < anyF L (ptP L) + ptK L) : 1 = ptO L := by unfold ptO; rw [if_pos ⟨h1, h2⟩]
theorem ptO_n {L : List Nat} (h : ¬ (ptE L + ptC L = L.length ∧ 0 < anyF L (ptP L) + ptK L)) : 0 = ptO L := by unfold ptO; rw [if_neg h]

