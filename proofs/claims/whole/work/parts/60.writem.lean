/-! what is written: digits before and behind the point -/
def bfT (v s gr : Nat) : Nat → List Nat
  | 0 => []
  | k + 1 => (48 + dg 10 v (s + k)) :: (if gr ≠ 0 ∧ 0 < k ∧ k % 3 = 0 then 44 :: bfT v s gr k else bfT v s gr k)
theorem bf_y {v s gr k : Nat} (h : gr ≠ 0 ∧ 0 < k ∧ k % 3 = 0) : bfT v s gr (k + 1) = (48 + dg 10 v (s + k)) :: 44 :: bfT v s gr k := by
  show _ :: (if _ then _ else _) = _
  rw [if_pos h]
theorem bf_n {v s gr k : Nat} (h : ¬ (gr ≠ 0 ∧ 0 < k ∧ k % 3 = 0)) : bfT v s gr (k + 1) = (48 + dg 10 v (s + k)) :: bfT v s gr k := by
  show _ :: (if _ then _ else _) = _
  rw [if_neg h]
theorem bf_2 {L1 T : List Nat} {v s gr k : Nat} (h : gr ≠ 0 ∧ 0 < k ∧ k % 3 = 0) (he : L1 ++ bfT v s gr (k + 1) = T) : ((L1 ++ [48 + dg 10 v (s + k)]) ++ [44]) ++ bfT v s gr k = T := ap2 (by rw [← bf_y h]; exact he)
theorem bf_1 {L1 T : List Nat} {v s gr k : Nat} (h : ¬ (gr ≠ 0 ∧ 0 < k ∧ k % 3 = 0)) (he : L1 ++ bfT v s gr (k + 1) = T) : (L1 ++ [48 + dg 10 v (s + k)]) ++ bfT v s gr k = T := ap1 (by rw [← bf_n h]; exact he)
theorem bf_l1 {L1 T : List Nat} {v s gr k : Nat} (he : L1 ++ bfT v s gr (k + 1) = T) : L1.length < T.length := by
  have e := ap_len he
  have h1 : 1 ≤ (bfT v s gr (k + 1)).length := by
    show 1 ≤ (_ :: _ : List Nat).length
    rw [List.length_cons]; omega
  omega
theorem bf_l2 {L1 T : List Nat} {v s gr k : Nat} (h : gr ≠ 0 ∧ 0 < k ∧ k % 3 = 0) (he : L1 ++ bfT v s gr (k + 1) = T) : (L1 ++ [48 + dg 10 v (s + k)]).length < T.length := by
  have e := ap_len (bf_2 h he)
  simp only [List.length_append, List.length_cons, List.length_nil] at e ⊢
  omega
theorem bf_len0 (v s : Nat) : ∀ k, (bfT v s 0 k).length = k
  | 0 => rfl
  | k + 1 => by rw [bf_n (by omega), List.length_cons, bf_len0 v s k]
theorem bf_len (v s gr : Nat) : ∀ k, (bfT v s gr k).length ≤ k + (k - 1) / 3
  | 0 => by show 0 ≤ _; omega
  | k + 1 => by
    have ih := bf_len v s gr k
    by_cases h : gr ≠ 0 ∧ 0 < k ∧ k % 3 = 0
    · rw [bf_y h, List.length_cons, List.length_cons]; omega
    · rw [bf_n h, List.length_cons]; omega
def bhX (v s i : Nat) : Nat := if i ≤ s then dg 10 v (s - i) else 0
theorem bhX_y {v s i : Nat} (h : i ≤ s) : bhX v s i = dg 10 v (s - i) := if_pos h
theorem bhX_n {v s i : Nat} (h : s < i) : bhX v s i = 0 := if_neg (by omega)
def bhL (v s : Nat) : Nat → List Nat
  | 0 => []
  | i + 1 => bhL v s i ++ [48 + bhX v s (i + 1)]
theorem bh_len (v s : Nat) : ∀ n, (bhL v s n).length = n
  | 0 => rfl
  | n + 1 => by
    show (bhL v s n ++ [_]).length = _
    rw [List.length_append, bh_len v s n]; rfl
theorem bh_n {v s n : Nat} (h : s < n + 1) : bhL v s n ++ [48 + 0] = bhL v s (n + 1) := by
  show _ = bhL v s n ++ [48 + bhX v s (n + 1)]
  rw [bhX_n h]
theorem bh_y {v s n : Nat} (h : n + 1 ≤ s) : bhL v s n ++ [48 + dg 10 v (s - (n + 1))] = bhL v s (n + 1) := by
  show _ = bhL v s n ++ [48 + bhX v s (n + 1)]
  rw [bhX_y h]
def ptL (n : Nat) : List Nat := if n = 0 then [] else [46]
theorem pt_0 {n : Nat} (h : n = 0) : ptL n = [] := if_pos h
theorem pt_1 {n : Nat} (h : n ≠ 0) : ptL n = [46] := if_neg h
theorem ptL_len (n : Nat) : (ptL n).length ≤ 1 := by unfold ptL; split <;> decide
def pbF (v s lb : Nat) : Nat → Nat
  | 0 => 0
  | n + 1 => if lb < n + 1 ∧ bhX v s (n + 1) = 0 then pbF v s lb n else n + 1
theorem pb_s {v s lb n : Nat} (h : lb < n) (hx : bhX v s n = 0) : pbF v s lb n = pbF v s lb (n - 1) := by
  obtain ⟨j, rfl⟩ : ∃ j, n = j + 1 := ⟨n - 1, by omega⟩
  show (if _ then _ else _) = _
  rw [if_pos ⟨h, hx⟩]; rfl
theorem pb_e {v s lb n : Nat} (h : ¬ (lb < n ∧ bhX v s n = 0)) : pbF v s lb n = n := by
  cases n with
  | zero => rfl
  | succ j => show (if _ then _ else _) = _; rw [if_neg h]
theorem pb_le (v s lb : Nat) : ∀ n, pbF v s lb n ≤ n
  | 0 => Nat.le_refl _
  | n + 1 => by
    have ih := pb_le v s lb n
    show (if lb < n + 1 ∧ bhX v s (n + 1) = 0 then pbF v s lb n else n + 1) ≤ n + 1
    split <;> omega
theorem sg_y {g v : Nat} (h1 : g ≠ 0) (h2 : v ≠ 0) : sgL (sgn g v) = [45] := by
  have h := sgn_sp g v
  unfold sgL; rw [if_neg (by omega)]
theorem sg_n {g v : Nat} (h : g = 0 ∨ v = 0) : sgL (sgn g v) = [] := by
  have h9 := sgn_sp g v
  unfold sgL; rw [if_pos (by omega)]
/-! how many digits -/
def ndF (v : Nat) : Nat → Nat
  | 0 => 0
  | k + 1 => if 10 ^ k ≤ v then k + 1 else ndF v k
def ndg (v : Nat) : Nat := ndF v 100
theorem ndF_c (v : Nat) : ∀ k, v < 10 ^ k → dgC v (ndF v k)
  | 0, h => ⟨h, Or.inl rfl⟩
  | k + 1, h => by
    show dgC v (if _ then _ else _)
    by_cases c : 10 ^ k ≤ v
    · rw [if_pos c]; exact ⟨h, Or.inr c⟩
    · rw [if_neg c]; exact ndF_c v k (Nat.lt_of_not_le c)
theorem pw_inj {a b v : Nat} (h1 : 10 ^ a ≤ v) (h2 : v < 10 ^ b) : a < b := by
  rcases Nat.lt_or_ge a b with h | h
  · exact h
  · exact absurd (Nat.lt_of_le_of_lt h1 h2) (Nat.not_lt.mpr (Nat.pow_le_pow_right (by decide) h))
theorem dgC_u {v a b : Nat} (h1 : dgC v a) (h2 : dgC v b) : a = b := by
  obtain ⟨p1, p2⟩ := h1
  obtain ⟨q1, q2⟩ := h2
  rcases p2 with p2 | p2
  · rcases q2 with q2 | q2
    · omega
    · subst p2
      have : v = 0 := by rw [Nat.pow_zero] at p1; omega
      have hp := pw_pos (B := 10) (by decide) (b - 1)
      omega
  · rcases q2 with q2 | q2
    · subst q2
      have : v = 0 := by rw [Nat.pow_zero] at q1; omega
      have hp := pw_pos (B := 10) (by decide) (a - 1)
      omega
    · have e1 := pw_inj p2 q1
      have e2 := pw_inj q2 p1
      have := pw_inj (a := a - 1) (b := b) p2 q1
      by_cases ha : a = 0
      · subst ha
        have : v = 0 := by rw [Nat.pow_zero] at p1; omega
        have hp := pw_pos (B := 10) (by decide) (b - 1)
        omega
      · by_cases hb : b = 0
        · subst hb
          have : v = 0 := by rw [Nat.pow_zero] at q1; omega
          have hp := pw_pos (B := 10) (by decide) (a - 1)
          omega
        · omega
theorem ndg_of {v n : Nat} (h : dgC v n) (hn : n ≤ 100) : n = ndg v := dgC_u h (ndF_c v 100 (Nat.lt_of_lt_of_le h.1 (pw_le hn)))
/-! a number's plain text -/
theorem sh_hi {v s n : Nat} (hd : dgC v n) : ∀ m, s ≤ m → v < 10 ^ (m + 1) → hiF v s m + 1 = s + max (n - s) 1
  | 0, hs, hv => by
    have hn : n ≤ 1 := by
      rcases hd.2 with h | h
      · omega
      · have := pw_inj h hv; omega
    rw [hiF_e (Or.inl (by omega))]; omega
  | m + 1, hs, hv => by
    by_cases c : s < m + 1
    · by_cases z : dg 10 v (m + 1) = 0
      · rw [hiF_s c z]
        have hv2 : v < 10 ^ (m + 1) := by
          have e := dg_split 10 v (m + 1)
          rw [z, dv_top hv] at e
          exact (Nat.div_eq_zero_iff_lt (pw_pos (by decide) _)).mp (by omega)
        exact sh_hi hd m (by omega) hv2
      · rw [hiF_e (Or.inr z)]
        have h1 : 10 ^ (m + 1) ≤ v := Nat.le_of_not_lt (fun h => z (dg_top h))
        have h2 := pw_inj h1 hd.1
        rcases hd.2 with h | h
        · omega
        · have := pw_inj h hv; omega
    · rw [hiF_e (Or.inl (by omega))]
      rcases hd.2 with h | h
      · omega
      · have := pw_inj h hv; omega
theorem sh_bf (v s : Nat) : ∀ k, shD v s (s + k) = bfT v s 0 k ++ shD v s s
  | 0 => rfl
  | k + 1 => by
    rw [show s + (k + 1) = (s + k) + 1 by omega, shD_n (by omega), bf_n (by omega), List.cons_append, sh_bf v s k]
theorem sh_bh {v s : Nat} : ∀ i, i ≤ s → ∀ T : Nat → List Nat, (∀ j, j < s → ∃ X, T (j + 1) = (48 + dg 10 v j) :: X ∧ X = T j) → T 0 = [] → bhL v s i ++ T (s - i) = T s
  | 0, _, T, _, _ => rfl
  | i + 1, h, T, ht, h0 => by
    have ih := sh_bh (v := v) (s := s) i (by omega) T ht h0
    obtain ⟨X, e1, e2⟩ := ht (s - (i + 1)) (by omega)
    rw [show s - i = (s - (i + 1)) + 1 by omega, e1, e2] at ih
    rw [← ih, ← bh_y h, List.append_assoc]; rfl
def shE (v : Nat) : Nat → List Nat
  | 0 => []
  | m + 1 => (48 + dg 10 v m) :: shE v m
theorem bh_E (v s : Nat) : bhL v s s = shE v s := by
  have h := sh_bh (v := v) (s := s) s (Nat.le_refl _) (shE v) (fun j _ => ⟨_, rfl, rfl⟩) rfl
  rw [Nat.sub_self] at h
  rw [← h]; exact (List.append_nil _).symm
theorem sh_E {v s : Nat} : ∀ m, m < s → shD v s m = shE v m
  | 0, _ => rfl
  | m + 1, h => by rw [shD_n (by omega), sh_E m (by omega)]; rfl
theorem sh_pt (v s : Nat) : shD v s s = ptL s ++ bhL v s s := by
  cases s with
  | zero => rfl
  | succ j =>
    rw [shD_y rfl, bh_E, sh_E j (by omega), pt_1 (by omega)]; rfl
theorem pl_sh {v s ng n : Nat} (hv : v < lim) (hs : s ≤ 28) (hd : dgC v n) : ((sgL ng ++ bfT v s 0 (max (n - s) 1)) ++ ptL s) ++ bhL v s s = shT v s ng := by
  unfold shT
  rw [sh_hi hd 29 (by omega) (Nat.lt_trans hv lim30), sh_bf, sh_pt, List.append_assoc, List.append_assoc]
def pcV (pe v : Nat) : Nat := if pe = 0 then v else 100 * v
theorem pcV_sp (pe v : Nat) : (pe = 0 ∧ pcV pe v = v) ∨ (pe ≠ 0 ∧ pcV pe v = 100 * v) := by
  unfold pcV
  by_cases h : pe = 0
  · rw [if_pos h]; exact Or.inl ⟨h, rfl⟩
  · rw [if_neg h]; exact Or.inr ⟨h, rfl⟩
def pcL (pe : Nat) : List Nat := if pe = 0 then [] else [37]
theorem pcL_0 {pe : Nat} (h : pe = 0) : pcL pe = [] := if_pos h
theorem pcL_1 {pe : Nat} (h : pe ≠ 0) : pcL pe = [37] := if_neg h
theorem pcL_len (pe : Nat) : (pcL pe).length ≤ 1 := by unfold pcL; split <;> decide
/-- the text by a pattern -/
def txT (g v s gr fd bk kp pe : Nat) : List Nat := (((sgL (sgn g v) ++ bfT v s gr (max (ndg v - s) fd)) ++ ptL (pbF v s kp bk)) ++ bhL v s (pbF v s kp bk)) ++ pcL pe
theorem tx_len (g v s gr fd bk kp pe : Nat) : (txT g v s gr fd bk kp pe).length = (sgL (sgn g v)).length + (bfT v s gr (max (ndg v - s) fd)).length + (ptL (pbF v s kp bk)).length + pbF v s kp bk + (pcL pe).length := by
  unfold txT
  rw [List.length_append, List.length_append, List.length_append, List.length_append, bh_len]
theorem rd_31 {g v s d : Nat} (hv : v < 100 * lim) : rdC 1 g v s d < 10 ^ 31 := by
  have hl : 100 * lim < 10 ^ 31 := by decide +kernel
  by_cases c : s ≤ d
  · rw [(rd_0 c).1]; omega
  · rw [(rd_1 (Nat.lt_of_not_le c)).1]
    have h1 := Nat.div_le_self v (10 ^ (s - d))
    have h2 : awN 1 g (v % 10 ^ (s - d)) (10 ^ (s - d)) (v / 10 ^ (s - d)) ≤ 1 := by unfold awN; split <;> omega
    omega

