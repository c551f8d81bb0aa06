theorem ap1 {L R T : List Nat} {v : Nat} (h : L ++ (v :: R) = T) : (L ++ [v]) ++ R = T := by rw [List.append_assoc]; exact h
theorem ap2 {L R T : List Nat} {v w : Nat} (h : L ++ (v :: w :: R) = T) : ((L ++ [v]) ++ [w]) ++ R = T := ap1 (ap1 h)
theorem ap_len {L R T : List Nat} (h : L ++ R = T) : L.length + R.length = T.length := by rw [← h, List.length_append]
theorem sgL_len (ng : Nat) : (sgL ng).length ≤ 1 := by unfold sgL; split <;> decide
theorem hiF_le (v s : Nat) : ∀ n, hiF v s n ≤ n
  | 0 => Nat.le_refl _
  | n + 1 => by
    show (if _ then _ else _) ≤ _
    split
    · exact Nat.le_succ_of_le (hiF_le v s n)
    · exact Nat.le_refl _
theorem shT_len (v s ng : Nat) : (shT v s ng).length ≤ 61 := by
  unfold shT
  have h1 := sgL_len ng
  have h2 := shD_len v s (hiF v s 29 + 1)
  have h3 := hiF_le v s 29
  rw [List.length_append]
  omega
theorem x_eqm1 {j s : Nat} (hj : j < 1000) (hs : s < 1000) : nI j = nI s - nI 1 ↔ j + 1 = s := by
  constructor
  · intro h
    have h2 : nI j + nI 1 = nI s := by rw [h]; exact Int32.sub_add_cancel _ _
    rw [nI_add] at h2
    exact (nI_eq (by omega) (by omega)).mp h2
  · intro h
    subst h
    rw [pk_sub (by omega)]; rfl
/-! reading a number from a text -/
def prF : List Nat → Nat → Nat → Nat → Nat → Nat → Nat × Nat × Nat × Nat × Nat
  | [], n, p, b, g, v => (n, p, b, g, v)
  | x :: R, n, p, b, g, v => if 48 ≤ x ∧ x ≤ 57 then prF R (n + 1) p (b + p) g (v * 10 + (x - 48)) else prF R n (p + 1) b (if x = 46 then g else 0) v
theorem prF_d {L : List Nat} {k n p b g v : Nat} (hk : k < L.length) (h : 48 ≤ L.getD k 0 ∧ L.getD k 0 ≤ 57) : prF (L.drop k) n p b g v = prF (L.drop (k + 1)) (n + 1) p (b + p) g (v * 10 + (L.getD k 0 - 48)) := by
  have e : L.drop k = L.getD k 0 :: L.drop (k + 1) := by
    rw [List.drop_eq_getElem_cons hk]; congr 1; rw [List.getD_eq_getElem?_getD, List.getElem?_eq_getElem hk]; rfl
  rw [e]
  show (if _ then _ else _) = _
  rw [if_pos h]
theorem prF_o {L : List Nat} {k n p b g v : Nat} (hk : k < L.length) (h : ¬ (48 ≤ L.getD k 0 ∧ L.getD k 0 ≤ 57)) : prF (L.drop k) n p b g v = prF (L.drop (k + 1)) n (p + 1) b (if L.getD k 0 = 46 then g else 0) v := by
  have e : L.drop k = L.getD k 0 :: L.drop (k + 1) := by
    rw [List.drop_eq_getElem_cons hk]; congr 1; rw [List.getD_eq_getElem?_getD, List.getElem?_eq_getElem hk]; rfl
  rw [e]
  show (if _ then _ else _) = _
  rw [if_neg h]
theorem prF_o2 {L : List Nat} {k n p b g g2 v : Nat} (hk : k < L.length) (h : ¬ (48 ≤ L.getD k 0 ∧ L.getD k 0 ≤ 57)) (hg : g2 = if L.getD k 0 = 46 then g else 0) : prF (L.drop k) n p b g v = prF (L.drop (k + 1)) n (p + 1) b g2 v := by
  rw [hg]; exact prF_o hk h
theorem prF_e {L : List Nat} {k n p b g v : Nat} (hk : L.length ≤ k) : prF (L.drop k) n p b g v = (n, p, b, g, v) := by
  rw [List.drop_of_length_le hk]; rfl
def prN (L : List Nat) : Nat := if 0 < L.length ∧ L.getD 0 0 = 45 then 1 else 0
theorem prN_y {L : List Nat} (h : 0 < L.length) (g : L.getD 0 0 = 45) : prN L = 1 := if_pos ⟨h, g⟩
theorem prN_n {L : List Nat} (h : ¬ (0 < L.length ∧ L.getD 0 0 = 45)) : prN L = 0 := if_neg h
def prA (L : List Nat) : Nat × Nat × Nat × Nat × Nat := prF (L.drop (prN L)) 0 0 0 1 0
/-- number and scale of a text, if it is one -/
def prR (L : List Nat) : Option (Nat × Nat) := if (prA L).2.2.2.1 = 1 ∧ (prA L).2.1 ≤ 1 ∧ (prA L).1 ≠ 0 then some ((prA L).2.2.2.2, (prA L).2.2.1) else none
theorem prR_y {L : List Nat} {n p b g v : Nat} (h : prA L = (n, p, b, g, v)) (h1 : g = 1) (h2 : p ≤ 1) (h3 : n ≠ 0) : prR L = some (v, b) := by
  unfold prR; rw [h]; exact if_pos ⟨h1, h2, h3⟩
theorem prR_n {L : List Nat} {n p b g v : Nat} (h : prA L = (n, p, b, g, v)) (hn : ¬ (g = 1 ∧ p ≤ 1 ∧ n ≠ 0)) : prR L = none := by
  unfold prR; rw [h]; exact if_neg hn
/-- what parse leaves -/
def paP (L : List Nat) (to : Nat) (C Sc Bl : Nat → Nat) (th : Int32) (fg fs fb : Nat → Int32) : Prop := match prR L with
  | none => th = nI 2 ∧ mSt fg fs fb C Sc Bl
  | some (v, b) => match plc v (10 ^ b) (min b 28) with
    | none => th = nI 3 ∧ mSt fg fs fb C Sc Bl
    | some (q, s) => th = nI 0 ∧ mSt fg fs fb (upN C to q) (upN Sc to s) (upN Bl to (sgn (prN L) q))
theorem paP_2 {L : List Nat} {to : Nat} {C Sc Bl : Nat → Nat} {fg fs fb : Nat → Int32} (h : prR L = none) (hm : mSt fg fs fb C Sc Bl) : paP L to C Sc Bl (nI 2) fg fs fb := by
  unfold paP; rw [h]; exact ⟨rfl, hm⟩
theorem paP_3 {L : List Nat} {to v b : Nat} {C Sc Bl : Nat → Nat} {fg fs fb : Nat → Int32} (h : prR L = some (v, b)) (hp : plc v (10 ^ b) (min b 28) = none) (hm : mSt fg fs fb C Sc Bl) : paP L to C Sc Bl (nI 3) fg fs fb := by
  unfold paP; rw [h]; show (match plc v (10 ^ b) (min b 28) with | none => _ | some (q, s) => _); rw [hp]; exact ⟨rfl, hm⟩
theorem paP_0 {L : List Nat} {to v b q s : Nat} {C Sc Bl : Nat → Nat} {fg fs fb : Nat → Int32} (h : prR L = some (v, b)) (hp : plc v (10 ^ b) (min b 28) = some (q, s)) (hm : mSt fg fs fb (upN C to q) (upN Sc to s) (upN Bl to (sgn (prN L) q))) : paP L to C Sc Bl (nI 0) fg fs fb := by
  unfold paP; rw [h]; show (match plc v (10 ^ b) (min b 28) with | none => _ | some (q, s) => _); rw [hp]; exact ⟨rfl, hm⟩
theorem pr_num {v k x : Nat} (h : v < 10 ^ k) (hx : x < 10) : v * 10 + x < 10 ^ (k + 1) := by
  rw [Nat.pow_succ]; omega
def digN (x : Nat) : Nat := if 48 ≤ x ∧ x ≤ 57 then 1 else 0
theorem digN_sp (x : Nat) : ((48 ≤ x ∧ x ≤ 57) ∧ digN x = 1) ∨ (¬ (48 ≤ x ∧ x ≤ 57) ∧ digN x = 0) := by
  unfold digN
  by_cases h : 48 ≤ x ∧ x ≤ 57
  · rw [if_pos h]; exact Or.inl ⟨h, rfl⟩
  · rw [if_neg h]; exact Or.inr ⟨h, rfl⟩
theorem getD_lt {L : List Nat} {B : Nat} (hB : 0 < B) (h : ∀ x ∈ L, x < B) (k : Nat) : L.getD k 0 < B := by
  rw [List.getD_eq_getElem?_getD]
  cases e : L[k]? with
  | none => exact hB
  | some x => exact h x (List.mem_of_getElem? e)

