/-! how long a text by a pattern is, and what stands in it -/
theorem an_st (L : List Nat) (k : Nat) : anyF L (k + 1) ≤ anyF L k + 1 := by
  have h := any_st L k
  have h2 := slotN_sp (L.getD k 0)
  omega
theorem an_up (L : List Nat) (c : Nat) : ∀ d, anyF L (c + d) ≤ anyF L c + d
  | 0 => Nat.le_refl _
  | d + 1 => by
    have h := an_up L c d
    have h2 := an_st L (c + d)
    rw [show c + (d + 1) = (c + d) + 1 by omega]
    omega
theorem an_comma {L : List Nat} {k : Nat} (h : gpF L k = 1) : anyF L k + 1 ≤ k ∧ 2 ≤ anyF L k := by
  obtain ⟨c, h1, h2, h3, h4⟩ := (gpF_ex L k).mp h
  have e := any_st L c
  have h5 := slotN_sp (L.getD c 0)
  have h6 := anyF_le L c
  have h7 := an_up L (c + 1) (k - (c + 1))
  rw [show c + 1 + (k - (c + 1)) = k by omega] at h7
  omega
theorem fd_an (L : List Nat) : ∀ k, fdF L k ≤ anyF L k
  | 0 => Nat.le_refl _
  | k + 1 => by
    have ih := fd_an L k
    have h1 := fd_st L k
    have h2 := any_st L k
    have h3 := slotN_sp (L.getD k 0)
    omega
theorem pt_room {L : List Nat} (hO : ptO L = 1) : ptP L + (if ptK L = 0 then 0 else 1) + ptK L + ptC L ≤ L.length := by
  have h1 : ptE L + ptC L = L.length := by
    by_cases c : ptE L + ptC L = L.length ∧ 0 < anyF L (ptP L) + ptK L
    · exact c.1
    · have := ptO_n c; omega
  have h2 := ptE_ge L
  by_cases c : txF L (ptP L) = 46
  · have e1 : ptB L = ptP L + 1 := by unfold ptB; rw [if_pos c]
    have e2 := ptK_y c
    split <;> omega
  · have e1 : ptB L = ptP L := by unfold ptB; rw [if_neg c]
    have e2 := ptK_n c
    rw [← e2, if_pos rfl]; omega
theorem rd_dig {g pe v s d : Nat} (hv : v < lim) (hpe : pe ≤ 1) : ndg (rdC 1 g (pcV pe v) s d) ≤ 29 + 2 * pe := by
  have hl1 : lim + 1 < 10 ^ 29 := by decide +kernel
  have hl2 : 100 * lim + 1 < 10 ^ 31 := by decide +kernel
  have hp := pcV_sp pe v
  have hr : rdC 1 g (pcV pe v) s d ≤ pcV pe v + 1 := by
    by_cases c : s ≤ d
    · rw [(rd_0 c).1]; omega
    · rw [(rd_1 (Nat.lt_of_not_le c)).1]
      have h1 := Nat.div_le_self (pcV pe v) (10 ^ (s - d))
      have h2 : awN 1 g (pcV pe v % 10 ^ (s - d)) (10 ^ (s - d)) (pcV pe v / 10 ^ (s - d)) ≤ 1 := by unfold awN; split <;> omega
      omega
  by_cases c : pe = 0
  · subst c
    exact nd_le (by omega) (by decide)
  · have e : pe = 1 := by omega
    subst e
    exact nd_le (by omega) (by decide)
theorem tx_79 {g v s : Nat} {L : List Nat} (hL : L.length ≤ 40) (hO : ptO L = 1) (hv : v < lim) : (txT g (rdC 1 g (pcV (ptC L) v) s (ptK L)) (rdS s (ptK L)) (gpF L (ptP L)) (fdF L (ptP L)) (ptK L) (kpF L (ptB L) (ptK L)) (ptC L)).length ≤ 79 := by
  rw [tx_len]
  generalize hA : rdC 1 g (pcV (ptC L) v) s (ptK L) = A9
  generalize hS : rdS s (ptK L) = T9
  have hpe := ptC_le L
  have hn : ndg A9 ≤ 29 + 2 * ptC L := by rw [← hA]; exact rd_dig hv hpe
  have h1 := sgL_len (sgn g A9)
  have h2 := ptL_len (pbF A9 T9 (kpF L (ptB L) (ptK L)) (ptK L))
  have h3 := pb_le A9 T9 (kpF L (ptB L) (ptK L)) (ptK L)
  have h5 := pt_room hO
  have h6 := fd_an L (ptP L)
  have h7 := anyF_le L (ptP L)
  have h8 : (pcL (ptC L)).length = ptC L := by
    by_cases c : ptC L = 0
    · rw [pcL_0 c, c]; rfl
    · rw [pcL_1 c]; show 1 = _; omega
  have h10 := gpF_le L (ptP L)
  rcases (show gpF L (ptP L) = 0 ∨ gpF L (ptP L) = 1 by omega) with c | c
  · rw [c, bf_len0]
    split at h5 <;> omega
  · have h9 := bf_len A9 T9 (gpF L (ptP L)) (max (ndg A9 - T9) (fdF L (ptP L)))
    have h11 := an_comma c
    split at h5 <;> omega
theorem bf_ch (v s gr : Nat) : ∀ k, ∀ y ∈ bfT v s gr k, y < 128
  | 0, y, h => by cases h
  | k + 1, y, h => by
    have hd := dg10 v (s + k)
    by_cases c : gr ≠ 0 ∧ 0 < k ∧ k % 3 = 0
    · rw [bf_y c] at h
      rcases List.mem_cons.mp h with h | h
      · omega
      · rcases List.mem_cons.mp h with h | h
        · omega
        · exact bf_ch v s gr k y h
    · rw [bf_n c] at h
      rcases List.mem_cons.mp h with h | h
      · omega
      · exact bf_ch v s gr k y h
theorem bh_ch (v s : Nat) : ∀ n, ∀ y ∈ bhL v s n, y < 128
  | 0, y, h => by cases h
  | n + 1, y, h => by
    rcases List.mem_append.mp h with h | h
    · exact bh_ch v s n y h
    · have e := List.mem_singleton.mp h
      have hx : bhX v s (n + 1) < 10 := by
        unfold bhX
        split
        · exact dg10 _ _
        · decide
      omega
theorem sg_ch (g : Nat) : ∀ y ∈ sgL g, y < 128 := fun y h => by
  unfold sgL at h
  split at h
  · cases h
  · have := List.mem_singleton.mp h; omega
theorem pt_ch (n : Nat) : ∀ y ∈ ptL n, y < 128 := fun y h => by
  unfold ptL at h
  split at h
  · cases h
  · have := List.mem_singleton.mp h; omega
theorem pc_ch (n : Nat) : ∀ y ∈ pcL n, y < 128 := fun y h => by
  unfold pcL at h
  split at h
  · cases h
  · have := List.mem_singleton.mp h; omega
theorem tx_ch (g v s gr fd bk kp pe : Nat) : ∀ y ∈ txT g v s gr fd bk kp pe, y < 128 := fun y h => by
  unfold txT at h
  rcases List.mem_append.mp h with h | h
  · rcases List.mem_append.mp h with h | h
    · rcases List.mem_append.mp h with h | h
      · rcases List.mem_append.mp h with h | h
        · exact sg_ch _ y h
        · exact bf_ch _ _ _ _ y h
      · exact pt_ch _ y h
    · exact bh_ch _ _ _ y h
  · exact pc_ch _ y h
theorem shD_ch (v s : Nat) : ∀ k, ∀ y ∈ shD v s k, y < 128
  | 0, y, h => by cases h
  | k + 1, y, h => by
    have hd := dg10 v k
    by_cases c : k + 1 = s
    · rw [shD_y c] at h
      rcases List.mem_cons.mp h with h | h
      · omega
      · rcases List.mem_cons.mp h with h | h
        · omega
        · exact shD_ch v s k y h
    · rw [shD_n c] at h
      rcases List.mem_cons.mp h with h | h
      · omega
      · exact shD_ch v s k y h
theorem sh_ch (v s g : Nat) : ∀ y ∈ shT v s g, y < 128 := fun y h => by
  unfold shT at h
  rcases List.mem_append.mp h with h | h
  · exact sg_ch _ y h
  · exact shD_ch _ _ _ y h

