/-! the desk over its whole object -/
def kB (cL cC cB cR : ClassId) (ka : kA) (z : kS) : va_W := [(ka.k9, .inr (7, [.ref ka.q0, .ref ka.q1, .ref ka.q2, .ref ka.d, .ref ka.o, .ref ka.q5, .ref ka.e0, .ref ka.g0, .ref ka.t9])), (ka.q0, .inl (cR, 6, .inr (.inr (.inr (.inr ka.ra))))), (ka.q1, .inr (2, [.ref ka.ta, .int z.m1])), (ka.ta, .inl (cC, 40, .inl z.fx)), (ka.q2, .inr (2, [.ref ka.oa, .int z.m2])), (ka.oa, .inl (cC, 80, .inl z.fo)), (ka.d, .inr (1, [.ref ka.w, .int z.i1, .int z.i2, .int z.i3])), (ka.w, .inr (6, [.ref ka.wa])), (ka.wa, .inl (cL, 6, .inr (.inl z.f))), (ka.o, .inr (1, [.ref ka.x, .int z.i4, .int z.i5, .int z.i6])), (ka.x, .inr (6, [.ref ka.xa])), (ka.xa, .inl (cL, 6, .inr (.inl z.g))), (ka.q5, .inr (6, [.ref ka.fa])), (ka.fa, .inl (cL, 6, .inr (.inl z.h))), (ka.e0, .inr (3, [.ref ka.x1, .ref ka.x2, .ref ka.x3])), (ka.x1, .inr (6, [.ref ka.a1])), (ka.a1, .inl (cL, 6, .inr (.inl z.fd))), (ka.x2, .inr (6, [.ref ka.a2])), (ka.a2, .inl (cL, 6, .inr (.inl z.fq))), (ka.x3, .inr (6, [.ref ka.a3])), (ka.a3, .inl (cL, 6, .inr (.inl z.fr))), (ka.g0, .inr (0, [.ref ka.ga, .int z.n0])), (ka.ga, .inl (cB, 31, .inl z.rw)), (ka.t9, .inr (4, [.int z.h0, .int z.f0, .int z.c0, .int z.b0, .int z.l0, .int z.p0]))]
def kR (ka : kA) (C Sc Bl : Nat → Nat) (i : Nat) : Nat × va_E := (ka.r i, .inr (5, [.long (lN (C i % 18446744073709551616)), .int (nI (dg 4294967296 (C i) 2)), .int (nI (Sc i)), .int (nI (Bl i))]))
theorem kR_s (ka : kA) (C Sc Bl : Nat → Nat) (to v s g : Nat) : kR ka (upN C to v) (upN Sc to s) (upN Bl to g) to = (ka.r to, .inr (5, [.long (lN (v % 18446744073709551616)), .int (nI (dg 4294967296 v 2)), .int (nI s), .int (nI g)])) := by unfold kR; rw [upN_s, upN_s, upN_s]
theorem kR_n (ka : kA) (C Sc Bl : Nat → Nat) {to v s g i : Nat} (h : i ≠ to) : kR ka (upN C to v) (upN Sc to s) (upN Bl to g) i = kR ka C Sc Bl i := by unfold kR; rw [upN_n h, upN_n h, upN_n h]
set_option maxRecDepth 100000 in
theorem K_set (l : Launch) (D : va_G) (cI cL cC cB cZ cR : ClassId) (sz : Nat) (ka : kA) (z : kS) (C Sc Bl : Nat → Nat) (a lo hi s9 g9 : Nat) (hra : ∀ i, i < 6 → ka.ra i = some (ka.r i)) (ha6 : a < 6) (hl9 : lo < 18446744073709551616) (hh9 : hi < 4294967296) (hs9 : s9 ≤ 28) (hg9 : g9 ≤ 1) : Met l yX7_set wsX7_set rm_k_set (xPc D vwCl (tyAll cI cL cC cB cZ cR) [.ref ka.k9, .int (nI a), .long (lN lo), .int (nI hi), .int (nI s9), .int (nI g9)] (kB cL cC cB cR ka z ++ rgs (kR ka C Sc Bl)) sz) (va_Qv (fun u : kS => kK u z) (xB D vwCl (tyAll cI cL cC cB cZ cR) (va_A (kB cL cC cB cR ka z ++ rgs (kR ka C Sc Bl)) sz) (fun u : kS => kB cL cC cB cR ka u ++ rgs (kR ka (upN C a (lo + 18446744073709551616 * hi)) (upN Sc a s9) (upN Bl a (sgn g9 (lo + 18446744073709551616 * hi)))))) (va_A (kB cL cC cB cR ka z ++ rgs (kR ka C Sc Bl)) sz)) 0 0 (va_A (kB cL cC cB cR ka z ++ rgs (kR ka C Sc Bl)) sz) := by
  refine x_frv (it := [a]) (b := kB cL cC cB cR ka z) (R := kR ka C Sc Bl) (wo := (fun u : kS => kB cL cC cB cR ka u ++ [((ka.r a, .inr (5, [.long (lN ((lo + 18446744073709551616 * hi) % 18446744073709551616)), .int (nI (dg 4294967296 (lo + 18446744073709551616 * hi) 2)), .int (nI s9), .int (nI (sgn g9 (lo + 18446744073709551616 * hi)))])) : Nat × va_E)])) (B1 := fun u => kB cL cC cB cR ka u) (R1 := fun _ => kR ka (upN C a (lo + 18446744073709551616 * hi)) (upN Sc a s9) (upN Bl a (sgn g9 (lo + 18446744073709551616 * hi)))) ⟨?_, itI_1 a, fun u _ q hq => List.mem_append_left _ hq, fun u _ => rfl, fun u _ i hmem => ?_, fun u _ i _ hmem => ?_, fun u _ i _ => rfl⟩ (k_set l D cI cL cC cB cZ cR sz ka z (ka.r a) (lN (C a % 18446744073709551616)) (nI (dg 4294967296 (C a) 2)) (nI (Sc a)) (nI (Bl a)) a lo hi s9 g9 ha6 (hra a ha6) hl9 hh9 hs9 hg9)
  · intro i hmem
    simp only [List.mem_cons, List.not_mem_nil, or_false] at hmem
    rcases hmem with rfl <;> assumption
  · simp only [List.mem_cons, List.not_mem_nil, or_false] at hmem
    have h9 := hmem
    · rw [h9]; show kR ka (upN C a (lo + 18446744073709551616 * hi)) (upN Sc a s9) (upN Bl a (sgn g9 (lo + 18446744073709551616 * hi))) a ∈ _; rw [kR_s]; exact List.mem_append_right _ (List.mem_cons_self)
  · show kR ka (upN C a (lo + 18446744073709551616 * hi)) (upN Sc a s9) (upN Bl a (sgn g9 (lo + 18446744073709551616 * hi))) i = _; exact kR_n ka C Sc Bl (fun e => hmem (by rw [e]; simp))
set_option maxRecDepth 100000 in
theorem K_low (l : Launch) (D : va_G) (cI cL cC cB cZ cR : ClassId) (sz : Nat) (ka : kA) (z : kS) (C Sc Bl : Nat → Nat) (a : Nat) (hra : ∀ i, i < 6 → ka.ra i = some (ka.r i)) (ha6 : a < 6) (hB : Bl a ≤ 1) : Met l yX7_low wsX7_low rm_k_low (xPc D vwCl (tyAll cI cL cC cB cZ cR) [.ref ka.k9, .int (nI a)] (kB cL cC cB cR ka z ++ rgs (kR ka C Sc Bl)) sz) (va_Ql (fun (y : Int64) (u : kS) => y = lN ((C a) % 18446744073709551616) ∧ kK u z) (xB D vwCl (tyAll cI cL cC cB cZ cR) (va_A (kB cL cC cB cR ka z ++ rgs (kR ka C Sc Bl)) sz) (fun u : kS => kB cL cC cB cR ka u ++ rgs (kR ka C Sc Bl))) (va_A (kB cL cC cB cR ka z ++ rgs (kR ka C Sc Bl)) sz)) 0 0 (va_A (kB cL cC cB cR ka z ++ rgs (kR ka C Sc Bl)) sz) := by
  refine x_frl (pq := fun _ => True) (fun _ _ _ => trivial) (it := [a]) (b := kB cL cC cB cR ka z) (R := kR ka C Sc Bl) (wo := (fun u : kS => kB cL cC cB cR ka u ++ [kR ka C Sc Bl a])) (B1 := fun u => kB cL cC cB cR ka u) (R1 := fun _ => kR ka C Sc Bl) ⟨?_, itI_1 a, fun u _ q hq => List.mem_append_left _ hq, fun u _ => rfl, fun u _ i hmem => ?_, fun u _ i _ hmem => ?_, fun u _ i _ => rfl⟩ (k_low l D cI cL cC cB cZ cR sz ka z (ka.r a) (C a) (Sc a) (Bl a) a ha6 (hra a ha6) hB)
  · intro i hmem
    simp only [List.mem_cons, List.not_mem_nil, or_false] at hmem
    rcases hmem with rfl <;> assumption
  · simp only [List.mem_cons, List.not_mem_nil, or_false] at hmem
    have h9 := hmem
    · rw [h9]; exact List.mem_append_right _ (List.mem_cons_self)
  · rfl
set_option maxRecDepth 100000 in
theorem K_low_bad (l : Launch) (D : va_G) (cI cL cC cB cZ cR : ClassId) (sz : Nat) (ka : kA) (z : kS) (C Sc Bl : Nat → Nat) (i : Int32) (hra : ∀ i, i < 6 → ka.ra i = some (ka.r i)) (hbad : inR 6 i = 0) : Met l yX7_low wsX7_low rm_k_low_bad (xPc D vwCl (tyAll cI cL cC cB cZ cR) [.ref ka.k9, .int i] (kB cL cC cB cR ka z ++ rgs (kR ka C Sc Bl)) sz) (va_Ql (fun (y : Int64) (u : kS) => y = lN 0 ∧ kK u z) (xB D vwCl (tyAll cI cL cC cB cZ cR) (va_A (kB cL cC cB cR ka z ++ rgs (kR ka C Sc Bl)) sz) (fun u : kS => kB cL cC cB cR ka u ++ rgs (kR ka C Sc Bl))) (va_A (kB cL cC cB cR ka z ++ rgs (kR ka C Sc Bl)) sz)) 0 0 (va_A (kB cL cC cB cR ka z ++ rgs (kR ka C Sc Bl)) sz) := by
  refine x_frl (pq := fun _ => True) (fun _ _ _ => trivial) (it := []) (b := kB cL cC cB cR ka z) (R := kR ka C Sc Bl) (wo := (fun u : kS => kB cL cC cB cR ka u ++ [])) (B1 := fun u => kB cL cC cB cR ka u) (R1 := fun _ => kR ka C Sc Bl) ⟨?_, itI_0, fun u _ q hq => List.mem_append_left _ hq, fun u _ => rfl, fun u _ i hmem => ?_, fun u _ i _ hmem => ?_, fun u _ i _ => rfl⟩ (k_low_bad l D cI cL cC cB cZ cR sz ka z i hbad)
  · intro i hmem
    cases hmem
  · cases hmem
  · rfl
set_option maxRecDepth 100000 in
theorem K_high (l : Launch) (D : va_G) (cI cL cC cB cZ cR : ClassId) (sz : Nat) (ka : kA) (z : kS) (C Sc Bl : Nat → Nat) (a : Nat) (hra : ∀ i, i < 6 → ka.ra i = some (ka.r i)) (ha6 : a < 6) (hB : Bl a ≤ 1) : Met l yX7_high wsX7_high rm_k_high (xPc D vwCl (tyAll cI cL cC cB cZ cR) [.ref ka.k9, .int (nI a)] (kB cL cC cB cR ka z ++ rgs (kR ka C Sc Bl)) sz) (va_Qi (fun (y : Int32) (u : kS) => y = nI (dg 4294967296 (C a) 2) ∧ kK u z) (xB D vwCl (tyAll cI cL cC cB cZ cR) (va_A (kB cL cC cB cR ka z ++ rgs (kR ka C Sc Bl)) sz) (fun u : kS => kB cL cC cB cR ka u ++ rgs (kR ka C Sc Bl))) (va_A (kB cL cC cB cR ka z ++ rgs (kR ka C Sc Bl)) sz)) 0 0 (va_A (kB cL cC cB cR ka z ++ rgs (kR ka C Sc Bl)) sz) := by
  refine x_fri (pq := fun _ => True) (fun _ _ _ => trivial) (it := [a]) (b := kB cL cC cB cR ka z) (R := kR ka C Sc Bl) (wo := (fun u : kS => kB cL cC cB cR ka u ++ [kR ka C Sc Bl a])) (B1 := fun u => kB cL cC cB cR ka u) (R1 := fun _ => kR ka C Sc Bl) ⟨?_, itI_1 a, fun u _ q hq => List.mem_append_left _ hq, fun u _ => rfl, fun u _ i hmem => ?_, fun u _ i _ hmem => ?_, fun u _ i _ => rfl⟩ (k_high l D cI cL cC cB cZ cR sz ka z (ka.r a) (C a) (Sc a) (Bl a) a ha6 (hra a ha6) hB)
  · intro i hmem
    simp only [List.mem_cons, List.not_mem_nil, or_false] at hmem
    rcases hmem with rfl <;> assumption
  · simp only [List.mem_cons, List.not_mem_nil, or_false] at hmem
    have h9 := hmem
    · rw [h9]; exact List.mem_append_right _ (List.mem_cons_self)
  · rfl
set_option maxRecDepth 100000 in
theorem K_high_bad (l : Launch) (D : va_G) (cI cL cC cB cZ cR : ClassId) (sz : Nat) (ka : kA) (z : kS) (C Sc Bl : Nat → Nat) (i : Int32) (hra : ∀ i, i < 6 → ka.ra i = some (ka.r i)) (hbad : inR 6 i = 0) : Met l yX7_high wsX7_high rm_k_high_bad (xPc D vwCl (tyAll cI cL cC cB cZ cR) [.ref ka.k9, .int i] (kB cL cC cB cR ka z ++ rgs (kR ka C Sc Bl)) sz) (va_Qi (fun (y : Int32) (u : kS) => y = nI 0 ∧ kK u z) (xB D vwCl (tyAll cI cL cC cB cZ cR) (va_A (kB cL cC cB cR ka z ++ rgs (kR ka C Sc Bl)) sz) (fun u : kS => kB cL cC cB cR ka u ++ rgs (kR ka C Sc Bl))) (va_A (kB cL cC cB cR ka z ++ rgs (kR ka C Sc Bl)) sz)) 0 0 (va_A (kB cL cC cB cR ka z ++ rgs (kR ka C Sc Bl)) sz) := by
  refine x_fri (pq := fun _ => True) (fun _ _ _ => trivial) (it := []) (b := kB cL cC cB cR ka z) (R := kR ka C Sc Bl) (wo := (fun u : kS => kB cL cC cB cR ka u ++ [])) (B1 := fun u => kB cL cC cB cR ka u) (R1 := fun _ => kR ka C Sc Bl) ⟨?_, itI_0, fun u _ q hq => List.mem_append_left _ hq, fun u _ => rfl, fun u _ i hmem => ?_, fun u _ i _ hmem => ?_, fun u _ i _ => rfl⟩ (k_high_bad l D cI cL cC cB cZ cR sz ka z i hbad)
  · intro i hmem
    cases hmem
  · cases hmem
  · rfl
set_option maxRecDepth 100000 in
theorem K_scale (l : Launch) (D : va_G) (cI cL cC cB cZ cR : ClassId) (sz : Nat) (ka : kA) (z : kS) (C Sc Bl : Nat → Nat) (a : Nat) (hra : ∀ i, i < 6 → ka.ra i = some (ka.r i)) (ha6 : a < 6) (hB : Bl a ≤ 1) : Met l yX7_scale wsX7_scale rm_k_scale (xPc D vwCl (tyAll cI cL cC cB cZ cR) [.ref ka.k9, .int (nI a)] (kB cL cC cB cR ka z ++ rgs (kR ka C Sc Bl)) sz) (va_Qi (fun (y : Int32) (u : kS) => y = nI (Sc a) ∧ kK u z) (xB D vwCl (tyAll cI cL cC cB cZ cR) (va_A (kB cL cC cB cR ka z ++ rgs (kR ka C Sc Bl)) sz) (fun u : kS => kB cL cC cB cR ka u ++ rgs (kR ka C Sc Bl))) (va_A (kB cL cC cB cR ka z ++ rgs (kR ka C Sc Bl)) sz)) 0 0 (va_A (kB cL cC cB cR ka z ++ rgs (kR ka C Sc Bl)) sz) := by
  refine x_fri (pq := fun _ => True) (fun _ _ _ => trivial) (it := [a]) (b := kB cL cC cB cR ka z) (R := kR ka C Sc Bl) (wo := (fun u : kS => kB cL cC cB cR ka u ++ [kR ka C Sc Bl a])) (B1 := fun u => kB cL cC cB cR ka u) (R1 := fun _ => kR ka C Sc Bl) ⟨?_, itI_1 a, fun u _ q hq => List.mem_append_left _ hq, fun u _ => rfl, fun u _ i hmem => ?_, fun u _ i _ hmem => ?_, fun u _ i _ => rfl⟩ (k_scale l D cI cL cC cB cZ cR sz ka z (ka.r a) (C a) (Sc a) (Bl a) a ha6 (hra a ha6) hB)
  · intro i hmem
    simp only [List.mem_cons, List.not_mem_nil, or_false] at hmem
    rcases hmem with rfl <;> assumption
  · simp only [List.mem_cons, List.not_mem_nil, or_false] at hmem
    have h9 := hmem
    · rw [h9]; exact List.mem_append_right _ (List.mem_cons_self)
  · rfl
set_option maxRecDepth 100000 in
theorem K_scale_bad (l : Launch) (D : va_G) (cI cL cC cB cZ cR : ClassId) (sz : Nat) (ka : kA) (z : kS) (C Sc Bl : Nat → Nat) (i : Int32) (hra : ∀ i, i < 6 → ka.ra i = some (ka.r i)) (hbad : inR 6 i = 0) : Met l yX7_scale wsX7_scale rm_k_scale_bad (xPc D vwCl (tyAll cI cL cC cB cZ cR) [.ref ka.k9, .int i] (kB cL cC cB cR ka z ++ rgs (kR ka C Sc Bl)) sz) (va_Qi (fun (y : Int32) (u : kS) => y = -1 ∧ kK u z) (xB D vwCl (tyAll cI cL cC cB cZ cR) (va_A (kB cL cC cB cR ka z ++ rgs (kR ka C Sc Bl)) sz) (fun u : kS => kB cL cC cB cR ka u ++ rgs (kR ka C Sc Bl))) (va_A (kB cL cC cB cR ka z ++ rgs (kR ka C Sc Bl)) sz)) 0 0 (va_A (kB cL cC cB cR ka z ++ rgs (kR ka C Sc Bl)) sz) := by
  refine x_fri (pq := fun _ => True) (fun _ _ _ => trivial) (it := []) (b := kB cL cC cB cR ka z) (R := kR ka C Sc Bl) (wo := (fun u : kS => kB cL cC cB cR ka u ++ [])) (B1 := fun u => kB cL cC cB cR ka u) (R1 := fun _ => kR ka C Sc Bl) ⟨?_, itI_0, fun u _ q hq => List.mem_append_left _ hq, fun u _ => rfl, fun u _ i hmem => ?_, fun u _ i _ hmem => ?_, fun u _ i _ => rfl⟩ (k_scale_bad l D cI cL cC cB cZ cR sz ka z i hbad)
  · intro i hmem
    cases hmem
  · cases hmem
  · rfl
set_option maxRecDepth 100000 in
theorem K_neg (l : Launch) (D : va_G) (cI cL cC cB cZ cR : ClassId) (sz : Nat) (ka : kA) (z : kS) (C Sc Bl : Nat → Nat) (a : Nat) (hra : ∀ i, i < 6 → ka.ra i = some (ka.r i)) (ha6 : a < 6) (hB : Bl a ≤ 1) : Met l yX7_negative wsX7_negative rm_k_neg (xPc D vwCl (tyAll cI cL cC cB cZ cR) [.ref ka.k9, .int (nI a)] (kB cL cC cB cR ka z ++ rgs (kR ka C Sc Bl)) sz) (va_Qi (fun (y : Int32) (u : kS) => y = nI (Bl a) ∧ kK u z) (xB D vwCl (tyAll cI cL cC cB cZ cR) (va_A (kB cL cC cB cR ka z ++ rgs (kR ka C Sc Bl)) sz) (fun u : kS => kB cL cC cB cR ka u ++ rgs (kR ka C Sc Bl))) (va_A (kB cL cC cB cR ka z ++ rgs (kR ka C Sc Bl)) sz)) 0 0 (va_A (kB cL cC cB cR ka z ++ rgs (kR ka C Sc Bl)) sz) := by
  refine x_fri (pq := fun _ => True) (fun _ _ _ => trivial) (it := [a]) (b := kB cL cC cB cR ka z) (R := kR ka C Sc Bl) (wo := (fun u : kS => kB cL cC cB cR ka u ++ [kR ka C Sc Bl a])) (B1 := fun u => kB cL cC cB cR ka u) (R1 := fun _ => kR ka C Sc Bl) ⟨?_, itI_1 a, fun u _ q hq => List.mem_append_left _ hq, fun u _ => rfl, fun u _ i hmem => ?_, fun u _ i _ hmem => ?_, fun u _ i _ => rfl⟩ (k_neg l D cI cL cC cB cZ cR sz ka z (ka.r a) (C a) (Sc a) (Bl a) a ha6 (hra a ha6) hB)
  · intro i hmem
    simp only [List.mem_cons, List.not_mem_nil, or_false] at hmem
    rcases hmem with rfl <;> assumption
  · simp only [List.mem_cons, List.not_mem_nil, or_false] at hmem
    have h9 := hmem
    · rw [h9]; exact List.mem_append_right _ (List.mem_cons_self)
  · rfl
set_option maxRecDepth 100000 in
theorem K_neg_bad (l : Launch) (D : va_G) (cI cL cC cB cZ cR : ClassId) (sz : Nat) (ka : kA) (z : kS) (C Sc Bl : Nat → Nat) (i : Int32) (hra : ∀ i, i < 6 → ka.ra i = some (ka.r i)) (hbad : inR 6 i = 0) : Met l yX7_negative wsX7_negative rm_k_neg_bad (xPc D vwCl (tyAll cI cL cC cB cZ cR) [.ref ka.k9, .int i] (kB cL cC cB cR ka z ++ rgs (kR ka C Sc Bl)) sz) (va_Qi (fun (y : Int32) (u : kS) => y = nI 0 ∧ kK u z) (xB D vwCl (tyAll cI cL cC cB cZ cR) (va_A (kB cL cC cB cR ka z ++ rgs (kR ka C Sc Bl)) sz) (fun u : kS => kB cL cC cB cR ka u ++ rgs (kR ka C Sc Bl))) (va_A (kB cL cC cB cR ka z ++ rgs (kR ka C Sc Bl)) sz)) 0 0 (va_A (kB cL cC cB cR ka z ++ rgs (kR ka C Sc Bl)) sz) := by
  refine x_fri (pq := fun _ => True) (fun _ _ _ => trivial) (it := []) (b := kB cL cC cB cR ka z) (R := kR ka C Sc Bl) (wo := (fun u : kS => kB cL cC cB cR ka u ++ [])) (B1 := fun u => kB cL cC cB cR ka u) (R1 := fun _ => kR ka C Sc Bl) ⟨?_, itI_0, fun u _ q hq => List.mem_append_left _ hq, fun u _ => rfl, fun u _ i hmem => ?_, fun u _ i _ hmem => ?_, fun u _ i _ => rfl⟩ (k_neg_bad l D cI cL cC cB cZ cR sz ka z i hbad)
  · intro i hmem
    cases hmem
  · cases hmem
  · rfl
set_option maxRecDepth 100000 in
theorem K_compute (l : Launch) (D : va_G) (cI cL cC cB cZ cR : ClassId) (sz : Nat) (ka : kA) (z : kS) (C Sc Bl : Nat → Nat) (op to a b q s3 g3 : Nat) (hra : ∀ i, i < 6 → ka.ra i = some (ka.r i)) (hok : mOk C Sc Bl) (hop : op ≤ 4) (ha6 : a < 6) (hb6 : b < 6) (hto : to < 6) (ho : opR op (C a) (Sc a) (Bl a) (C b) (Sc b) (Bl b) = some (q, s3, g3)) : Met l yX7_compute wsX7_compute rm_k_compute (xPc D vwCl (tyAll cI cL cC cB cZ cR) [.ref ka.k9, .int (nI op), .int (nI to), .int (nI a), .int (nI b)] (kB cL cC cB cR ka z ++ rgs (kR ka C Sc Bl)) sz) (va_Qv (fun u : kS => kK u z) (xB D vwCl (tyAll cI cL cC cB cZ cR) (va_A (kB cL cC cB cR ka z ++ rgs (kR ka C Sc Bl)) sz) (fun u : kS => kB cL cC cB cR ka u ++ rgs (kR ka (upN C to q) (upN Sc to s3) (upN Bl to (sgn g3 q))))) (va_A (kB cL cC cB cR ka z ++ rgs (kR ka C Sc Bl)) sz)) 0 0 (va_A (kB cL cC cB cR ka z ++ rgs (kR ka C Sc Bl)) sz) := by
  by_cases hab : a = b
  · subst hab
    by_cases hta : to = a
    · subst hta
      refine x_frv (it := [to]) (b := kB cL cC cB cR ka z) (R := kR ka C Sc Bl) (wo := (fun u : kS => kB cL cC cB cR ka u ++ [((ka.r to, .inr (5, [.long (lN (q % 18446744073709551616)), .int (nI (dg 4294967296 q 2)), .int (nI s3), .int (nI (sgn g3 q))])) : Nat × va_E)])) (B1 := fun u => kB cL cC cB cR ka u) (R1 := fun _ => kR ka (upN C to q) (upN Sc to s3) (upN Bl to (sgn g3 q))) ⟨?_, itI_1 to, fun u _ q hq => List.mem_append_left _ hq, fun u _ => rfl, fun u _ i hmem => ?_, fun u _ i _ hmem => ?_, fun u _ i _ => rfl⟩ (k_compute_z l D cI cL cC cB cZ cR sz ka z (ka.r to) (C to) (Sc to) (Bl to) op to to to q s3 g3 (hok to ha6).1 (hok to ha6).2.1 (hok to ha6).2.2 hop ha6 ha6 hto (hra to ha6) (hra to ha6) (hra to hto) ho)
      · intro i hmem
        simp only [List.mem_cons, List.not_mem_nil, or_false] at hmem
        rcases hmem with rfl <;> assumption
      · simp only [List.mem_cons, List.not_mem_nil, or_false] at hmem
        have h9 := hmem
        · rw [h9]; show kR ka (upN C to q) (upN Sc to s3) (upN Bl to (sgn g3 q)) to ∈ _; rw [kR_s]; exact List.mem_append_right _ (List.mem_cons_self)
      · show kR ka (upN C to q) (upN Sc to s3) (upN Bl to (sgn g3 q)) i = _; exact kR_n ka C Sc Bl (fun e => hmem (by rw [e]; simp))
    · skip
      refine x_frv (it := [a, to]) (b := kB cL cC cB cR ka z) (R := kR ka C Sc Bl) (wo := (fun u : kS => kB cL cC cB cR ka u ++ [kR ka C Sc Bl a, ((ka.r to, .inr (5, [.long (lN (q % 18446744073709551616)), .int (nI (dg 4294967296 q 2)), .int (nI s3), .int (nI (sgn g3 q))])) : Nat × va_E)])) (B1 := fun u => kB cL cC cB cR ka u) (R1 := fun _ => kR ka (upN C to q) (upN Sc to s3) (upN Bl to (sgn g3 q))) ⟨?_, itI_2 (Ne.symm hta), fun u _ q hq => List.mem_append_left _ hq, fun u _ => rfl, fun u _ i hmem => ?_, fun u _ i _ hmem => ?_, fun u _ i _ => rfl⟩ (k_compute_s l D cI cL cC cB cZ cR sz ka z (ka.r a) (C a) (Sc a) (Bl a) (ka.r to) (lN (C to % 18446744073709551616)) (nI (dg 4294967296 (C to) 2)) (nI (Sc to)) (nI (Bl to)) op to a a q s3 g3 (hok a ha6).1 (hok a ha6).2.1 (hok a ha6).2.2 hop ha6 ha6 hto (hra a ha6) (hra a ha6) (hra to hto) ho)
      · intro i hmem
        simp only [List.mem_cons, List.not_mem_nil, or_false] at hmem
        rcases hmem with rfl | rfl <;> assumption
      · simp only [List.mem_cons, List.not_mem_nil, or_false] at hmem
        rcases hmem with h9 | h9
        · rw [h9]; show kR ka (upN C to q) (upN Sc to s3) (upN Bl to (sgn g3 q)) a ∈ _; rw [kR_n ka C Sc Bl (Ne.symm hta)]; exact List.mem_append_right _ (List.mem_cons_self)
        · rw [h9]; show kR ka (upN C to q) (upN Sc to s3) (upN Bl to (sgn g3 q)) to ∈ _; rw [kR_s]; exact List.mem_append_right _ (List.mem_cons_of_mem _ (List.mem_cons_self))
      · show kR ka (upN C to q) (upN Sc to s3) (upN Bl to (sgn g3 q)) i = _; exact kR_n ka C Sc Bl (fun e => hmem (by rw [e]; simp))
  · by_cases hta : to = a
    · subst hta
      refine x_frv (it := [to, b]) (b := kB cL cC cB cR ka z) (R := kR ka C Sc Bl) (wo := (fun u : kS => kB cL cC cB cR ka u ++ [((ka.r to, .inr (5, [.long (lN (q % 18446744073709551616)), .int (nI (dg 4294967296 q 2)), .int (nI s3), .int (nI (sgn g3 q))])) : Nat × va_E), kR ka C Sc Bl b])) (B1 := fun u => kB cL cC cB cR ka u) (R1 := fun _ => kR ka (upN C to q) (upN Sc to s3) (upN Bl to (sgn g3 q))) ⟨?_, itI_2 hab, fun u _ q hq => List.mem_append_left _ hq, fun u _ => rfl, fun u _ i hmem => ?_, fun u _ i _ hmem => ?_, fun u _ i _ => rfl⟩ (k_compute_a l D cI cL cC cB cZ cR sz ka z (ka.r to) (C to) (Sc to) (Bl to) (ka.r b) (C b) (Sc b) (Bl b) op to to b q s3 g3 (hok to ha6).1 (hok to ha6).2.1 (hok to ha6).2.2 (hok b hb6).1 (hok b hb6).2.1 (hok b hb6).2.2 hop ha6 hb6 hto (hra to ha6) (hra b hb6) (hra to hto) ho)
      · intro i hmem
        simp only [List.mem_cons, List.not_mem_nil, or_false] at hmem
        rcases hmem with rfl | rfl <;> assumption
      · simp only [List.mem_cons, List.not_mem_nil, or_false] at hmem
        rcases hmem with h9 | h9
        · rw [h9]; show kR ka (upN C to q) (upN Sc to s3) (upN Bl to (sgn g3 q)) to ∈ _; rw [kR_s]; exact List.mem_append_right _ (List.mem_cons_self)
        · rw [h9]; show kR ka (upN C to q) (upN Sc to s3) (upN Bl to (sgn g3 q)) b ∈ _; rw [kR_n ka C Sc Bl (Ne.symm hab)]; exact List.mem_append_right _ (List.mem_cons_of_mem _ (List.mem_cons_self))
      · show kR ka (upN C to q) (upN Sc to s3) (upN Bl to (sgn g3 q)) i = _; exact kR_n ka C Sc Bl (fun e => hmem (by rw [e]; simp))
    · by_cases htb : to = b
      · subst htb
        refine x_frv (it := [a, to]) (b := kB cL cC cB cR ka z) (R := kR ka C Sc Bl) (wo := (fun u : kS => kB cL cC cB cR ka u ++ [kR ka C Sc Bl a, ((ka.r to, .inr (5, [.long (lN (q % 18446744073709551616)), .int (nI (dg 4294967296 q 2)), .int (nI s3), .int (nI (sgn g3 q))])) : Nat × va_E)])) (B1 := fun u => kB cL cC cB cR ka u) (R1 := fun _ => kR ka (upN C to q) (upN Sc to s3) (upN Bl to (sgn g3 q))) ⟨?_, itI_2 hab, fun u _ q hq => List.mem_append_left _ hq, fun u _ => rfl, fun u _ i hmem => ?_, fun u _ i _ hmem => ?_, fun u _ i _ => rfl⟩ (k_compute_b l D cI cL cC cB cZ cR sz ka z (ka.r a) (C a) (Sc a) (Bl a) (ka.r to) (C to) (Sc to) (Bl to) op to a to q s3 g3 (hok a ha6).1 (hok a ha6).2.1 (hok a ha6).2.2 (hok to hb6).1 (hok to hb6).2.1 (hok to hb6).2.2 hop ha6 hb6 hto (hra a ha6) (hra to hb6) (hra to hto) ho)
        · intro i hmem
          simp only [List.mem_cons, List.not_mem_nil, or_false] at hmem
          rcases hmem with rfl | rfl <;> assumption
        · simp only [List.mem_cons, List.not_mem_nil, or_false] at hmem
          rcases hmem with h9 | h9
          · rw [h9]; show kR ka (upN C to q) (upN Sc to s3) (upN Bl to (sgn g3 q)) a ∈ _; rw [kR_n ka C Sc Bl hab]; exact List.mem_append_right _ (List.mem_cons_self)
          · rw [h9]; show kR ka (upN C to q) (upN Sc to s3) (upN Bl to (sgn g3 q)) to ∈ _; rw [kR_s]; exact List.mem_append_right _ (List.mem_cons_of_mem _ (List.mem_cons_self))
        · show kR ka (upN C to q) (upN Sc to s3) (upN Bl to (sgn g3 q)) i = _; exact kR_n ka C Sc Bl (fun e => hmem (by rw [e]; simp))
      · skip
        refine x_frv (it := [a, b, to]) (b := kB cL cC cB cR ka z) (R := kR ka C Sc Bl) (wo := (fun u : kS => kB cL cC cB cR ka u ++ [kR ka C Sc Bl a, kR ka C Sc Bl b, ((ka.r to, .inr (5, [.long (lN (q % 18446744073709551616)), .int (nI (dg 4294967296 q 2)), .int (nI s3), .int (nI (sgn g3 q))])) : Nat × va_E)])) (B1 := fun u => kB cL cC cB cR ka u) (R1 := fun _ => kR ka (upN C to q) (upN Sc to s3) (upN Bl to (sgn g3 q))) ⟨?_, itI_3 hab (Ne.symm hta) (Ne.symm htb), fun u _ q hq => List.mem_append_left _ hq, fun u _ => rfl, fun u _ i hmem => ?_, fun u _ i _ hmem => ?_, fun u _ i _ => rfl⟩ (k_compute l D cI cL cC cB cZ cR sz ka z (ka.r a) (C a) (Sc a) (Bl a) (ka.r b) (C b) (Sc b) (Bl b) (ka.r to) (lN (C to % 18446744073709551616)) (nI (dg 4294967296 (C to) 2)) (nI (Sc to)) (nI (Bl to)) op to a b q s3 g3 (hok a ha6).1 (hok a ha6).2.1 (hok a ha6).2.2 (hok b hb6).1 (hok b hb6).2.1 (hok b hb6).2.2 hop ha6 hb6 hto (hra a ha6) (hra b hb6) (hra to hto) ho)
        · intro i hmem
          simp only [List.mem_cons, List.not_mem_nil, or_false] at hmem
          rcases hmem with rfl | rfl | rfl <;> assumption
        · simp only [List.mem_cons, List.not_mem_nil, or_false] at hmem
          rcases hmem with h9 | h9 | h9
          · rw [h9]; show kR ka (upN C to q) (upN Sc to s3) (upN Bl to (sgn g3 q)) a ∈ _; rw [kR_n ka C Sc Bl (Ne.symm hta)]; exact List.mem_append_right _ (List.mem_cons_self)
          · rw [h9]; show kR ka (upN C to q) (upN Sc to s3) (upN Bl to (sgn g3 q)) b ∈ _; rw [kR_n ka C Sc Bl (Ne.symm htb)]; exact List.mem_append_right _ (List.mem_cons_of_mem _ (List.mem_cons_self))
          · rw [h9]; show kR ka (upN C to q) (upN Sc to s3) (upN Bl to (sgn g3 q)) to ∈ _; rw [kR_s]; exact List.mem_append_right _ (List.mem_cons_of_mem _ (List.mem_cons_of_mem _ (List.mem_cons_self)))
        · show kR ka (upN C to q) (upN Sc to s3) (upN Bl to (sgn g3 q)) i = _; exact kR_n ka C Sc Bl (fun e => hmem (by rw [e]; simp))
set_option maxRecDepth 100000 in
theorem K_attempt (l : Launch) (D : va_G) (cI cL cC cB cZ cR : ClassId) (sz : Nat) (ka : kA) (z : kS) (C Sc Bl : Nat → Nat) (op to a b q s3 g3 : Nat) (hra : ∀ i, i < 6 → ka.ra i = some (ka.r i)) (hok : mOk C Sc Bl) (hop : op ≤ 4) (ha6 : a < 6) (hb6 : b < 6) (hto : to < 6) (ho : opR op (C a) (Sc a) (Bl a) (C b) (Sc b) (Bl b) = some (q, s3, g3)) : Met l yX7_attempt wsX7_attempt rm_k_attempt (xPc D vwCl (tyAll cI cL cC cB cZ cR) [.ref ka.k9, .int (nI op), .int (nI to), .int (nI a), .int (nI b)] (kB cL cC cB cR ka z ++ rgs (kR ka C Sc Bl)) sz) (va_Qi (fun (y : Int32) (u : kS) => y = nI 1 ∧ kK u z) (xB D vwCl (tyAll cI cL cC cB cZ cR) (va_A (kB cL cC cB cR ka z ++ rgs (kR ka C Sc Bl)) sz) (fun u : kS => kB cL cC cB cR ka u ++ rgs (kR ka (upN C to q) (upN Sc to s3) (upN Bl to (sgn g3 q))))) (va_A (kB cL cC cB cR ka z ++ rgs (kR ka C Sc Bl)) sz)) 0 0 (va_A (kB cL cC cB cR ka z ++ rgs (kR ka C Sc Bl)) sz) := by
  by_cases hab : a = b
  · subst hab
    by_cases hta : to = a
    · subst hta
      refine x_fri (pq := fun _ => True) (fun _ _ _ => trivial) (it := [to]) (b := kB cL cC cB cR ka z) (R := kR ka C Sc Bl) (wo := (fun u : kS => kB cL cC cB cR ka u ++ [((ka.r to, .inr (5, [.long (lN (q % 18446744073709551616)), .int (nI (dg 4294967296 q 2)), .int (nI s3), .int (nI (sgn g3 q))])) : Nat × va_E)])) (B1 := fun u => kB cL cC cB cR ka u) (R1 := fun _ => kR ka (upN C to q) (upN Sc to s3) (upN Bl to (sgn g3 q))) ⟨?_, itI_1 to, fun u _ q hq => List.mem_append_left _ hq, fun u _ => rfl, fun u _ i hmem => ?_, fun u _ i _ hmem => ?_, fun u _ i _ => rfl⟩ (k_attempt_z l D cI cL cC cB cZ cR sz ka z (ka.r to) (C to) (Sc to) (Bl to) op to to to q s3 g3 (hok to ha6).1 (hok to ha6).2.1 (hok to ha6).2.2 hop ha6 ha6 hto (hra to ha6) (hra to ha6) (hra to hto) ho)
      · intro i hmem
        simp only [List.mem_cons, List.not_mem_nil, or_false] at hmem
        rcases hmem with rfl <;> assumption
      · simp only [List.mem_cons, List.not_mem_nil, or_false] at hmem
        have h9 := hmem
        · rw [h9]; show kR ka (upN C to q) (upN Sc to s3) (upN Bl to (sgn g3 q)) to ∈ _; rw [kR_s]; exact List.mem_append_right _ (List.mem_cons_self)
      · show kR ka (upN C to q) (upN Sc to s3) (upN Bl to (sgn g3 q)) i = _; exact kR_n ka C Sc Bl (fun e => hmem (by rw [e]; simp))
    · skip
      refine x_fri (pq := fun _ => True) (fun _ _ _ => trivial) (it := [a, to]) (b := kB cL cC cB cR ka z) (R := kR ka C Sc Bl) (wo := (fun u : kS => kB cL cC cB cR ka u ++ [kR ka C Sc Bl a, ((ka.r to, .inr (5, [.long (lN (q % 18446744073709551616)), .int (nI (dg 4294967296 q 2)), .int (nI s3), .int (nI (sgn g3 q))])) : Nat × va_E)])) (B1 := fun u => kB cL cC cB cR ka u) (R1 := fun _ => kR ka (upN C to q) (upN Sc to s3) (upN Bl to (sgn g3 q))) ⟨?_, itI_2 (Ne.symm hta), fun u _ q hq => List.mem_append_left _ hq, fun u _ => rfl, fun u _ i hmem => ?_, fun u _ i _ hmem => ?_, fun u _ i _ => rfl⟩ (k_attempt_s l D cI cL cC cB cZ cR sz ka z (ka.r a) (C a) (Sc a) (Bl a) (ka.r to) (lN (C to % 18446744073709551616)) (nI (dg 4294967296 (C to) 2)) (nI (Sc to)) (nI (Bl to)) op to a a q s3 g3 (hok a ha6).1 (hok a ha6).2.1 (hok a ha6).2.2 hop ha6 ha6 hto (hra a ha6) (hra a ha6) (hra to hto) ho)
      · intro i hmem
        simp only [List.mem_cons, List.not_mem_nil, or_false] at hmem
        rcases hmem with rfl | rfl <;> assumption
      · simp only [List.mem_cons, List.not_mem_nil, or_false] at hmem
        rcases hmem with h9 | h9
        · rw [h9]; show kR ka (upN C to q) (upN Sc to s3) (upN Bl to (sgn g3 q)) a ∈ _; rw [kR_n ka C Sc Bl (Ne.symm hta)]; exact List.mem_append_right _ (List.mem_cons_self)
        · rw [h9]; show kR ka (upN C to q) (upN Sc to s3) (upN Bl to (sgn g3 q)) to ∈ _; rw [kR_s]; exact List.mem_append_right _ (List.mem_cons_of_mem _ (List.mem_cons_self))
      · show kR ka (upN C to q) (upN Sc to s3) (upN Bl to (sgn g3 q)) i = _; exact kR_n ka C Sc Bl (fun e => hmem (by rw [e]; simp))
  · by_cases hta : to = a
    · subst hta
      refine x_fri (pq := fun _ => True) (fun _ _ _ => trivial) (it := [to, b]) (b := kB cL cC cB cR ka z) (R := kR ka C Sc Bl) (wo := (fun u : kS => kB cL cC cB cR ka u ++ [((ka.r to, .inr (5, [.long (lN (q % 18446744073709551616)), .int (nI (dg 4294967296 q 2)), .int (nI s3), .int (nI (sgn g3 q))])) : Nat × va_E), kR ka C Sc Bl b])) (B1 := fun u => kB cL cC cB cR ka u) (R1 := fun _ => kR ka (upN C to q) (upN Sc to s3) (upN Bl to (sgn g3 q))) ⟨?_, itI_2 hab, fun u _ q hq => List.mem_append_left _ hq, fun u _ => rfl, fun u _ i hmem => ?_, fun u _ i _ hmem => ?_, fun u _ i _ => rfl⟩ (k_attempt_a l D cI cL cC cB cZ cR sz ka z (ka.r to) (C to) (Sc to) (Bl to) (ka.r b) (C b) (Sc b) (Bl b) op to to b q s3 g3 (hok to ha6).1 (hok to ha6).2.1 (hok to ha6).2.2 (hok b hb6).1 (hok b hb6).2.1 (hok b hb6).2.2 hop ha6 hb6 hto (hra to ha6) (hra b hb6) (hra to hto) ho)
      · intro i hmem
        simp only [List.mem_cons, List.not_mem_nil, or_false] at hmem
        rcases hmem with rfl | rfl <;> assumption
      · simp only [List.mem_cons, List.not_mem_nil, or_false] at hmem
        rcases hmem with h9 | h9
        · rw [h9]; show kR ka (upN C to q) (upN Sc to s3) (upN Bl to (sgn g3 q)) to ∈ _; rw [kR_s]; exact List.mem_append_right _ (List.mem_cons_self)
        · rw [h9]; show kR ka (upN C to q) (upN Sc to s3) (upN Bl to (sgn g3 q)) b ∈ _; rw [kR_n ka C Sc Bl (Ne.symm hab)]; exact List.mem_append_right _ (List.mem_cons_of_mem _ (List.mem_cons_self))
      · show kR ka (upN C to q) (upN Sc to s3) (upN Bl to (sgn g3 q)) i = _; exact kR_n ka C Sc Bl (fun e => hmem (by rw [e]; simp))
    · by_cases htb : to = b
      · subst htb
        refine x_fri (pq := fun _ => True) (fun _ _ _ => trivial) (it := [a, to]) (b := kB cL cC cB cR ka z) (R := kR ka C Sc Bl) (wo := (fun u : kS => kB cL cC cB cR ka u ++ [kR ka C Sc Bl a, ((ka.r to, .inr (5, [.long (lN (q % 18446744073709551616)), .int (nI (dg 4294967296 q 2)), .int (nI s3), .int (nI (sgn g3 q))])) : Nat × va_E)])) (B1 := fun u => kB cL cC cB cR ka u) (R1 := fun _ => kR ka (upN C to q) (upN Sc to s3) (upN Bl to (sgn g3 q))) ⟨?_, itI_2 hab, fun u _ q hq => List.mem_append_left _ hq, fun u _ => rfl, fun u _ i hmem => ?_, fun u _ i _ hmem => ?_, fun u _ i _ => rfl⟩ (k_attempt_b l D cI cL cC cB cZ cR sz ka z (ka.r a) (C a) (Sc a) (Bl a) (ka.r to) (C to) (Sc to) (Bl to) op to a to q s3 g3 (hok a ha6).1 (hok a ha6).2.1 (hok a ha6).2.2 (hok to hb6).1 (hok to hb6).2.1 (hok to hb6).2.2 hop ha6 hb6 hto (hra a ha6) (hra to hb6) (hra to hto) ho)
        · intro i hmem
          simp only [List.mem_cons, List.not_mem_nil, or_false] at hmem
          rcases hmem with rfl | rfl <;> assumption
        · simp only [List.mem_cons, List.not_mem_nil, or_false] at hmem
          rcases hmem with h9 | h9
          · rw [h9]; show kR ka (upN C to q) (upN Sc to s3) (upN Bl to (sgn g3 q)) a ∈ _; rw [kR_n ka C Sc Bl hab]; exact List.mem_append_right _ (List.mem_cons_self)
          · rw [h9]; show kR ka (upN C to q) (upN Sc to s3) (upN Bl to (sgn g3 q)) to ∈ _; rw [kR_s]; exact List.mem_append_right _ (List.mem_cons_of_mem _ (List.mem_cons_self))
        · show kR ka (upN C to q) (upN Sc to s3) (upN Bl to (sgn g3 q)) i = _; exact kR_n ka C Sc Bl (fun e => hmem (by rw [e]; simp))
      · skip
        refine x_fri (pq := fun _ => True) (fun _ _ _ => trivial) (it := [a, b, to]) (b := kB cL cC cB cR ka z) (R := kR ka C Sc Bl) (wo := (fun u : kS => kB cL cC cB cR ka u ++ [kR ka C Sc Bl a, kR ka C Sc Bl b, ((ka.r to, .inr (5, [.long (lN (q % 18446744073709551616)), .int (nI (dg 4294967296 q 2)), .int (nI s3), .int (nI (sgn g3 q))])) : Nat × va_E)])) (B1 := fun u => kB cL cC cB cR ka u) (R1 := fun _ => kR ka (upN C to q) (upN Sc to s3) (upN Bl to (sgn g3 q))) ⟨?_, itI_3 hab (Ne.symm hta) (Ne.symm htb), fun u _ q hq => List.mem_append_left _ hq, fun u _ => rfl, fun u _ i hmem => ?_, fun u _ i _ hmem => ?_, fun u _ i _ => rfl⟩ (k_attempt l D cI cL cC cB cZ cR sz ka z (ka.r a) (C a) (Sc a) (Bl a) (ka.r b) (C b) (Sc b) (Bl b) (ka.r to) (lN (C to % 18446744073709551616)) (nI (dg 4294967296 (C to) 2)) (nI (Sc to)) (nI (Bl to)) op to a b q s3 g3 (hok a ha6).1 (hok a ha6).2.1 (hok a ha6).2.2 (hok b hb6).1 (hok b hb6).2.1 (hok b hb6).2.2 hop ha6 hb6 hto (hra a ha6) (hra b hb6) (hra to hto) ho)
        · intro i hmem
          simp only [List.mem_cons, List.not_mem_nil, or_false] at hmem
          rcases hmem with rfl | rfl | rfl <;> assumption
        · simp only [List.mem_cons, List.not_mem_nil, or_false] at hmem
          rcases hmem with h9 | h9 | h9
          · rw [h9]; show kR ka (upN C to q) (upN Sc to s3) (upN Bl to (sgn g3 q)) a ∈ _; rw [kR_n ka C Sc Bl (Ne.symm hta)]; exact List.mem_append_right _ (List.mem_cons_self)
          · rw [h9]; show kR ka (upN C to q) (upN Sc to s3) (upN Bl to (sgn g3 q)) b ∈ _; rw [kR_n ka C Sc Bl (Ne.symm htb)]; exact List.mem_append_right _ (List.mem_cons_of_mem _ (List.mem_cons_self))
          · rw [h9]; show kR ka (upN C to q) (upN Sc to s3) (upN Bl to (sgn g3 q)) to ∈ _; rw [kR_s]; exact List.mem_append_right _ (List.mem_cons_of_mem _ (List.mem_cons_of_mem _ (List.mem_cons_self)))
        · show kR ka (upN C to q) (upN Sc to s3) (upN Bl to (sgn g3 q)) i = _; exact kR_n ka C Sc Bl (fun e => hmem (by rw [e]; simp))
set_option maxRecDepth 100000 in
theorem K_attempt_no (l : Launch) (D : va_G) (cI cL cC cB cZ cR : ClassId) (sz : Nat) (ka : kA) (z : kS) (C Sc Bl : Nat → Nat) (op to a b : Nat) (hra : ∀ i, i < 6 → ka.ra i = some (ka.r i)) (hok : mOk C Sc Bl) (hop : op ≤ 4) (ha6 : a < 6) (hb6 : b < 6) (hto : to < 6) (ho : opR op (C a) (Sc a) (Bl a) (C b) (Sc b) (Bl b) = none) : Met l yX7_attempt wsX7_attempt rm_k_attempt_no (xPc D vwCl (tyAll cI cL cC cB cZ cR) [.ref ka.k9, .int (nI op), .int (nI to), .int (nI a), .int (nI b)] (kB cL cC cB cR ka z ++ rgs (kR ka C Sc Bl)) sz) (va_Qi (fun (y : Int32) (u : kS) => y = nI 0 ∧ kK u z) (xB D vwCl (tyAll cI cL cC cB cZ cR) (va_A (kB cL cC cB cR ka z ++ rgs (kR ka C Sc Bl)) sz) (fun u : kS => kB cL cC cB cR ka u ++ rgs (kR ka C Sc Bl))) (va_A (kB cL cC cB cR ka z ++ rgs (kR ka C Sc Bl)) sz)) 0 0 (va_A (kB cL cC cB cR ka z ++ rgs (kR ka C Sc Bl)) sz) := by
  by_cases hab : a = b
  · subst hab
    refine x_fri (pq := fun _ => True) (fun _ _ _ => trivial) (it := [a]) (b := kB cL cC cB cR ka z) (R := kR ka C Sc Bl) (wo := (fun u : kS => kB cL cC cB cR ka u ++ [kR ka C Sc Bl a])) (B1 := fun u => kB cL cC cB cR ka u) (R1 := fun _ => kR ka C Sc Bl) ⟨?_, itI_1 a, fun u _ q hq => List.mem_append_left _ hq, fun u _ => rfl, fun u _ i hmem => ?_, fun u _ i _ hmem => ?_, fun u _ i _ => rfl⟩ (k_attempt_no_s l D cI cL cC cB cZ cR sz ka z (ka.r a) (C a) (Sc a) (Bl a) op to a a (hok a ha6).1 (hok a ha6).2.1 (hok a ha6).2.2 hop ha6 ha6 hto (hra a ha6) (hra a ha6) ho)
    · intro i hmem
      simp only [List.mem_cons, List.not_mem_nil, or_false] at hmem
      rcases hmem with rfl <;> assumption
    · simp only [List.mem_cons, List.not_mem_nil, or_false] at hmem
      have h9 := hmem
      · rw [h9]; exact List.mem_append_right _ (List.mem_cons_self)
    · rfl
  · skip
    refine x_fri (pq := fun _ => True) (fun _ _ _ => trivial) (it := [a, b]) (b := kB cL cC cB cR ka z) (R := kR ka C Sc Bl) (wo := (fun u : kS => kB cL cC cB cR ka u ++ [kR ka C Sc Bl a, kR ka C Sc Bl b])) (B1 := fun u => kB cL cC cB cR ka u) (R1 := fun _ => kR ka C Sc Bl) ⟨?_, itI_2 hab, fun u _ q hq => List.mem_append_left _ hq, fun u _ => rfl, fun u _ i hmem => ?_, fun u _ i _ hmem => ?_, fun u _ i _ => rfl⟩ (k_attempt_no l D cI cL cC cB cZ cR sz ka z (ka.r a) (C a) (Sc a) (Bl a) (ka.r b) (C b) (Sc b) (Bl b) op to a b (hok a ha6).1 (hok a ha6).2.1 (hok a ha6).2.2 (hok b hb6).1 (hok b hb6).2.1 (hok b hb6).2.2 hop ha6 hb6 hto (hra a ha6) (hra b hb6) ho)
    · intro i hmem
      simp only [List.mem_cons, List.not_mem_nil, or_false] at hmem
      rcases hmem with rfl | rfl <;> assumption
    · simp only [List.mem_cons, List.not_mem_nil, or_false] at hmem
      rcases hmem with h9 | h9
      · rw [h9]; exact List.mem_append_right _ (List.mem_cons_self)
      · rw [h9]; exact List.mem_append_right _ (List.mem_cons_of_mem _ (List.mem_cons_self))
    · rfl
set_option maxRecDepth 100000 in
theorem K_attempt_bad (l : Launch) (D : va_G) (cI cL cC cB cZ cR : ClassId) (sz : Nat) (ka : kA) (z : kS) (C Sc Bl : Nat → Nat) (op to a b : Int32) (hra : ∀ i, i < 6 → ka.ra i = some (ka.r i)) (hbad : okR op to a b = 0) : Met l yX7_attempt wsX7_attempt rm_k_attempt_bad (xPc D vwCl (tyAll cI cL cC cB cZ cR) [.ref ka.k9, .int op, .int to, .int a, .int b] (kB cL cC cB cR ka z ++ rgs (kR ka C Sc Bl)) sz) (va_Qi (fun (y : Int32) (u : kS) => y = nI 0 ∧ kK u z) (xB D vwCl (tyAll cI cL cC cB cZ cR) (va_A (kB cL cC cB cR ka z ++ rgs (kR ka C Sc Bl)) sz) (fun u : kS => kB cL cC cB cR ka u ++ rgs (kR ka C Sc Bl))) (va_A (kB cL cC cB cR ka z ++ rgs (kR ka C Sc Bl)) sz)) 0 0 (va_A (kB cL cC cB cR ka z ++ rgs (kR ka C Sc Bl)) sz) := by
  refine x_fri (pq := fun _ => True) (fun _ _ _ => trivial) (it := []) (b := kB cL cC cB cR ka z) (R := kR ka C Sc Bl) (wo := (fun u : kS => kB cL cC cB cR ka u ++ [])) (B1 := fun u => kB cL cC cB cR ka u) (R1 := fun _ => kR ka C Sc Bl) ⟨?_, itI_0, fun u _ q hq => List.mem_append_left _ hq, fun u _ => rfl, fun u _ i hmem => ?_, fun u _ i _ hmem => ?_, fun u _ i _ => rfl⟩ (k_attempt_bad l D cI cL cC cB cZ cR sz ka z op to a b hbad)
  · intro i hmem
    cases hmem
  · cases hmem
  · rfl
set_option maxRecDepth 100000 in
theorem K_round (l : Launch) (D : va_G) (cI cL cC cB cZ cR : ClassId) (sz : Nat) (ka : kA) (z : kS) (C Sc Bl : Nat → Nat) (to a : Nat) (dg9 md : Nat) (hra : ∀ i, i < 6 → ka.ra i = some (ka.r i)) (hok : mOk C Sc Bl) (ha6 : a < 6) (hto : to < 6) (hdg : dg9 ≤ 28) (hmd : md ≤ 4) : Met l yX7_round wsX7_round rm_k_round (xPc D vwCl (tyAll cI cL cC cB cZ cR) [.ref ka.k9, .int (nI to), .int (nI a), .int (nI dg9), .int (nI md)] (kB cL cC cB cR ka z ++ rgs (kR ka C Sc Bl)) sz) (va_Qv (fun u : kS => kK u z) (xB D vwCl (tyAll cI cL cC cB cZ cR) (va_A (kB cL cC cB cR ka z ++ rgs (kR ka C Sc Bl)) sz) (fun u : kS => kB cL cC cB cR ka u ++ rgs (kR ka (upN C to (rdC md (Bl a) (C a) (Sc a) dg9)) (upN Sc to (rdS (Sc a) dg9)) (upN Bl to (sgn (Bl a) (rdC md (Bl a) (C a) (Sc a) dg9)))))) (va_A (kB cL cC cB cR ka z ++ rgs (kR ka C Sc Bl)) sz)) 0 0 (va_A (kB cL cC cB cR ka z ++ rgs (kR ka C Sc Bl)) sz) := by
  by_cases hta : to = a
  · subst hta
    refine x_frv (it := [to]) (b := kB cL cC cB cR ka z) (R := kR ka C Sc Bl) (wo := (fun u : kS => kB cL cC cB cR ka u ++ [((ka.r to, .inr (5, [.long (lN ((rdC md (Bl to) (C to) (Sc to) dg9) % 18446744073709551616)), .int (nI (dg 4294967296 (rdC md (Bl to) (C to) (Sc to) dg9) 2)), .int (nI (rdS (Sc to) dg9)), .int (nI (sgn (Bl to) (rdC md (Bl to) (C to) (Sc to) dg9)))])) : Nat × va_E)])) (B1 := fun u => kB cL cC cB cR ka u) (R1 := fun _ => kR ka (upN C to (rdC md (Bl to) (C to) (Sc to) dg9)) (upN Sc to (rdS (Sc to) dg9)) (upN Bl to (sgn (Bl to) (rdC md (Bl to) (C to) (Sc to) dg9)))) ⟨?_, itI_1 to, fun u _ q hq => List.mem_append_left _ hq, fun u _ => rfl, fun u _ i hmem => ?_, fun u _ i _ hmem => ?_, fun u _ i _ => rfl⟩ (k_round_a l D cI cL cC cB cZ cR sz ka z (ka.r to) (C to) (Sc to) (Bl to) to to dg9 md (hok to ha6).1 (hok to ha6).2.1 (hok to ha6).2.2 ha6 hto (hra to ha6) (hra to hto) hdg hmd)
    · intro i hmem
      simp only [List.mem_cons, List.not_mem_nil, or_false] at hmem
      rcases hmem with rfl <;> assumption
    · simp only [List.mem_cons, List.not_mem_nil, or_false] at hmem
      have h9 := hmem
      · rw [h9]; show kR ka (upN C to (rdC md (Bl to) (C to) (Sc to) dg9)) (upN Sc to (rdS (Sc to) dg9)) (upN Bl to (sgn (Bl to) (rdC md (Bl to) (C to) (Sc to) dg9))) to ∈ _; rw [kR_s]; exact List.mem_append_right _ (List.mem_cons_self)
    · show kR ka (upN C to (rdC md (Bl to) (C to) (Sc to) dg9)) (upN Sc to (rdS (Sc to) dg9)) (upN Bl to (sgn (Bl to) (rdC md (Bl to) (C to) (Sc to) dg9))) i = _; exact kR_n ka C Sc Bl (fun e => hmem (by rw [e]; simp))
  · skip
    refine x_frv (it := [a, to]) (b := kB cL cC cB cR ka z) (R := kR ka C Sc Bl) (wo := (fun u : kS => kB cL cC cB cR ka u ++ [kR ka C Sc Bl a, ((ka.r to, .inr (5, [.long (lN ((rdC md (Bl a) (C a) (Sc a) dg9) % 18446744073709551616)), .int (nI (dg 4294967296 (rdC md (Bl a) (C a) (Sc a) dg9) 2)), .int (nI (rdS (Sc a) dg9)), .int (nI (sgn (Bl a) (rdC md (Bl a) (C a) (Sc a) dg9)))])) : Nat × va_E)])) (B1 := fun u => kB cL cC cB cR ka u) (R1 := fun _ => kR ka (upN C to (rdC md (Bl a) (C a) (Sc a) dg9)) (upN Sc to (rdS (Sc a) dg9)) (upN Bl to (sgn (Bl a) (rdC md (Bl a) (C a) (Sc a) dg9)))) ⟨?_, itI_2 (Ne.symm hta), fun u _ q hq => List.mem_append_left _ hq, fun u _ => rfl, fun u _ i hmem => ?_, fun u _ i _ hmem => ?_, fun u _ i _ => rfl⟩ (k_round l D cI cL cC cB cZ cR sz ka z (ka.r a) (C a) (Sc a) (Bl a) (ka.r to) (lN (C to % 18446744073709551616)) (nI (dg 4294967296 (C to) 2)) (nI (Sc to)) (nI (Bl to)) to a dg9 md (hok a ha6).1 (hok a ha6).2.1 (hok a ha6).2.2 ha6 hto (hra a ha6) (hra to hto) hdg hmd)
    · intro i hmem
      simp only [List.mem_cons, List.not_mem_nil, or_false] at hmem
      rcases hmem with rfl | rfl <;> assumption
    · simp only [List.mem_cons, List.not_mem_nil, or_false] at hmem
      rcases hmem with h9 | h9
      · rw [h9]; show kR ka (upN C to (rdC md (Bl a) (C a) (Sc a) dg9)) (upN Sc to (rdS (Sc a) dg9)) (upN Bl to (sgn (Bl a) (rdC md (Bl a) (C a) (Sc a) dg9))) a ∈ _; rw [kR_n ka C Sc Bl (Ne.symm hta)]; exact List.mem_append_right _ (List.mem_cons_self)
      · rw [h9]; show kR ka (upN C to (rdC md (Bl a) (C a) (Sc a) dg9)) (upN Sc to (rdS (Sc a) dg9)) (upN Bl to (sgn (Bl a) (rdC md (Bl a) (C a) (Sc a) dg9))) to ∈ _; rw [kR_s]; exact List.mem_append_right _ (List.mem_cons_of_mem _ (List.mem_cons_self))
    · show kR ka (upN C to (rdC md (Bl a) (C a) (Sc a) dg9)) (upN Sc to (rdS (Sc a) dg9)) (upN Bl to (sgn (Bl a) (rdC md (Bl a) (C a) (Sc a) dg9))) i = _; exact kR_n ka C Sc Bl (fun e => hmem (by rw [e]; simp))
set_option maxRecDepth 100000 in
theorem K_trim (l : Launch) (D : va_G) (cI cL cC cB cZ cR : ClassId) (sz : Nat) (ka : kA) (z : kS) (C Sc Bl : Nat → Nat) (to a : Nat) (hra : ∀ i, i < 6 → ka.ra i = some (ka.r i)) (hok : mOk C Sc Bl) (ha6 : a < 6) (hto : to < 6) : Met l yX7_trim wsX7_trim rm_k_trim (xPc D vwCl (tyAll cI cL cC cB cZ cR) [.ref ka.k9, .int (nI to), .int (nI a)] (kB cL cC cB cR ka z ++ rgs (kR ka C Sc Bl)) sz) (va_Qv (fun u : kS => kK u z) (xB D vwCl (tyAll cI cL cC cB cZ cR) (va_A (kB cL cC cB cR ka z ++ rgs (kR ka C Sc Bl)) sz) (fun u : kS => kB cL cC cB cR ka u ++ rgs (kR ka (upN C to ((trm (C a) (Sc a)).1)) (upN Sc to ((trm (C a) (Sc a)).2)) (upN Bl to (sgn (Bl a) ((trm (C a) (Sc a)).1)))))) (va_A (kB cL cC cB cR ka z ++ rgs (kR ka C Sc Bl)) sz)) 0 0 (va_A (kB cL cC cB cR ka z ++ rgs (kR ka C Sc Bl)) sz) := by
  by_cases hta : to = a
  · subst hta
    refine x_frv (it := [to]) (b := kB cL cC cB cR ka z) (R := kR ka C Sc Bl) (wo := (fun u : kS => kB cL cC cB cR ka u ++ [((ka.r to, .inr (5, [.long (lN (((trm (C to) (Sc to)).1) % 18446744073709551616)), .int (nI (dg 4294967296 ((trm (C to) (Sc to)).1) 2)), .int (nI ((trm (C to) (Sc to)).2)), .int (nI (sgn (Bl to) ((trm (C to) (Sc to)).1)))])) : Nat × va_E)])) (B1 := fun u => kB cL cC cB cR ka u) (R1 := fun _ => kR ka (upN C to ((trm (C to) (Sc to)).1)) (upN Sc to ((trm (C to) (Sc to)).2)) (upN Bl to (sgn (Bl to) ((trm (C to) (Sc to)).1)))) ⟨?_, itI_1 to, fun u _ q hq => List.mem_append_left _ hq, fun u _ => rfl, fun u _ i hmem => ?_, fun u _ i _ hmem => ?_, fun u _ i _ => rfl⟩ (k_trim_a l D cI cL cC cB cZ cR sz ka z (ka.r to) (C to) (Sc to) (Bl to) to to  (hok to ha6).1 (hok to ha6).2.1 (hok to ha6).2.2 ha6 hto (hra to ha6) (hra to hto) )
    · intro i hmem
      simp only [List.mem_cons, List.not_mem_nil, or_false] at hmem
      rcases hmem with rfl <;> assumption
    · simp only [List.mem_cons, List.not_mem_nil, or_false] at hmem
      have h9 := hmem
      · rw [h9]; show kR ka (upN C to ((trm (C to) (Sc to)).1)) (upN Sc to ((trm (C to) (Sc to)).2)) (upN Bl to (sgn (Bl to) ((trm (C to) (Sc to)).1))) to ∈ _; rw [kR_s]; exact List.mem_append_right _ (List.mem_cons_self)
    · show kR ka (upN C to ((trm (C to) (Sc to)).1)) (upN Sc to ((trm (C to) (Sc to)).2)) (upN Bl to (sgn (Bl to) ((trm (C to) (Sc to)).1))) i = _; exact kR_n ka C Sc Bl (fun e => hmem (by rw [e]; simp))
  · skip
    refine x_frv (it := [a, to]) (b := kB cL cC cB cR ka z) (R := kR ka C Sc Bl) (wo := (fun u : kS => kB cL cC cB cR ka u ++ [kR ka C Sc Bl a, ((ka.r to, .inr (5, [.long (lN (((trm (C a) (Sc a)).1) % 18446744073709551616)), .int (nI (dg 4294967296 ((trm (C a) (Sc a)).1) 2)), .int (nI ((trm (C a) (Sc a)).2)), .int (nI (sgn (Bl a) ((trm (C a) (Sc a)).1)))])) : Nat × va_E)])) (B1 := fun u => kB cL cC cB cR ka u) (R1 := fun _ => kR ka (upN C to ((trm (C a) (Sc a)).1)) (upN Sc to ((trm (C a) (Sc a)).2)) (upN Bl to (sgn (Bl a) ((trm (C a) (Sc a)).1)))) ⟨?_, itI_2 (Ne.symm hta), fun u _ q hq => List.mem_append_left _ hq, fun u _ => rfl, fun u _ i hmem => ?_, fun u _ i _ hmem => ?_, fun u _ i _ => rfl⟩ (k_trim l D cI cL cC cB cZ cR sz ka z (ka.r a) (C a) (Sc a) (Bl a) (ka.r to) (lN (C to % 18446744073709551616)) (nI (dg 4294967296 (C to) 2)) (nI (Sc to)) (nI (Bl to)) to a  (hok a ha6).1 (hok a ha6).2.1 (hok a ha6).2.2 ha6 hto (hra a ha6) (hra to hto) )
    · intro i hmem
      simp only [List.mem_cons, List.not_mem_nil, or_false] at hmem
      rcases hmem with rfl | rfl <;> assumption
    · simp only [List.mem_cons, List.not_mem_nil, or_false] at hmem
      rcases hmem with h9 | h9
      · rw [h9]; show kR ka (upN C to ((trm (C a) (Sc a)).1)) (upN Sc to ((trm (C a) (Sc a)).2)) (upN Bl to (sgn (Bl a) ((trm (C a) (Sc a)).1))) a ∈ _; rw [kR_n ka C Sc Bl (Ne.symm hta)]; exact List.mem_append_right _ (List.mem_cons_self)
      · rw [h9]; show kR ka (upN C to ((trm (C a) (Sc a)).1)) (upN Sc to ((trm (C a) (Sc a)).2)) (upN Bl to (sgn (Bl a) ((trm (C a) (Sc a)).1))) to ∈ _; rw [kR_s]; exact List.mem_append_right _ (List.mem_cons_of_mem _ (List.mem_cons_self))
    · show kR ka (upN C to ((trm (C a) (Sc a)).1)) (upN Sc to ((trm (C a) (Sc a)).2)) (upN Bl to (sgn (Bl a) ((trm (C a) (Sc a)).1))) i = _; exact kR_n ka C Sc Bl (fun e => hmem (by rw [e]; simp))
set_option maxRecDepth 100000 in
theorem K_compare (l : Launch) (D : va_G) (cI cL cC cB cZ cR : ClassId) (sz : Nat) (ka : kA) (z : kS) (C Sc Bl : Nat → Nat) (a b : Nat) (hra : ∀ i, i < 6 → ka.ra i = some (ka.r i)) (hok : mOk C Sc Bl) (ha6 : a < 6) (hb6 : b < 6) (hz : ∀ i, i < 6 → Bl i = 1 → C i ≠ 0) : Met l yX7_compare wsX7_compare rm_k_compare (xPc D vwCl (tyAll cI cL cC cB cZ cR) [.ref ka.k9, .int (nI a), .int (nI b)] (kB cL cC cB cR ka z ++ rgs (kR ka C Sc Bl)) sz) (va_Qi (fun (y : Int32) (u : kS) => y = cmpR (jnV (Bl a) (neq (Bl b) 1) (C a * 10 ^ (Sc b - Sc a)) (C b * 10 ^ (Sc a - Sc b))) (jnS (Bl a) (neq (Bl b) 1) (C a * 10 ^ (Sc b - Sc a)) (C b * 10 ^ (Sc a - Sc b))) ∧ kK u z) (xB D vwCl (tyAll cI cL cC cB cZ cR) (va_A (kB cL cC cB cR ka z ++ rgs (kR ka C Sc Bl)) sz) (fun u : kS => kB cL cC cB cR ka u ++ rgs (kR ka C Sc Bl))) (va_A (kB cL cC cB cR ka z ++ rgs (kR ka C Sc Bl)) sz)) 0 0 (va_A (kB cL cC cB cR ka z ++ rgs (kR ka C Sc Bl)) sz) := by
  by_cases hab : a = b
  · subst hab
    refine x_fri (pq := fun _ => True) (fun _ _ _ => trivial) (it := [a]) (b := kB cL cC cB cR ka z) (R := kR ka C Sc Bl) (wo := (fun u : kS => kB cL cC cB cR ka u ++ [kR ka C Sc Bl a])) (B1 := fun u => kB cL cC cB cR ka u) (R1 := fun _ => kR ka C Sc Bl) ⟨?_, itI_1 a, fun u _ q hq => List.mem_append_left _ hq, fun u _ => rfl, fun u _ i hmem => ?_, fun u _ i _ hmem => ?_, fun u _ i _ => rfl⟩ (k_compare_s l D cI cL cC cB cZ cR sz ka z (ka.r a) (C a) (Sc a) (Bl a) a a (hok a ha6).1 (hok a ha6).2.1 (hok a ha6).2.2 ha6 ha6 (hra a ha6) (hra a ha6) (hz a ha6))
    · intro i hmem
      simp only [List.mem_cons, List.not_mem_nil, or_false] at hmem
      rcases hmem with rfl <;> assumption
    · simp only [List.mem_cons, List.not_mem_nil, or_false] at hmem
      have h9 := hmem
      · rw [h9]; exact List.mem_append_right _ (List.mem_cons_self)
    · rfl
  · skip
    refine x_fri (pq := fun _ => True) (fun _ _ _ => trivial) (it := [a, b]) (b := kB cL cC cB cR ka z) (R := kR ka C Sc Bl) (wo := (fun u : kS => kB cL cC cB cR ka u ++ [kR ka C Sc Bl a, kR ka C Sc Bl b])) (B1 := fun u => kB cL cC cB cR ka u) (R1 := fun _ => kR ka C Sc Bl) ⟨?_, itI_2 hab, fun u _ q hq => List.mem_append_left _ hq, fun u _ => rfl, fun u _ i hmem => ?_, fun u _ i _ hmem => ?_, fun u _ i _ => rfl⟩ (k_compare l D cI cL cC cB cZ cR sz ka z (ka.r a) (C a) (Sc a) (Bl a) (ka.r b) (C b) (Sc b) (Bl b) a b (hok a ha6).1 (hok a ha6).2.1 (hok a ha6).2.2 (hok b hb6).1 (hok b hb6).2.1 (hok b hb6).2.2 ha6 hb6 (hra a ha6) (hra b hb6) (hz a ha6) (hz b hb6))
    · intro i hmem
      simp only [List.mem_cons, List.not_mem_nil, or_false] at hmem
      rcases hmem with rfl | rfl <;> assumption
    · simp only [List.mem_cons, List.not_mem_nil, or_false] at hmem
      rcases hmem with h9 | h9
      · rw [h9]; exact List.mem_append_right _ (List.mem_cons_self)
      · rw [h9]; exact List.mem_append_right _ (List.mem_cons_of_mem _ (List.mem_cons_self))
    · rfl
set_option maxRecDepth 100000 in
theorem K_type_y (l : Launch) (D : va_G) (cI cL cC cB cZ cR : ClassId) (sz : Nat) (ka : kA) (z : kS) (C Sc Bl : Nat → Nat) (L : List Nat) (c9 : Nat) (hra : ∀ i, i < 6 → ka.ra i = some (ka.r i)) (hm1 : z.m1 = nI L.length) (hf : oR z.fx L) (hL : L.length < 40) (h1 : 32 ≤ c9) (h2 : c9 ≤ 126) : Met l yX7_type wsX7_type rm_k_type_y (xPc D vwCl (tyAll cI cL cC cB cZ cR) [.ref ka.k9, .int (nI c9)] (kB cL cC cB cR ka z ++ rgs (kR ka C Sc Bl)) sz) (va_Qi (fun (y : Int32) (u : kS) => y = nI 1 ∧ (u.m1 = nI (L ++ [c9]).length ∧ oR u.fx (L ++ [c9])) ∧ kO u z) (xB D vwCl (tyAll cI cL cC cB cZ cR) (va_A (kB cL cC cB cR ka z ++ rgs (kR ka C Sc Bl)) sz) (fun u : kS => kB cL cC cB cR ka u ++ rgs (kR ka C Sc Bl))) (va_A (kB cL cC cB cR ka z ++ rgs (kR ka C Sc Bl)) sz)) 0 0 (va_A (kB cL cC cB cR ka z ++ rgs (kR ka C Sc Bl)) sz) := by
  refine x_fri (pq := fun _ => True) (fun _ _ _ => trivial) (it := []) (b := kB cL cC cB cR ka z) (R := kR ka C Sc Bl) (wo := (fun u : kS => kB cL cC cB cR ka u ++ [])) (B1 := fun u => kB cL cC cB cR ka u) (R1 := fun _ => kR ka C Sc Bl) ⟨?_, itI_0, fun u _ q hq => List.mem_append_left _ hq, fun u _ => rfl, fun u _ i hmem => ?_, fun u _ i _ hmem => ?_, fun u _ i _ => rfl⟩ (k_type_y l D cI cL cC cB cZ cR sz ka z L c9 hm1 hf hL h1 h2)
  · intro i hmem
    cases hmem
  · cases hmem
  · rfl
set_option maxRecDepth 100000 in
theorem K_type_n (l : Launch) (D : va_G) (cI cL cC cB cZ cR : ClassId) (sz : Nat) (ka : kA) (z : kS) (C Sc Bl : Nat → Nat) (L : List Nat) (c9 : Nat) (hra : ∀ i, i < 6 → ka.ra i = some (ka.r i)) (hm1 : z.m1 = nI L.length) (hf : oR z.fx L) (hc9 : c9 < 65536) (hL : L.length ≤ 40) (hn : ¬ (32 ≤ c9 ∧ c9 ≤ 126 ∧ L.length ≠ 40)) : Met l yX7_type wsX7_type rm_k_type_n (xPc D vwCl (tyAll cI cL cC cB cZ cR) [.ref ka.k9, .int (nI c9)] (kB cL cC cB cR ka z ++ rgs (kR ka C Sc Bl)) sz) (va_Qi (fun (y : Int32) (u : kS) => y = nI 0 ∧ kK u z) (xB D vwCl (tyAll cI cL cC cB cZ cR) (va_A (kB cL cC cB cR ka z ++ rgs (kR ka C Sc Bl)) sz) (fun u : kS => kB cL cC cB cR ka u ++ rgs (kR ka C Sc Bl))) (va_A (kB cL cC cB cR ka z ++ rgs (kR ka C Sc Bl)) sz)) 0 0 (va_A (kB cL cC cB cR ka z ++ rgs (kR ka C Sc Bl)) sz) := by
  refine x_fri (pq := fun _ => True) (fun _ _ _ => trivial) (it := []) (b := kB cL cC cB cR ka z) (R := kR ka C Sc Bl) (wo := (fun u : kS => kB cL cC cB cR ka u ++ [])) (B1 := fun u => kB cL cC cB cR ka u) (R1 := fun _ => kR ka C Sc Bl) ⟨?_, itI_0, fun u _ q hq => List.mem_append_left _ hq, fun u _ => rfl, fun u _ i hmem => ?_, fun u _ i _ hmem => ?_, fun u _ i _ => rfl⟩ (k_type_n l D cI cL cC cB cZ cR sz ka z L c9 hm1 hf hc9 hL hn)
  · intro i hmem
    cases hmem
  · cases hmem
  · rfl
set_option maxRecDepth 100000 in
theorem K_clear (l : Launch) (D : va_G) (cI cL cC cB cZ cR : ClassId) (sz : Nat) (ka : kA) (z : kS) (C Sc Bl : Nat → Nat)  (hra : ∀ i, i < 6 → ka.ra i = some (ka.r i))  : Met l yX7_clear wsX7_clear rm_k_clear (xPc D vwCl (tyAll cI cL cC cB cZ cR) [.ref ka.k9] (kB cL cC cB cR ka z ++ rgs (kR ka C Sc Bl)) sz) (va_Qv (fun u : kS => u.m1 = nI 0 ∧ kO u z) (xB D vwCl (tyAll cI cL cC cB cZ cR) (va_A (kB cL cC cB cR ka z ++ rgs (kR ka C Sc Bl)) sz) (fun u : kS => kB cL cC cB cR ka u ++ rgs (kR ka C Sc Bl))) (va_A (kB cL cC cB cR ka z ++ rgs (kR ka C Sc Bl)) sz)) 0 0 (va_A (kB cL cC cB cR ka z ++ rgs (kR ka C Sc Bl)) sz) := by
  refine x_frv (it := []) (b := kB cL cC cB cR ka z) (R := kR ka C Sc Bl) (wo := (fun u : kS => kB cL cC cB cR ka u ++ [])) (B1 := fun u => kB cL cC cB cR ka u) (R1 := fun _ => kR ka C Sc Bl) ⟨?_, itI_0, fun u _ q hq => List.mem_append_left _ hq, fun u _ => rfl, fun u _ i hmem => ?_, fun u _ i _ hmem => ?_, fun u _ i _ => rfl⟩ (k_clear l D cI cL cC cB cZ cR sz ka z )
  · intro i hmem
    cases hmem
  · cases hmem
  · rfl
set_option maxRecDepth 100000 in
theorem K_at (l : Launch) (D : va_G) (cI cL cC cB cZ cR : ClassId) (sz : Nat) (ka : kA) (z : kS) (C Sc Bl : Nat → Nat) (L : List Nat) (j : Nat) (hra : ∀ i, i < 6 → ka.ra i = some (ka.r i)) (hm2 : z.m2 = nI L.length) (ho : oR z.fo L) (hL : L.length ≤ 80) (hj : j < L.length) : Met l yX7_at wsX7_at rm_k_at (xPc D vwCl (tyAll cI cL cC cB cZ cR) [.ref ka.k9, .int (nI j)] (kB cL cC cB cR ka z ++ rgs (kR ka C Sc Bl)) sz) (va_Qi (fun (y : Int32) (u : kS) => y = nI (L.getD j 0) ∧ kK u z) (xB D vwCl (tyAll cI cL cC cB cZ cR) (va_A (kB cL cC cB cR ka z ++ rgs (kR ka C Sc Bl)) sz) (fun u : kS => kB cL cC cB cR ka u ++ rgs (kR ka C Sc Bl))) (va_A (kB cL cC cB cR ka z ++ rgs (kR ka C Sc Bl)) sz)) 0 0 (va_A (kB cL cC cB cR ka z ++ rgs (kR ka C Sc Bl)) sz) := by
  refine x_fri (pq := fun _ => True) (fun _ _ _ => trivial) (it := []) (b := kB cL cC cB cR ka z) (R := kR ka C Sc Bl) (wo := (fun u : kS => kB cL cC cB cR ka u ++ [])) (B1 := fun u => kB cL cC cB cR ka u) (R1 := fun _ => kR ka C Sc Bl) ⟨?_, itI_0, fun u _ q hq => List.mem_append_left _ hq, fun u _ => rfl, fun u _ i hmem => ?_, fun u _ i _ hmem => ?_, fun u _ i _ => rfl⟩ (k_at l D cI cL cC cB cZ cR sz ka z L j hm2 ho hL hj)
  · intro i hmem
    cases hmem
  · cases hmem
  · rfl
set_option maxRecDepth 100000 in
theorem K_at_bad (l : Launch) (D : va_G) (cI cL cC cB cZ cR : ClassId) (sz : Nat) (ka : kA) (z : kS) (C Sc Bl : Nat → Nat) (L : List Nat) (i : Int32) (hra : ∀ i, i < 6 → ka.ra i = some (ka.r i)) (hm2 : z.m2 = nI L.length) (hbad : inR L.length i = 0) : Met l yX7_at wsX7_at rm_k_at_bad (xPc D vwCl (tyAll cI cL cC cB cZ cR) [.ref ka.k9, .int i] (kB cL cC cB cR ka z ++ rgs (kR ka C Sc Bl)) sz) (va_Qi (fun (y : Int32) (u : kS) => y = -1 ∧ kK u z) (xB D vwCl (tyAll cI cL cC cB cZ cR) (va_A (kB cL cC cB cR ka z ++ rgs (kR ka C Sc Bl)) sz) (fun u : kS => kB cL cC cB cR ka u ++ rgs (kR ka C Sc Bl))) (va_A (kB cL cC cB cR ka z ++ rgs (kR ka C Sc Bl)) sz)) 0 0 (va_A (kB cL cC cB cR ka z ++ rgs (kR ka C Sc Bl)) sz) := by
  refine x_fri (pq := fun _ => True) (fun _ _ _ => trivial) (it := []) (b := kB cL cC cB cR ka z) (R := kR ka C Sc Bl) (wo := (fun u : kS => kB cL cC cB cR ka u ++ [])) (B1 := fun u => kB cL cC cB cR ka u) (R1 := fun _ => kR ka C Sc Bl) ⟨?_, itI_0, fun u _ q hq => List.mem_append_left _ hq, fun u _ => rfl, fun u _ i hmem => ?_, fun u _ i _ hmem => ?_, fun u _ i _ => rfl⟩ (k_at_bad l D cI cL cC cB cZ cR sz ka z L i hm2 hbad)
  · intro i hmem
    cases hmem
  · cases hmem
  · rfl
set_option maxRecDepth 100000 in
theorem K_reuse_n (l : Launch) (D : va_G) (cI cL cC cB cZ cR : ClassId) (sz : Nat) (ka : kA) (z : kS) (C Sc Bl : Nat → Nat) (L : List Nat) (hra : ∀ i, i < 6 → ka.ra i = some (ka.r i)) (hm2 : z.m2 = nI L.length) (hL : L.length ≤ 80) (hn : 40 < L.length) : Met l yX7_reuse wsX7_reuse rm_k_reuse_n (xPc D vwCl (tyAll cI cL cC cB cZ cR) [.ref ka.k9] (kB cL cC cB cR ka z ++ rgs (kR ka C Sc Bl)) sz) (va_Qi (fun (y : Int32) (u : kS) => y = nI 0 ∧ kK u z) (xB D vwCl (tyAll cI cL cC cB cZ cR) (va_A (kB cL cC cB cR ka z ++ rgs (kR ka C Sc Bl)) sz) (fun u : kS => kB cL cC cB cR ka u ++ rgs (kR ka C Sc Bl))) (va_A (kB cL cC cB cR ka z ++ rgs (kR ka C Sc Bl)) sz)) 0 0 (va_A (kB cL cC cB cR ka z ++ rgs (kR ka C Sc Bl)) sz) := by
  refine x_fri (pq := fun _ => True) (fun _ _ _ => trivial) (it := []) (b := kB cL cC cB cR ka z) (R := kR ka C Sc Bl) (wo := (fun u : kS => kB cL cC cB cR ka u ++ [])) (B1 := fun u => kB cL cC cB cR ka u) (R1 := fun _ => kR ka C Sc Bl) ⟨?_, itI_0, fun u _ q hq => List.mem_append_left _ hq, fun u _ => rfl, fun u _ i hmem => ?_, fun u _ i _ hmem => ?_, fun u _ i _ => rfl⟩ (k_reuse_n l D cI cL cC cB cZ cR sz ka z L hm2 hL hn)
  · intro i hmem
    cases hmem
  · cases hmem
  · rfl
set_option maxRecDepth 100000 in
theorem K_reuse_y (l : Launch) (D : va_G) (cI cL cC cB cZ cR : ClassId) (sz : Nat) (ka : kA) (z : kS) (C Sc Bl : Nat → Nat) (L : List Nat) (hra : ∀ i, i < 6 → ka.ra i = some (ka.r i)) (hm2 : z.m2 = nI L.length) (ho : oR z.fo L) (hL : L.length ≤ 40) (hch : ∀ y ∈ L, y < 128) : Met l yX7_reuse wsX7_reuse rm_k_reuse_y (xPc D vwCl (tyAll cI cL cC cB cZ cR) [.ref ka.k9] (kB cL cC cB cR ka z ++ rgs (kR ka C Sc Bl)) sz) (va_Qi (fun (y : Int32) (u : kS) => y = nI 1 ∧ (u.m1 = nI L.length ∧ oR u.fx L) ∧ kO u z) (xB D vwCl (tyAll cI cL cC cB cZ cR) (va_A (kB cL cC cB cR ka z ++ rgs (kR ka C Sc Bl)) sz) (fun u : kS => kB cL cC cB cR ka u ++ rgs (kR ka C Sc Bl))) (va_A (kB cL cC cB cR ka z ++ rgs (kR ka C Sc Bl)) sz)) 0 0 (va_A (kB cL cC cB cR ka z ++ rgs (kR ka C Sc Bl)) sz) := by
  refine x_fri (pq := fun _ => True) (fun _ _ _ => trivial) (it := []) (b := kB cL cC cB cR ka z) (R := kR ka C Sc Bl) (wo := (fun u : kS => kB cL cC cB cR ka u ++ [])) (B1 := fun u => kB cL cC cB cR ka u) (R1 := fun _ => kR ka C Sc Bl) ⟨?_, itI_0, fun u _ q hq => List.mem_append_left _ hq, fun u _ => rfl, fun u _ i hmem => ?_, fun u _ i _ hmem => ?_, fun u _ i _ => rfl⟩ (k_reuse_y l D cI cL cC cB cZ cR sz ka z L hm2 ho hL hch)
  · intro i hmem
    cases hmem
  · cases hmem
  · rfl
set_option maxRecDepth 100000 in
theorem K_parse (l : Launch) (D : va_G) (cI cL cC cB cZ cR : ClassId) (sz : Nat) (ka : kA) (z : kS) (C Sc Bl : Nat → Nat) (a v b9 q s3 : Nat) (L : List Nat) (hra : ∀ i, i < 6 → ka.ra i = some (ka.r i)) (hm1 : z.m1 = nI L.length) (hf : oR z.fx L) (hL : L.length ≤ 40) (hch : ∀ y ∈ L, y < 128) (ha6 : a < 6) (ho : prR L = some (v, b9)) (hpc : plc v (10 ^ b9) (min b9 28) = some (q, s3)) : Met l yX7_parse wsX7_parse rm_k_parse (xPc D vwCl (tyAll cI cL cC cB cZ cR) [.ref ka.k9, .int (nI a)] (kB cL cC cB cR ka z ++ rgs (kR ka C Sc Bl)) sz) (va_Qv (fun u : kS => kK u z) (xB D vwCl (tyAll cI cL cC cB cZ cR) (va_A (kB cL cC cB cR ka z ++ rgs (kR ka C Sc Bl)) sz) (fun u : kS => kB cL cC cB cR ka u ++ rgs (kR ka (upN C a q) (upN Sc a s3) (upN Bl a (sgn (prN L) q))))) (va_A (kB cL cC cB cR ka z ++ rgs (kR ka C Sc Bl)) sz)) 0 0 (va_A (kB cL cC cB cR ka z ++ rgs (kR ka C Sc Bl)) sz) := by
  refine x_frv (it := [a]) (b := kB cL cC cB cR ka z) (R := kR ka C Sc Bl) (wo := (fun u : kS => kB cL cC cB cR ka u ++ [((ka.r a, .inr (5, [.long (lN (q % 18446744073709551616)), .int (nI (dg 4294967296 q 2)), .int (nI s3), .int (nI (sgn (prN L) q))])) : Nat × va_E)])) (B1 := fun u => kB cL cC cB cR ka u) (R1 := fun _ => kR ka (upN C a q) (upN Sc a s3) (upN Bl a (sgn (prN L) q))) ⟨?_, itI_1 a, fun u _ q hq => List.mem_append_left _ hq, fun u _ => rfl, fun u _ i hmem => ?_, fun u _ i _ hmem => ?_, fun u _ i _ => rfl⟩ (k_parse l D cI cL cC cB cZ cR sz ka z (ka.r a) (lN (C a % 18446744073709551616)) (nI (dg 4294967296 (C a) 2)) (nI (Sc a)) (nI (Bl a)) a v b9 q s3 L hm1 hf hL hch ha6 (hra a ha6) ho hpc)
  · intro i hmem
    simp only [List.mem_cons, List.not_mem_nil, or_false] at hmem
    rcases hmem with rfl <;> assumption
  · simp only [List.mem_cons, List.not_mem_nil, or_false] at hmem
    have h9 := hmem
    · rw [h9]; show kR ka (upN C a q) (upN Sc a s3) (upN Bl a (sgn (prN L) q)) a ∈ _; rw [kR_s]; exact List.mem_append_right _ (List.mem_cons_self)
  · show kR ka (upN C a q) (upN Sc a s3) (upN Bl a (sgn (prN L) q)) i = _; exact kR_n ka C Sc Bl (fun e => hmem (by rw [e]; simp))
set_option maxRecDepth 100000 in
theorem K_show (l : Launch) (D : va_G) (cI cL cC cB cZ cR : ClassId) (sz : Nat) (ka : kA) (z : kS) (C Sc Bl : Nat → Nat) (a : Nat) (hra : ∀ i, i < 6 → ka.ra i = some (ka.r i)) (hok : mOk C Sc Bl) (ha6 : a < 6)  : Met l yX7_show wsX7_show rm_k_show (xPc D vwCl (tyAll cI cL cC cB cZ cR) [.ref ka.k9, .int (nI a)] (kB cL cC cB cR ka z ++ rgs (kR ka C Sc Bl)) sz) (va_Qi (fun (y : Int32) (u : kS) => y = nI (shT (C a) (Sc a) (sgn (Bl a) (C a))).length ∧ (u.m2 = nI (shT (C a) (Sc a) (sgn (Bl a) (C a))).length ∧ oR u.fo (shT (C a) (Sc a) (sgn (Bl a) (C a)))) ∧ kT u z) (xB D vwCl (tyAll cI cL cC cB cZ cR) (va_A (kB cL cC cB cR ka z ++ rgs (kR ka C Sc Bl)) sz) (fun u : kS => kB cL cC cB cR ka u ++ rgs (kR ka C Sc Bl))) (va_A (kB cL cC cB cR ka z ++ rgs (kR ka C Sc Bl)) sz)) 0 0 (va_A (kB cL cC cB cR ka z ++ rgs (kR ka C Sc Bl)) sz) := by
  refine x_fri (pq := fun _ => True) (fun _ _ _ => trivial) (it := [a]) (b := kB cL cC cB cR ka z) (R := kR ka C Sc Bl) (wo := (fun u : kS => kB cL cC cB cR ka u ++ [kR ka C Sc Bl a])) (B1 := fun u => kB cL cC cB cR ka u) (R1 := fun _ => kR ka C Sc Bl) ⟨?_, itI_1 a, fun u _ q hq => List.mem_append_left _ hq, fun u _ => rfl, fun u _ i hmem => ?_, fun u _ i _ hmem => ?_, fun u _ i _ => rfl⟩ (k_show l D cI cL cC cB cZ cR sz ka z (ka.r a) (C a) (Sc a) (Bl a) a (hok a ha6).1 (hok a ha6).2.1 (hok a ha6).2.2 ha6 (hra a ha6))
  · intro i hmem
    simp only [List.mem_cons, List.not_mem_nil, or_false] at hmem
    rcases hmem with rfl <;> assumption
  · simp only [List.mem_cons, List.not_mem_nil, or_false] at hmem
    have h9 := hmem
    · rw [h9]; exact List.mem_append_right _ (List.mem_cons_self)
  · rfl
set_option maxRecDepth 100000 in
theorem K_format (l : Launch) (D : va_G) (cI cL cC cB cZ cR : ClassId) (sz : Nat) (ka : kA) (z : kS) (C Sc Bl : Nat → Nat) (a : Nat) (L : List Nat) (hra : ∀ i, i < 6 → ka.ra i = some (ka.r i)) (hok : mOk C Sc Bl) (hm1 : z.m1 = nI L.length) (hf : oR z.fx L) (hL : L.length ≤ 40) (hch : ∀ y ∈ L, y < 128) (ha6 : a < 6)  (hO : ptO L = 1) (hT : (txT (Bl a) (rdC 1 (Bl a) (pcV (ptC L) (C a)) (Sc a) (ptK L)) (rdS (Sc a) (ptK L)) (gpF L (ptP L)) (fdF L (ptP L)) (ptK L) (kpF L (ptB L) (ptK L)) (ptC L)).length ≤ 80) : Met l yX7_format wsX7_format rm_k_format (xPc D vwCl (tyAll cI cL cC cB cZ cR) [.ref ka.k9, .int (nI a)] (kB cL cC cB cR ka z ++ rgs (kR ka C Sc Bl)) sz) (va_Qi (fun (y : Int32) (u : kS) => y = nI (txT (Bl a) (rdC 1 (Bl a) (pcV (ptC L) (C a)) (Sc a) (ptK L)) (rdS (Sc a) (ptK L)) (gpF L (ptP L)) (fdF L (ptP L)) (ptK L) (kpF L (ptB L) (ptK L)) (ptC L)).length ∧ (u.m2 = nI (txT (Bl a) (rdC 1 (Bl a) (pcV (ptC L) (C a)) (Sc a) (ptK L)) (rdS (Sc a) (ptK L)) (gpF L (ptP L)) (fdF L (ptP L)) (ptK L) (kpF L (ptB L) (ptK L)) (ptC L)).length ∧ oR u.fo (txT (Bl a) (rdC 1 (Bl a) (pcV (ptC L) (C a)) (Sc a) (ptK L)) (rdS (Sc a) (ptK L)) (gpF L (ptP L)) (fdF L (ptP L)) (ptK L) (kpF L (ptB L) (ptK L)) (ptC L))) ∧ kT u z) (xB D vwCl (tyAll cI cL cC cB cZ cR) (va_A (kB cL cC cB cR ka z ++ rgs (kR ka C Sc Bl)) sz) (fun u : kS => kB cL cC cB cR ka u ++ rgs (kR ka C Sc Bl))) (va_A (kB cL cC cB cR ka z ++ rgs (kR ka C Sc Bl)) sz)) 0 0 (va_A (kB cL cC cB cR ka z ++ rgs (kR ka C Sc Bl)) sz) := by
  refine x_fri (pq := fun _ => True) (fun _ _ _ => trivial) (it := [a]) (b := kB cL cC cB cR ka z) (R := kR ka C Sc Bl) (wo := (fun u : kS => kB cL cC cB cR ka u ++ [kR ka C Sc Bl a])) (B1 := fun u => kB cL cC cB cR ka u) (R1 := fun _ => kR ka C Sc Bl) ⟨?_, itI_1 a, fun u _ q hq => List.mem_append_left _ hq, fun u _ => rfl, fun u _ i hmem => ?_, fun u _ i _ hmem => ?_, fun u _ i _ => rfl⟩ (k_format l D cI cL cC cB cZ cR sz ka z (ka.r a) (C a) (Sc a) (Bl a) a L (hok a ha6).1 (hok a ha6).2.1 (hok a ha6).2.2 hm1 hf hL hch ha6 (hra a ha6) hO hT)
  · intro i hmem
    simp only [List.mem_cons, List.not_mem_nil, or_false] at hmem
    rcases hmem with rfl <;> assumption
  · simp only [List.mem_cons, List.not_mem_nil, or_false] at hmem
    have h9 := hmem
    · rw [h9]; exact List.mem_append_right _ (List.mem_cons_self)
  · rfl
