set_option maxRecDepth 100000 in
theorem KT_compute_no (l : Launch) (D : va_G) (cI cL cC cB cZ cR : ClassId) (sz N0 : Nat) (ka : kA) (z : kS) (C Sc Bl : Nat → Nat) (op to a b : Nat) (hra : ∀ i, i < 6 → ka.ra i = some (ka.r i)) (hok : mOk C Sc Bl) (hop : op ≤ 4) (ha6 : a < 6) (hb6 : b < 6) (hto : to < 6) (ho : opR op (C a) (Sc a) (Bl a) (C b) (Sc b) (Bl b) = none) (hN0 : ∀ q ∈ ((kB cL cC cB cR ka z ++ rgs (kR ka C Sc Bl)) : va_W), N0 ≤ q.1) (htr : l.stackTraces = false) : MetT l yX7_compute wsX7_compute rm_kt_compute_no (xPcT D vwCl (tyAll cI cL cC cB cZ cR) [.ref ka.k9, .int (nI op), .int (nI to), .int (nI a), .int (nI b)] (kB cL cC cB cR ka z ++ rgs (kR ka C Sc Bl)) sz N0) (va_Qt eA (fun u : kS => kK u z) (xB D vwCl (tyAll cI cL cC cB cZ cR) (va_A (kB cL cC cB cR ka z ++ rgs (kR ka C Sc Bl)) sz) (fun u : kS => kB cL cC cB cR ka u ++ rgs (kR ka C Sc Bl))) (va_A (kB cL cC cB cR ka z ++ rgs (kR ka C Sc Bl)) sz)) 1 6 (va_A (kB cL cC cB cR ka z ++ rgs (kR ka C Sc Bl)) sz) := by
  by_cases hab : a = b
  · subst hab
    have h6 : ∀ i ∈ ([a] : List Nat), i < 6 := by
      intro i hmem
      simp only [List.mem_cons, List.not_mem_nil, or_false] at hmem
      rcases hmem with rfl <;> assumption
    refine x_frt (it := [a]) (b := kB cL cC cB cR ka z) (R := kR ka C Sc Bl) (wo := fun u : kS => kB cL cC cB cR ka u ++ [kR ka C Sc Bl a]) (B1 := fun u => kB cL cC cB cR ka u) (R1 := fun _ => kR ka C Sc Bl) ⟨h6, itI_1 a, fun u _ q hq => List.mem_append_left _ hq, fun u _ => rfl, fun u _ i hmem => ?_, fun u _ i _ hmem => rfl, fun u _ i _ => rfl⟩ (kt_compute_no_s l D cI cL cC cB cZ cR sz N0 ka z (ka.r a) (C a) (Sc a) (Bl a) op to a a (hok a ha6).1 (hok a ha6).2.1 (hok a ha6).2.2 hop ha6 ha6 hto (hra a ha6) (hra a ha6) ho (fun q hq => hN0 q (fr_sub (b := kB cL cC cB cR ka z) (R := kR ka C Sc Bl) h6 hq)) htr)
    simp only [List.mem_cons, List.not_mem_nil, or_false] at hmem
    have h9 := hmem
    · rw [h9]; exact List.mem_append_right _ (List.mem_cons_self)
  · skip
    have h6 : ∀ i ∈ ([a, b] : List Nat), i < 6 := by
      intro i hmem
      simp only [List.mem_cons, List.not_mem_nil, or_false] at hmem
      rcases hmem with rfl | rfl <;> assumption
    refine x_frt (it := [a, b]) (b := kB cL cC cB cR ka z) (R := kR ka C Sc Bl) (wo := fun u : kS => kB cL cC cB cR ka u ++ [kR ka C Sc Bl a, kR ka C Sc Bl b]) (B1 := fun u => kB cL cC cB cR ka u) (R1 := fun _ => kR ka C Sc Bl) ⟨h6, itI_2 hab, fun u _ q hq => List.mem_append_left _ hq, fun u _ => rfl, fun u _ i hmem => ?_, fun u _ i _ hmem => rfl, fun u _ i _ => rfl⟩ (kt_compute_no l D cI cL cC cB cZ cR sz N0 ka z (ka.r a) (C a) (Sc a) (Bl a) (ka.r b) (C b) (Sc b) (Bl b) op to a b (hok a ha6).1 (hok a ha6).2.1 (hok a ha6).2.2 (hok b hb6).1 (hok b hb6).2.1 (hok b hb6).2.2 hop ha6 hb6 hto (hra a ha6) (hra b hb6) ho (fun q hq => hN0 q (fr_sub (b := kB cL cC cB cR ka z) (R := kR ka C Sc Bl) h6 hq)) htr)
    simp only [List.mem_cons, List.not_mem_nil, or_false] at hmem
    rcases hmem with h9 | h9
    · rw [h9]; exact List.mem_append_right _ (List.mem_cons_self)
    · rw [h9]; exact List.mem_append_right _ (List.mem_cons_of_mem _ (List.mem_cons_self))
set_option maxRecDepth 100000 in
theorem KT_parse_no (l : Launch) (D : va_G) (cI cL cC cB cZ cR : ClassId) (sz N0 : Nat) (ka : kA) (z : kS) (C Sc Bl : Nat → Nat) (a : Nat) (L : List Nat) (hra : ∀ i, i < 6 → ka.ra i = some (ka.r i)) (hm1 : z.m1 = nI L.length) (hf : oR z.fx L) (hL : L.length ≤ 40) (hch : ∀ y ∈ L, y < 128) (ha6 : a < 6) (ho : prR L = none) (hN0 : ∀ q ∈ ((kB cL cC cB cR ka z ++ rgs (kR ka C Sc Bl)) : va_W), N0 ≤ q.1) (htr : l.stackTraces = false) : MetT l yX7_parse wsX7_parse rm_kt_parse_no (xPcT D vwCl (tyAll cI cL cC cB cZ cR) [.ref ka.k9, .int (nI a)] (kB cL cC cB cR ka z ++ rgs (kR ka C Sc Bl)) sz N0) (va_Qt eS (fun u : kS => kK u z) (xB D vwCl (tyAll cI cL cC cB cZ cR) (va_A (kB cL cC cB cR ka z ++ rgs (kR ka C Sc Bl)) sz) (fun u : kS => kB cL cC cB cR ka u ++ rgs (kR ka C Sc Bl))) (va_A (kB cL cC cB cR ka z ++ rgs (kR ka C Sc Bl)) sz)) 1 6 (va_A (kB cL cC cB cR ka z ++ rgs (kR ka C Sc Bl)) sz) := by
  have h6 : ∀ i ∈ ([] : List Nat), i < 6 := by
    intro i hmem
    cases hmem
  refine x_frt (it := []) (b := kB cL cC cB cR ka z) (R := kR ka C Sc Bl) (wo := fun u : kS => kB cL cC cB cR ka u ++ []) (B1 := fun u => kB cL cC cB cR ka u) (R1 := fun _ => kR ka C Sc Bl) ⟨h6, itI_0, fun u _ q hq => List.mem_append_left _ hq, fun u _ => rfl, fun u _ i hmem => ?_, fun u _ i _ hmem => rfl, fun u _ i _ => rfl⟩ (kt_parse_no l D cI cL cC cB cZ cR sz N0 ka z a L hm1 hf hL hch ha6 ho (fun q hq => hN0 q (fr_sub (b := kB cL cC cB cR ka z) (R := kR ka C Sc Bl) h6 hq)) htr)
  cases hmem
set_option maxRecDepth 100000 in
theorem KT_parse_big (l : Launch) (D : va_G) (cI cL cC cB cZ cR : ClassId) (sz N0 : Nat) (ka : kA) (z : kS) (C Sc Bl : Nat → Nat) (a v b9 : Nat) (L : List Nat) (hra : ∀ i, i < 6 → ka.ra i = some (ka.r i)) (hm1 : z.m1 = nI L.length) (hf : oR z.fx L) (hL : L.length ≤ 40) (hch : ∀ y ∈ L, y < 128) (ha6 : a < 6) (ho : prR L = some (v, b9)) (hpc : plc v (10 ^ b9) (min b9 28) = none) (hN0 : ∀ q ∈ ((kB cL cC cB cR ka z ++ rgs (kR ka C Sc Bl)) : va_W), N0 ≤ q.1) (htr : l.stackTraces = false) : MetT l yX7_parse wsX7_parse rm_kt_parse_big (xPcT D vwCl (tyAll cI cL cC cB cZ cR) [.ref ka.k9, .int (nI a)] (kB cL cC cB cR ka z ++ rgs (kR ka C Sc Bl)) sz N0) (va_Qt eA (fun u : kS => kK u z) (xB D vwCl (tyAll cI cL cC cB cZ cR) (va_A (kB cL cC cB cR ka z ++ rgs (kR ka C Sc Bl)) sz) (fun u : kS => kB cL cC cB cR ka u ++ rgs (kR ka C Sc Bl))) (va_A (kB cL cC cB cR ka z ++ rgs (kR ka C Sc Bl)) sz)) 1 6 (va_A (kB cL cC cB cR ka z ++ rgs (kR ka C Sc Bl)) sz) := by
  have h6 : ∀ i ∈ ([] : List Nat), i < 6 := by
    intro i hmem
    cases hmem
  refine x_frt (it := []) (b := kB cL cC cB cR ka z) (R := kR ka C Sc Bl) (wo := fun u : kS => kB cL cC cB cR ka u ++ []) (B1 := fun u => kB cL cC cB cR ka u) (R1 := fun _ => kR ka C Sc Bl) ⟨h6, itI_0, fun u _ q hq => List.mem_append_left _ hq, fun u _ => rfl, fun u _ i hmem => ?_, fun u _ i _ hmem => rfl, fun u _ i _ => rfl⟩ (kt_parse_big l D cI cL cC cB cZ cR sz N0 ka z a v b9 L hm1 hf hL hch ha6 ho hpc (fun q hq => hN0 q (fr_sub (b := kB cL cC cB cR ka z) (R := kR ka C Sc Bl) h6 hq)) htr)
  cases hmem
set_option maxRecDepth 100000 in
theorem KT_format_no (l : Launch) (D : va_G) (cI cL cC cB cZ cR : ClassId) (sz N0 : Nat) (ka : kA) (z : kS) (C Sc Bl : Nat → Nat) (a : Nat) (L : List Nat) (hra : ∀ i, i < 6 → ka.ra i = some (ka.r i)) (hm1 : z.m1 = nI L.length) (hf : oR z.fx L) (hL : L.length ≤ 40) (hch : ∀ y ∈ L, y < 128) (ha6 : a < 6) (hO : ptO L = 0) (hN0 : ∀ q ∈ ((kB cL cC cB cR ka z ++ rgs (kR ka C Sc Bl)) : va_W), N0 ≤ q.1) (htr : l.stackTraces = false) : MetT l yX7_format wsX7_format rm_kt_format_no (xPcT D vwCl (tyAll cI cL cC cB cZ cR) [.ref ka.k9, .int (nI a)] (kB cL cC cB cR ka z ++ rgs (kR ka C Sc Bl)) sz N0) (va_Qt eS (fun u : kS => kK u z) (xB D vwCl (tyAll cI cL cC cB cZ cR) (va_A (kB cL cC cB cR ka z ++ rgs (kR ka C Sc Bl)) sz) (fun u : kS => kB cL cC cB cR ka u ++ rgs (kR ka C Sc Bl))) (va_A (kB cL cC cB cR ka z ++ rgs (kR ka C Sc Bl)) sz)) 1 6 (va_A (kB cL cC cB cR ka z ++ rgs (kR ka C Sc Bl)) sz) := by
  have h6 : ∀ i ∈ ([] : List Nat), i < 6 := by
    intro i hmem
    cases hmem
  refine x_frt (it := []) (b := kB cL cC cB cR ka z) (R := kR ka C Sc Bl) (wo := fun u : kS => kB cL cC cB cR ka u ++ []) (B1 := fun u => kB cL cC cB cR ka u) (R1 := fun _ => kR ka C Sc Bl) ⟨h6, itI_0, fun u _ q hq => List.mem_append_left _ hq, fun u _ => rfl, fun u _ i hmem => ?_, fun u _ i _ hmem => rfl, fun u _ i _ => rfl⟩ (kt_format_no l D cI cL cC cB cZ cR sz N0 ka z a L hm1 hf hL hch ha6 hO (fun q hq => hN0 q (fr_sub (b := kB cL cC cB cR ka z) (R := kR ka C Sc Bl) h6 hq)) htr)
  cases hmem
