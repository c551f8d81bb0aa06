abbrev rm_L_set_y : Room := { frames := 3, cells := 0, slots := 0, locals := 71 }
set_option maxHeartbeats 4000000 in
set_option maxRecDepth 100000 in
theorem L_set_y (l : Launch) (D : va_G) (cI cL cC cB cZ cR : ClassId) (sz N0 : Nat) (ka : kA) (z : kS) (C Sc Bl : Nat → Nat) (a lo hi s9 g9 : Nat) (hra : ∀ i, i < 6 → ka.ra i = some (ka.r i)) (ha6 : a < 6) (hl9 : lo < 18446744073709551616) (hh9 : hi < 4294967296) (hs9 : s9 ≤ 28) (hg9 : g9 ≤ 1) (hN0 : ∀ q ∈ ((kB cL cC cB cR ka z ++ rgs (kR ka C Sc Bl)) : va_W), N0 ≤ q.1) (htr : l.stackTraces = false) : Met l yL_set wsL_set rm_L_set_y (xPcT D vwCl (tyAll cI cL cC cB cZ cR) [.ref ka.k9, .int (nI a), .long (lN lo), .int (nI hi), .int (nI s9), .int (nI g9)] (kB cL cC cB cR ka z ++ rgs (kR ka C Sc Bl)) sz N0) (va_Qi (fun (y : Int32) (u : kS) => y = nI 0 ∧ kK u z) (xB D vwCl (tyAll cI cL cC cB cZ cR) (va_A (kB cL cC cB cR ka z ++ rgs (kR ka C Sc Bl)) sz) (fun u : kS => (kB cL cC cB cR ka u ++ rgs (kR ka (upN C a (lo + 18446744073709551616 * hi)) (upN Sc a s9) (upN Bl a (sgn g9 (lo + 18446744073709551616 * hi))))))) (va_A (kB cL cC cB cR ka z ++ rgs (kR ka C Sc Bl)) sz)) 0 0 (va_A (kB cL cC cB cR ka z ++ rgs (kR ka C Sc Bl)) sz) := by
  refine x_ofW (hh := [(0, 12, 15, 13)]) (Qc := fun A => va_Qi (fun (y : Int32) (u : kS) => y = nI 0 ∧ kK u z) (xB D vwCl (tyAll cI cL cC cB cZ cR) A (fun u : kS => (kB cL cC cB cR ka u ++ rgs (kR ka (upN C a (lo + 18446744073709551616 * hi)) (upN Sc a s9) (upN Bl a (sgn g9 (lo + 18446744073709551616 * hi))))))) A) hN0 (by decide) rfl (Nat.le_of_ble_eq_true rfl) ?_
  intro p e s m args below meth c A H locs ls hx hb hr hts0 hown hlk hml hnm hP hK hD hN hA hS hl htb hX hA0
  have hts : ∀ w ∈ wsA, w.before args s = true := fun w h => hts0 w (List.mem_cons_of_mem _ h)
  have hown : s.vm.findClass "WideDecimalDeskLaw" = some m.cls := hown
  have hl : lv_has ls 8 [(0, .ref ka.k9), (1, .int (nI a)), (2, .long (lN lo)), (4, .int (nI hi)), (5, .int (nI s9)), (6, .int (nI g9))] := hl
  refine lv_aload_n (pc := 0) hx hb dL_set_0 rfl (lv_at hl 0 rfl) ?_
  refine lv_iload_n (pc := 1) hx hb dL_set_1 rfl (lv_at hl 1 rfl) ?_
  refine lv_lload_n (pc := 2) hx hb dL_set_2 rfl (lv_at hl 2 rfl) ?_
  refine lv_iload (pc := 3) hx hb dL_set_3 (lv_at hl 3 rfl) ?_
  refine lv_iload (pc := 5) hx hb dL_set_5 (lv_at hl 4 rfl) ?_
  refine lv_iload (pc := 7) hx hb dL_set_7 (lv_at hl 5 rfl) ?_
  refine x_Vv (pc := 9) (As := [.int (nI a), .long (lN lo), .int (nI hi), .int (nI s9), .int (nI g9)]) (rest := []) (b := ka.k9) (wr := []) ⟨hx, hb, hml, hown, hts⟩ (K_set l D cI cL cC cB cZ cR H.size ka z C Sc Bl a lo hi s9 g9 hra ha6 hl9 hh9 hs9 hg9) ⟨callB_of 5 hts (x_good kw_451) rfl rfl rfl (hts _ kw_1) (hts _ kw_448) dc_X7_set ⟨Nat.le_of_ble_eq_true rfl, Nat.le_of_ble_eq_true rfl⟩, hts _ kw_449, hts _ kw_450⟩ (q0 := 0) rfl rfl rfl rfl hl.1 rfl (Nat.le_of_ble_eq_true rfl) dL_set_9 ⟨Nat.le_refl _, Nat.le_refl _⟩ hN hK hP hD hS hA [0, 1, 2, 3, 4, 5, 6, 7, 8, 9, 10, 11, 12, 13, 14, 15, 16, 17, 18, 19, 20, 21, 22, 23, 24, 25, 26, 27, 28, 29] [] rfl rfl (by decide) (by decide) (by decide) (fun u9 H locs hp9 hP hD hS => ?_)
  obtain ⟨u9, rfl⟩ : ∃ z, z = u9 := ⟨_, rfl⟩
  have hP : va_P D vwCl (kB cL cC cB cR ka u9 ++ rgs (kR ka (upN C a (lo + 18446744073709551616 * hi)) (upN Sc a s9) (upN Bl a (sgn g9 (lo + 18446744073709551616 * hi))))) H := hP
  have hD : va_D A (kB cL cC cB cR ka u9 ++ rgs (kR ka (upN C a (lo + 18446744073709551616 * hi)) (upN Sc a s9) (upN Bl a (sgn g9 (lo + 18446744073709551616 * hi))))) := hD
  refine lv_goto (tgt := 19) (pc := 12) hx hb dL_set_12 (by decide) ?_
  refine lv_iconst (v := nI 0) (pc := 19) hx hb dL_set_19 kI_0 ?_
  exact x_reti (pc := 20) hx hb hr hlk u9 (⟨rfl, hp9⟩) hP hK hD hS dL_set_20
abbrev rm_L_set_n : Room := { frames := 7, cells := 1, slots := 6, locals := 125 }
set_option maxHeartbeats 4000000 in
set_option maxRecDepth 100000 in
theorem L_set_n (l : Launch) (D : va_G) (cI cL cC cB cZ cR : ClassId) (sz N0 : Nat) (ka : kA) (z : kS) (C Sc Bl : Nat → Nat) (p0 : Int32) (p1 : Int64) (p2 p3 p4 : Int32) (hbad : inR 6 p0 = 0 ∨ inR 29 p3 = 0) (hN0 : ∀ q ∈ ((kB cL cC cB cR ka z ++ rgs (kR ka C Sc Bl)) : va_W), N0 ≤ q.1) (htr : l.stackTraces = false) : Met l yL_set wsL_set rm_L_set_n (xPcT D vwCl (tyAll cI cL cC cB cZ cR) [.ref ka.k9, .int p0, .long p1, .int p2, .int p3, .int p4] (kB cL cC cB cR ka z ++ rgs (kR ka C Sc Bl)) sz N0) (va_Qi (fun (y : Int32) (_ : Unit) => y = nI 1) (xB D vwCl (tyAll cI cL cC cB cZ cR) (va_A (kB cL cC cB cR ka z ++ rgs (kR ka C Sc Bl)) sz) (fun u : Unit => (kB cL cC cB cR ka z ++ rgs (kR ka C Sc Bl)))) (va_A (kB cL cC cB cR ka z ++ rgs (kR ka C Sc Bl)) sz)) 1 6 (va_A (kB cL cC cB cR ka z ++ rgs (kR ka C Sc Bl)) sz) := by
  refine x_ofW (hh := [(0, 12, 15, 13)]) (Qc := fun A => va_Qi (fun (y : Int32) (_ : Unit) => y = nI 1) (xB D vwCl (tyAll cI cL cC cB cZ cR) A (fun u : Unit => (kB cL cC cB cR ka z ++ rgs (kR ka C Sc Bl)))) A) hN0 (by decide) rfl (Nat.le_of_ble_eq_true rfl) ?_
  intro p e s m args below meth c A H locs ls hx hb hr hts0 hown hlk hml hnm hP hK hD hN hA hS hl htb hX hA0
  have hts : ∀ w ∈ wsA, w.before args s = true := fun w h => hts0 w (List.mem_cons_of_mem _ h)
  have hown : s.vm.findClass "WideDecimalDeskLaw" = some m.cls := hown
  have hl : lv_has ls 8 [(0, .ref ka.k9), (1, .int p0), (2, .long p1), (4, .int p2), (5, .int p3), (6, .int p4)] := hl
  refine lv_aload_n (pc := 0) hx hb dL_set_0 rfl (lv_at hl 0 rfl) ?_
  refine lv_iload_n (pc := 1) hx hb dL_set_1 rfl (lv_at hl 1 rfl) ?_
  refine lv_lload_n (pc := 2) hx hb dL_set_2 rfl (lv_at hl 2 rfl) ?_
  refine lv_iload (pc := 3) hx hb dL_set_3 (lv_at hl 3 rfl) ?_
  refine lv_iload (pc := 5) hx hb dL_set_5 (lv_at hl 4 rfl) ?_
  refine lv_iload (pc := 7) hx hb dL_set_7 (lv_at hl 5 rfl) ?_
  refine x_caught (pc := 9) (As := [.int p0, .long p1, .int p2, .int p3, .int p4]) (rest := []) (b := ka.k9) (wr := (kB cL cC cB cR ka z ++ rgs (kR ka C Sc Bl))) (N0 := N0) (hpc := 15) (pre := []) (x9 := (0, 12, 15, 13)) (post9 := []) ⟨hx, hb, hml, hown, hts⟩ (kt_set l D cI cL cC cB cZ cR H.size N0 ka.k9 p0 p1 p2 p3 p4 hbad (fun q hq => by cases hq) htr) ⟨callB_of 5 hts (x_good kw_451) rfl rfl rfl (hts _ kw_1) (hts _ kw_448) dc_X7_set ⟨Nat.le_of_ble_eq_true rfl, Nat.le_of_ble_eq_true rfl⟩, hts _ kw_449, hts _ kw_450⟩ (q0 := 0) rfl rfl rfl rfl hl.1 rfl (Nat.le_of_ble_eq_true rfl) dL_set_9 ⟨Nat.le_of_ble_eq_true rfl, Nat.le_of_ble_eq_true rfl⟩ hN hK hP hD hS hA [] [0, 1, 2, 3, 4, 5, 6, 7, 8, 9, 10, 11, 12, 13, 14, 15, 16, 17, 18, 19, 20, 21, 22, 23, 24, 25, 26, 27, 28, 29] rfl rfl (by decide) (by decide) (by decide) hX rfl hA0 htb ⟨(fun r hr => by cases hr), by decide, by decide, by decide, hts _ kw_447, hX.2.1 s (State.WarmedH.refl s) (fun _ _ => rfl) _ cs_I args⟩ rfl (fun u9 ax9 H locs hp9 hP hD hS => ?_)
  have hP : va_P D vwCl (kB cL cC cB cR ka z ++ rgs (kR ka C Sc Bl)) H := hP
  have hD : va_D A (kB cL cC cB cR ka z ++ rgs (kR ka C Sc Bl)) := hD
  refine lv_astore (pc := 15) (lv' := [(7, .ref ax9), (0, .ref ka.k9), (1, .int p0), (2, .long p1), (4, .int p2), (5, .int p3), (6, .int p4)]) hx hb dL_set_15 hl (by decide) rfl (fun ls hl => ?_)
  refine lv_iconst (v := nI 1) (pc := 17) hx hb dL_set_17 kI_1 ?_
  exact x_reti (pc := 18) hx hb hr hlk () rfl hP hK hD hS dL_set_18
abbrev rm_L_compute_y : Room := { frames := 7, cells := 0, slots := 0, locals := 162 }
set_option maxHeartbeats 4000000 in
set_option maxRecDepth 100000 in
theorem L_compute_y (l : Launch) (D : va_G) (cI cL cC cB cZ cR : ClassId) (sz N0 : Nat) (ka : kA) (z : kS) (C Sc Bl : Nat → Nat) (op to a b q s3 g3 : Nat) (hra : ∀ i, i < 6 → ka.ra i = some (ka.r i)) (hok : mOk C Sc Bl) (hop : op ≤ 4) (ha6 : a < 6) (hb6 : b < 6) (hto : to < 6) (ho : opR op (C a) (Sc a) (Bl a) (C b) (Sc b) (Bl b) = some (q, s3, g3)) (hN0 : ∀ q ∈ ((kB cL cC cB cR ka z ++ rgs (kR ka C Sc Bl)) : va_W), N0 ≤ q.1) (htr : l.stackTraces = false) : Met l yL_compute wsL_compute rm_L_compute_y (xPcT D vwCl (tyAll cI cL cC cB cZ cR) [.ref ka.k9, .int (nI op), .int (nI to), .int (nI a), .int (nI b)] (kB cL cC cB cR ka z ++ rgs (kR ka C Sc Bl)) sz N0) (va_Qi (fun (y : Int32) (u : kS) => y = nI 0 ∧ kK u z) (xB D vwCl (tyAll cI cL cC cB cZ cR) (va_A (kB cL cC cB cR ka z ++ rgs (kR ka C Sc Bl)) sz) (fun u : kS => (kB cL cC cB cR ka u ++ rgs (kR ka (upN C to q) (upN Sc to s3) (upN Bl to (sgn g3 q)))))) (va_A (kB cL cC cB cR ka z ++ rgs (kR ka C Sc Bl)) sz)) 0 0 (va_A (kB cL cC cB cR ka z ++ rgs (kR ka C Sc Bl)) sz) := by
  refine x_ofW (hh := [(0, 9, 12, 13), (0, 9, 16, 19)]) (Qc := fun A => va_Qi (fun (y : Int32) (u : kS) => y = nI 0 ∧ kK u z) (xB D vwCl (tyAll cI cL cC cB cZ cR) A (fun u : kS => (kB cL cC cB cR ka u ++ rgs (kR ka (upN C to q) (upN Sc to s3) (upN Bl to (sgn g3 q)))))) A) hN0 (by decide) rfl (Nat.le_of_ble_eq_true rfl) ?_
  intro p e s m args below meth c A H locs ls hx hb hr hts0 hown hlk hml hnm hP hK hD hN hA hS hl htb hX hA0
  have hts : ∀ w ∈ wsA, w.before args s = true := fun w h => hts0 w (List.mem_cons_of_mem _ h)
  have hown : s.vm.findClass "WideDecimalDeskLaw" = some m.cls := hown
  have hl : lv_has ls 6 [(0, .ref ka.k9), (1, .int (nI op)), (2, .int (nI to)), (3, .int (nI a)), (4, .int (nI b))] := hl
  refine lv_aload_n (pc := 0) hx hb dL_compute_0 rfl (lv_at hl 0 rfl) ?_
  refine lv_iload_n (pc := 1) hx hb dL_compute_1 rfl (lv_at hl 1 rfl) ?_
  refine lv_iload_n (pc := 2) hx hb dL_compute_2 rfl (lv_at hl 2 rfl) ?_
  refine lv_iload_n (pc := 3) hx hb dL_compute_3 rfl (lv_at hl 3 rfl) ?_
  refine lv_iload (pc := 4) hx hb dL_compute_4 (lv_at hl 4 rfl) ?_
  refine x_Vv (pc := 6) (As := [.int (nI op), .int (nI to), .int (nI a), .int (nI b)]) (rest := []) (b := ka.k9) (wr := []) ⟨hx, hb, hml, hown, hts⟩ (K_compute l D cI cL cC cB cZ cR H.size ka z C Sc Bl op to a b q s3 g3 hra hok hop ha6 hb6 hto ho) ⟨callB_of 4 hts (x_good kw_530) rfl rfl rfl (hts _ kw_1) (hts _ kw_527) dc_X7_compute ⟨Nat.le_of_ble_eq_true rfl, Nat.le_of_ble_eq_true rfl⟩, hts _ kw_528, hts _ kw_529⟩ (q0 := 0) rfl rfl rfl rfl hl.1 rfl (Nat.le_of_ble_eq_true rfl) dL_compute_6 ⟨Nat.le_refl _, Nat.le_refl _⟩ hN hK hP hD hS hA [0, 1, 2, 3, 4, 5, 6, 7, 8, 9, 10, 11, 12, 13, 14, 15, 16, 17, 18, 19, 20, 21, 22, 23, 24, 25, 26, 27, 28, 29] [] rfl rfl (by decide) (by decide) (by decide) (fun u6 H locs hp9 hP hD hS => ?_)
  obtain ⟨u9, rfl⟩ : ∃ z, z = u6 := ⟨_, rfl⟩
  have hP : va_P D vwCl (kB cL cC cB cR ka u9 ++ rgs (kR ka (upN C to q) (upN Sc to s3) (upN Bl to (sgn g3 q)))) H := hP
  have hD : va_D A (kB cL cC cB cR ka u9 ++ rgs (kR ka (upN C to q) (upN Sc to s3) (upN Bl to (sgn g3 q)))) := hD
  refine lv_goto (tgt := 20) (pc := 9) hx hb dL_compute_9 (by decide) ?_
  refine lv_iconst (v := nI 0) (pc := 20) hx hb dL_compute_20 kI_0 ?_
  exact x_reti (pc := 21) hx hb hr hlk u9 (⟨rfl, hp9⟩) hP hK hD hS dL_compute_21
abbrev rm_L_compute_n : Room := { frames := 7, cells := 1, slots := 6, locals := 123 }
set_option maxHeartbeats 4000000 in
set_option maxRecDepth 100000 in
theorem L_compute_n (l : Launch) (D : va_G) (cI cL cC cB cZ cR : ClassId) (sz N0 : Nat) (ka : kA) (z : kS) (C Sc Bl : Nat → Nat) (p0 p1 p2 p3 : Int32) (hbad : okR p0 p1 p2 p3 = 0) (hN0 : ∀ q ∈ ((kB cL cC cB cR ka z ++ rgs (kR ka C Sc Bl)) : va_W), N0 ≤ q.1) (htr : l.stackTraces = false) : Met l yL_compute wsL_compute rm_L_compute_n (xPcT D vwCl (tyAll cI cL cC cB cZ cR) [.ref ka.k9, .int p0, .int p1, .int p2, .int p3] (kB cL cC cB cR ka z ++ rgs (kR ka C Sc Bl)) sz N0) (va_Qi (fun (y : Int32) (_ : Unit) => y = nI 1) (xB D vwCl (tyAll cI cL cC cB cZ cR) (va_A (kB cL cC cB cR ka z ++ rgs (kR ka C Sc Bl)) sz) (fun u : Unit => (kB cL cC cB cR ka z ++ rgs (kR ka C Sc Bl)))) (va_A (kB cL cC cB cR ka z ++ rgs (kR ka C Sc Bl)) sz)) 1 6 (va_A (kB cL cC cB cR ka z ++ rgs (kR ka C Sc Bl)) sz) := by
  refine x_ofW (hh := [(0, 9, 12, 13), (0, 9, 16, 19)]) (Qc := fun A => va_Qi (fun (y : Int32) (_ : Unit) => y = nI 1) (xB D vwCl (tyAll cI cL cC cB cZ cR) A (fun u : Unit => (kB cL cC cB cR ka z ++ rgs (kR ka C Sc Bl)))) A) hN0 (by decide) rfl (Nat.le_of_ble_eq_true rfl) ?_
  intro p e s m args below meth c A H locs ls hx hb hr hts0 hown hlk hml hnm hP hK hD hN hA hS hl htb hX hA0
  have hts : ∀ w ∈ wsA, w.before args s = true := fun w h => hts0 w (List.mem_cons_of_mem _ h)
  have hown : s.vm.findClass "WideDecimalDeskLaw" = some m.cls := hown
  have hl : lv_has ls 6 [(0, .ref ka.k9), (1, .int p0), (2, .int p1), (3, .int p2), (4, .int p3)] := hl
  refine lv_aload_n (pc := 0) hx hb dL_compute_0 rfl (lv_at hl 0 rfl) ?_
  refine lv_iload_n (pc := 1) hx hb dL_compute_1 rfl (lv_at hl 1 rfl) ?_
  refine lv_iload_n (pc := 2) hx hb dL_compute_2 rfl (lv_at hl 2 rfl) ?_
  refine lv_iload_n (pc := 3) hx hb dL_compute_3 rfl (lv_at hl 3 rfl) ?_
  refine lv_iload (pc := 4) hx hb dL_compute_4 (lv_at hl 4 rfl) ?_
  refine x_caught (pc := 6) (As := [.int p0, .int p1, .int p2, .int p3]) (rest := []) (b := ka.k9) (wr := (kB cL cC cB cR ka z ++ rgs (kR ka C Sc Bl))) (N0 := N0) (hpc := 12) (pre := []) (x9 := (0, 9, 12, 13)) (post9 := [(0, 9, 16, 19)]) ⟨hx, hb, hml, hown, hts⟩ (kt_compute l D cI cL cC cB cZ cR H.size N0 ka.k9 p0 p1 p2 p3 hbad (fun q hq => by cases hq) htr) ⟨callB_of 4 hts (x_good kw_530) rfl rfl rfl (hts _ kw_1) (hts _ kw_527) dc_X7_compute ⟨Nat.le_of_ble_eq_true rfl, Nat.le_of_ble_eq_true rfl⟩, hts _ kw_528, hts _ kw_529⟩ (q0 := 0) rfl rfl rfl rfl hl.1 rfl (Nat.le_of_ble_eq_true rfl) dL_compute_6 ⟨Nat.le_of_ble_eq_true rfl, Nat.le_of_ble_eq_true rfl⟩ hN hK hP hD hS hA [] [0, 1, 2, 3, 4, 5, 6, 7, 8, 9, 10, 11, 12, 13, 14, 15, 16, 17, 18, 19, 20, 21, 22, 23, 24, 25, 26, 27, 28, 29] rfl rfl (by decide) (by decide) (by decide) hX rfl hA0 htb ⟨(fun r hr => by cases hr), by decide, by decide, by decide, hts _ kw_447, hX.2.1 s (State.WarmedH.refl s) (fun _ _ => rfl) _ cs_I args⟩ rfl (fun u6 ax6 H locs hp9 hP hD hS => ?_)
  have hP : va_P D vwCl (kB cL cC cB cR ka z ++ rgs (kR ka C Sc Bl)) H := hP
  have hD : va_D A (kB cL cC cB cR ka z ++ rgs (kR ka C Sc Bl)) := hD
  refine lv_astore (pc := 12) (lv' := [(5, .ref ax6), (0, .ref ka.k9), (1, .int p0), (2, .int p1), (3, .int p2), (4, .int p3)]) hx hb dL_compute_12 hl (by decide) rfl (fun ls hl => ?_)
  refine lv_iconst (v := nI 1) (pc := 14) hx hb dL_compute_14 kI_1 ?_
  exact x_reti (pc := 15) hx hb hr hlk () rfl hP hK hD hS dL_compute_15
abbrev rm_L_compute_a : Room := { frames := 7, cells := 1, slots := 6, locals := 162 }
set_option maxHeartbeats 4000000 in
set_option maxRecDepth 100000 in
theorem L_compute_a (l : Launch) (D : va_G) (cI cL cC cB cZ cR : ClassId) (sz N0 : Nat) (ka : kA) (z : kS) (C Sc Bl : Nat → Nat) (op to a b : Nat) (hra : ∀ i, i < 6 → ka.ra i = some (ka.r i)) (hok : mOk C Sc Bl) (hop : op ≤ 4) (ha6 : a < 6) (hb6 : b < 6) (hto : to < 6) (ho : opR op (C a) (Sc a) (Bl a) (C b) (Sc b) (Bl b) = none) (hN0 : ∀ q ∈ ((kB cL cC cB cR ka z ++ rgs (kR ka C Sc Bl)) : va_W), N0 ≤ q.1) (htr : l.stackTraces = false) : Met l yL_compute wsL_compute rm_L_compute_a (xPcT D vwCl (tyAll cI cL cC cB cZ cR) [.ref ka.k9, .int (nI op), .int (nI to), .int (nI a), .int (nI b)] (kB cL cC cB cR ka z ++ rgs (kR ka C Sc Bl)) sz N0) (va_Qi (fun (y : Int32) (u : kS) => y = nI 2 ∧ kK u z) (xB D vwCl (tyAll cI cL cC cB cZ cR) (va_A (kB cL cC cB cR ka z ++ rgs (kR ka C Sc Bl)) sz) (fun u : kS => (kB cL cC cB cR ka u ++ rgs (kR ka C Sc Bl)))) (va_A (kB cL cC cB cR ka z ++ rgs (kR ka C Sc Bl)) sz)) 1 6 (va_A (kB cL cC cB cR ka z ++ rgs (kR ka C Sc Bl)) sz) := by
  refine x_ofW (hh := [(0, 9, 12, 13), (0, 9, 16, 19)]) (Qc := fun A => va_Qi (fun (y : Int32) (u : kS) => y = nI 2 ∧ kK u z) (xB D vwCl (tyAll cI cL cC cB cZ cR) A (fun u : kS => (kB cL cC cB cR ka u ++ rgs (kR ka C Sc Bl)))) A) hN0 (by decide) rfl (Nat.le_of_ble_eq_true rfl) ?_
  intro p e s m args below meth c A H locs ls hx hb hr hts0 hown hlk hml hnm hP hK hD hN hA hS hl htb hX hA0
  have hts : ∀ w ∈ wsA, w.before args s = true := fun w h => hts0 w (List.mem_cons_of_mem _ h)
  have hown : s.vm.findClass "WideDecimalDeskLaw" = some m.cls := hown
  have hl : lv_has ls 6 [(0, .ref ka.k9), (1, .int (nI op)), (2, .int (nI to)), (3, .int (nI a)), (4, .int (nI b))] := hl
  refine lv_aload_n (pc := 0) hx hb dL_compute_0 rfl (lv_at hl 0 rfl) ?_
  refine lv_iload_n (pc := 1) hx hb dL_compute_1 rfl (lv_at hl 1 rfl) ?_
  refine lv_iload_n (pc := 2) hx hb dL_compute_2 rfl (lv_at hl 2 rfl) ?_
  refine lv_iload_n (pc := 3) hx hb dL_compute_3 rfl (lv_at hl 3 rfl) ?_
  refine lv_iload (pc := 4) hx hb dL_compute_4 (lv_at hl 4 rfl) ?_
  refine x_caught (pc := 6) (As := [.int (nI op), .int (nI to), .int (nI a), .int (nI b)]) (rest := []) (b := ka.k9) (wr := []) (N0 := N0) (hpc := 16) (pre := [(0, 9, 12, 13)]) (x9 := (0, 9, 16, 19)) (post9 := []) ⟨hx, hb, hml, hown, hts⟩ (KT_compute_no l D cI cL cC cB cZ cR H.size N0 ka z C Sc Bl op to a b hra hok hop ha6 hb6 hto ho hN0 htr) ⟨callB_of 4 hts (x_good kw_530) rfl rfl rfl (hts _ kw_1) (hts _ kw_527) dc_X7_compute ⟨Nat.le_of_ble_eq_true rfl, Nat.le_of_ble_eq_true rfl⟩, hts _ kw_528, hts _ kw_529⟩ (q0 := 0) rfl rfl rfl rfl hl.1 rfl (Nat.le_of_ble_eq_true rfl) dL_compute_6 ⟨Nat.le_of_ble_eq_true rfl, Nat.le_of_ble_eq_true rfl⟩ hN hK hP hD hS hA [0, 1, 2, 3, 4, 5, 6, 7, 8, 9, 10, 11, 12, 13, 14, 15, 16, 17, 18, 19, 20, 21, 22, 23, 24, 25, 26, 27, 28, 29] [] rfl rfl (by decide) (by decide) (by decide) hX rfl hA0 htb ⟨(List.forall_mem_cons.mpr ⟨⟨by decide, eI, hts _ kw_447, hX.2.2.2.1⟩, (fun r hr => by cases hr)⟩), by decide, by decide, by decide, hts _ kw_526, hX.2.1 s (State.WarmedH.refl s) (fun _ _ => rfl) _ cs_A args⟩ rfl (fun u6 ax6 H locs hp9 hP hD hS => ?_)
  obtain ⟨u9, rfl⟩ : ∃ z, z = u6 := ⟨_, rfl⟩
  have hP : va_P D vwCl (kB cL cC cB cR ka u9 ++ rgs (kR ka C Sc Bl)) H := hP
  have hD : va_D A (kB cL cC cB cR ka u9 ++ rgs (kR ka C Sc Bl)) := hD
  refine lv_astore (pc := 16) (lv' := [(5, .ref ax6), (0, .ref ka.k9), (1, .int (nI op)), (2, .int (nI to)), (3, .int (nI a)), (4, .int (nI b))]) hx hb dL_compute_16 hl (by decide) rfl (fun ls hl => ?_)
  refine lv_iconst (v := nI 2) (pc := 18) hx hb dL_compute_18 kI_2 ?_
  exact x_reti (pc := 19) hx hb hr hlk u9 (⟨rfl, hp9⟩) hP hK hD hS dL_compute_19
abbrev rm_L_round_y : Room := { frames := 5, cells := 0, slots := 0, locals := 108 }
set_option maxHeartbeats 4000000 in
set_option maxRecDepth 100000 in
theorem L_round_y (l : Launch) (D : va_G) (cI cL cC cB cZ cR : ClassId) (sz N0 : Nat) (ka : kA) (z : kS) (C Sc Bl : Nat → Nat) (to a dg9 md : Nat) (hra : ∀ i, i < 6 → ka.ra i = some (ka.r i)) (hok : mOk C Sc Bl) (ha6 : a < 6) (hto : to < 6) (hdg : dg9 ≤ 28) (hmd : md ≤ 4) (hN0 : ∀ q ∈ ((kB cL cC cB cR ka z ++ rgs (kR ka C Sc Bl)) : va_W), N0 ≤ q.1) (htr : l.stackTraces = false) : Met l yL_round wsL_round rm_L_round_y (xPcT D vwCl (tyAll cI cL cC cB cZ cR) [.ref ka.k9, .int (nI to), .int (nI a), .int (nI dg9), .int (nI md)] (kB cL cC cB cR ka z ++ rgs (kR ka C Sc Bl)) sz N0) (va_Qi (fun (y : Int32) (u : kS) => y = nI 0 ∧ kK u z) (xB D vwCl (tyAll cI cL cC cB cZ cR) (va_A (kB cL cC cB cR ka z ++ rgs (kR ka C Sc Bl)) sz) (fun u : kS => (kB cL cC cB cR ka u ++ rgs (kR ka (upN C to (rdC md (Bl a) (C a) (Sc a) dg9)) (upN Sc to (rdS (Sc a) dg9)) (upN Bl to (sgn (Bl a) (rdC md (Bl a) (C a) (Sc a) dg9))))))) (va_A (kB cL cC cB cR ka z ++ rgs (kR ka C Sc Bl)) sz)) 0 0 (va_A (kB cL cC cB cR ka z ++ rgs (kR ka C Sc Bl)) sz) := by
  refine x_ofW (hh := [(0, 9, 12, 13)]) (Qc := fun A => va_Qi (fun (y : Int32) (u : kS) => y = nI 0 ∧ kK u z) (xB D vwCl (tyAll cI cL cC cB cZ cR) A (fun u : kS => (kB cL cC cB cR ka u ++ rgs (kR ka (upN C to (rdC md (Bl a) (C a) (Sc a) dg9)) (upN Sc to (rdS (Sc a) dg9)) (upN Bl to (sgn (Bl a) (rdC md (Bl a) (C a) (Sc a) dg9))))))) A) hN0 (by decide) rfl (Nat.le_of_ble_eq_true rfl) ?_
  intro p e s m args below meth c A H locs ls hx hb hr hts0 hown hlk hml hnm hP hK hD hN hA hS hl htb hX hA0
  have hts : ∀ w ∈ wsA, w.before args s = true := fun w h => hts0 w (List.mem_cons_of_mem _ h)
  have hown : s.vm.findClass "WideDecimalDeskLaw" = some m.cls := hown
  have hl : lv_has ls 6 [(0, .ref ka.k9), (1, .int (nI to)), (2, .int (nI a)), (3, .int (nI dg9)), (4, .int (nI md))] := hl
  refine lv_aload_n (pc := 0) hx hb dL_round_0 rfl (lv_at hl 0 rfl) ?_
  refine lv_iload_n (pc := 1) hx hb dL_round_1 rfl (lv_at hl 1 rfl) ?_
  refine lv_iload_n (pc := 2) hx hb dL_round_2 rfl (lv_at hl 2 rfl) ?_
  refine lv_iload_n (pc := 3) hx hb dL_round_3 rfl (lv_at hl 3 rfl) ?_
  refine lv_iload (pc := 4) hx hb dL_round_4 (lv_at hl 4 rfl) ?_
  refine x_Vv (pc := 6) (As := [.int (nI to), .int (nI a), .int (nI dg9), .int (nI md)]) (rest := []) (b := ka.k9) (wr := []) ⟨hx, hb, hml, hown, hts⟩ (K_round l D cI cL cC cB cZ cR H.size ka z C Sc Bl to a dg9 md hra hok ha6 hto hdg hmd) ⟨callB_of 4 hts (x_good kw_554) rfl rfl rfl (hts _ kw_1) (hts _ kw_551) dc_X7_round ⟨Nat.le_of_ble_eq_true rfl, Nat.le_of_ble_eq_true rfl⟩, hts _ kw_552, hts _ kw_553⟩ (q0 := 0) rfl rfl rfl rfl hl.1 rfl (Nat.le_of_ble_eq_true rfl) dL_round_6 ⟨Nat.le_refl _, Nat.le_refl _⟩ hN hK hP hD hS hA [0, 1, 2, 3, 4, 5, 6, 7, 8, 9, 10, 11, 12, 13, 14, 15, 16, 17, 18, 19, 20, 21, 22, 23, 24, 25, 26, 27, 28, 29] [] rfl rfl (by decide) (by decide) (by decide) (fun u6 H locs hp9 hP hD hS => ?_)
  obtain ⟨u9, rfl⟩ : ∃ z, z = u6 := ⟨_, rfl⟩
  have hP : va_P D vwCl (kB cL cC cB cR ka u9 ++ rgs (kR ka (upN C to (rdC md (Bl a) (C a) (Sc a) dg9)) (upN Sc to (rdS (Sc a) dg9)) (upN Bl to (sgn (Bl a) (rdC md (Bl a) (C a) (Sc a) dg9))))) H := hP
  have hD : va_D A (kB cL cC cB cR ka u9 ++ rgs (kR ka (upN C to (rdC md (Bl a) (C a) (Sc a) dg9)) (upN Sc to (rdS (Sc a) dg9)) (upN Bl to (sgn (Bl a) (rdC md (Bl a) (C a) (Sc a) dg9))))) := hD
  refine lv_goto (tgt := 16) (pc := 9) hx hb dL_round_9 (by decide) ?_
  refine lv_iconst (v := nI 0) (pc := 16) hx hb dL_round_16 kI_0 ?_
  exact x_reti (pc := 17) hx hb hr hlk u9 (⟨rfl, hp9⟩) hP hK hD hS dL_round_17
abbrev rm_L_round_n : Room := { frames := 7, cells := 1, slots := 6, locals := 123 }
set_option maxHeartbeats 4000000 in
set_option maxRecDepth 100000 in
theorem L_round_n (l : Launch) (D : va_G) (cI cL cC cB cZ cR : ClassId) (sz N0 : Nat) (ka : kA) (z : kS) (C Sc Bl : Nat → Nat) (p0 p1 p2 p3 : Int32) (hbad : inR 6 p0 = 0 ∨ inR 6 p1 = 0 ∨ inR 29 p2 = 0 ∨ inR 5 p3 = 0) (hN0 : ∀ q ∈ ((kB cL cC cB cR ka z ++ rgs (kR ka C Sc Bl)) : va_W), N0 ≤ q.1) (htr : l.stackTraces = false) : Met l yL_round wsL_round rm_L_round_n (xPcT D vwCl (tyAll cI cL cC cB cZ cR) [.ref ka.k9, .int p0, .int p1, .int p2, .int p3] (kB cL cC cB cR ka z ++ rgs (kR ka C Sc Bl)) sz N0) (va_Qi (fun (y : Int32) (_ : Unit) => y = nI 1) (xB D vwCl (tyAll cI cL cC cB cZ cR) (va_A (kB cL cC cB cR ka z ++ rgs (kR ka C Sc Bl)) sz) (fun u : Unit => (kB cL cC cB cR ka z ++ rgs (kR ka C Sc Bl)))) (va_A (kB cL cC cB cR ka z ++ rgs (kR ka C Sc Bl)) sz)) 1 6 (va_A (kB cL cC cB cR ka z ++ rgs (kR ka C Sc Bl)) sz) := by
  refine x_ofW (hh := [(0, 9, 12, 13)]) (Qc := fun A => va_Qi (fun (y : Int32) (_ : Unit) => y = nI 1) (xB D vwCl (tyAll cI cL cC cB cZ cR) A (fun u : Unit => (kB cL cC cB cR ka z ++ rgs (kR ka C Sc Bl)))) A) hN0 (by decide) rfl (Nat.le_of_ble_eq_true rfl) ?_
  intro p e s m args below meth c A H locs ls hx hb hr hts0 hown hlk hml hnm hP hK hD hN hA hS hl htb hX hA0
  have hts : ∀ w ∈ wsA, w.before args s = true := fun w h => hts0 w (List.mem_cons_of_mem _ h)
  have hown : s.vm.findClass "WideDecimalDeskLaw" = some m.cls := hown
  have hl : lv_has ls 6 [(0, .ref ka.k9), (1, .int p0), (2, .int p1), (3, .int p2), (4, .int p3)] := hl
  refine lv_aload_n (pc := 0) hx hb dL_round_0 rfl (lv_at hl 0 rfl) ?_
  refine lv_iload_n (pc := 1) hx hb dL_round_1 rfl (lv_at hl 1 rfl) ?_
  refine lv_iload_n (pc := 2) hx hb dL_round_2 rfl (lv_at hl 2 rfl) ?_
  refine lv_iload_n (pc := 3) hx hb dL_round_3 rfl (lv_at hl 3 rfl) ?_
  refine lv_iload (pc := 4) hx hb dL_round_4 (lv_at hl 4 rfl) ?_
  refine x_caught (pc := 6) (As := [.int p0, .int p1, .int p2, .int p3]) (rest := []) (b := ka.k9) (wr := (kB cL cC cB cR ka z ++ rgs (kR ka C Sc Bl))) (N0 := N0) (hpc := 12) (pre := []) (x9 := (0, 9, 12, 13)) (post9 := []) ⟨hx, hb, hml, hown, hts⟩ (kt_round l D cI cL cC cB cZ cR H.size N0 ka.k9 p0 p1 p2 p3 hbad (fun q hq => by cases hq) htr) ⟨callB_of 4 hts (x_good kw_554) rfl rfl rfl (hts _ kw_1) (hts _ kw_551) dc_X7_round ⟨Nat.le_of_ble_eq_true rfl, Nat.le_of_ble_eq_true rfl⟩, hts _ kw_552, hts _ kw_553⟩ (q0 := 0) rfl rfl rfl rfl hl.1 rfl (Nat.le_of_ble_eq_true rfl) dL_round_6 ⟨Nat.le_of_ble_eq_true rfl, Nat.le_of_ble_eq_true rfl⟩ hN hK hP hD hS hA [] [0, 1, 2, 3, 4, 5, 6, 7, 8, 9, 10, 11, 12, 13, 14, 15, 16, 17, 18, 19, 20, 21, 22, 23, 24, 25, 26, 27, 28, 29] rfl rfl (by decide) (by decide) (by decide) hX rfl hA0 htb ⟨(fun r hr => by cases hr), by decide, by decide, by decide, hts _ kw_447, hX.2.1 s (State.WarmedH.refl s) (fun _ _ => rfl) _ cs_I args⟩ rfl (fun u6 ax6 H locs hp9 hP hD hS => ?_)
  have hP : va_P D vwCl (kB cL cC cB cR ka z ++ rgs (kR ka C Sc Bl)) H := hP
  have hD : va_D A (kB cL cC cB cR ka z ++ rgs (kR ka C Sc Bl)) := hD
  refine lv_astore (pc := 12) (lv' := [(5, .ref ax6), (0, .ref ka.k9), (1, .int p0), (2, .int p1), (3, .int p2), (4, .int p3)]) hx hb dL_round_12 hl (by decide) rfl (fun ls hl => ?_)
  refine lv_iconst (v := nI 1) (pc := 14) hx hb dL_round_14 kI_1 ?_
  exact x_reti (pc := 15) hx hb hr hlk () rfl hP hK hD hS dL_round_15
abbrev rm_L_trim_y : Room := { frames := 4, cells := 0, slots := 0, locals := 88 }
set_option maxHeartbeats 4000000 in
set_option maxRecDepth 100000 in
theorem L_trim_y (l : Launch) (D : va_G) (cI cL cC cB cZ cR : ClassId) (sz N0 : Nat) (ka : kA) (z : kS) (C Sc Bl : Nat → Nat) (to a : Nat) (hra : ∀ i, i < 6 → ka.ra i = some (ka.r i)) (hok : mOk C Sc Bl) (ha6 : a < 6) (hto : to < 6) (hN0 : ∀ q ∈ ((kB cL cC cB cR ka z ++ rgs (kR ka C Sc Bl)) : va_W), N0 ≤ q.1) (htr : l.stackTraces = false) : Met l yL_trim wsL_trim rm_L_trim_y (xPcT D vwCl (tyAll cI cL cC cB cZ cR) [.ref ka.k9, .int (nI to), .int (nI a)] (kB cL cC cB cR ka z ++ rgs (kR ka C Sc Bl)) sz N0) (va_Qi (fun (y : Int32) (u : kS) => y = nI 0 ∧ kK u z) (xB D vwCl (tyAll cI cL cC cB cZ cR) (va_A (kB cL cC cB cR ka z ++ rgs (kR ka C Sc Bl)) sz) (fun u : kS => (kB cL cC cB cR ka u ++ rgs (kR ka (upN C to ((trm (C a) (Sc a)).1)) (upN Sc to ((trm (C a) (Sc a)).2)) (upN Bl to (sgn (Bl a) ((trm (C a) (Sc a)).1))))))) (va_A (kB cL cC cB cR ka z ++ rgs (kR ka C Sc Bl)) sz)) 0 0 (va_A (kB cL cC cB cR ka z ++ rgs (kR ka C Sc Bl)) sz) := by
  refine x_ofW (hh := [(0, 6, 9, 13)]) (Qc := fun A => va_Qi (fun (y : Int32) (u : kS) => y = nI 0 ∧ kK u z) (xB D vwCl (tyAll cI cL cC cB cZ cR) A (fun u : kS => (kB cL cC cB cR ka u ++ rgs (kR ka (upN C to ((trm (C a) (Sc a)).1)) (upN Sc to ((trm (C a) (Sc a)).2)) (upN Bl to (sgn (Bl a) ((trm (C a) (Sc a)).1))))))) A) hN0 (by decide) rfl (Nat.le_of_ble_eq_true rfl) ?_
  intro p e s m args below meth c A H locs ls hx hb hr hts0 hown hlk hml hnm hP hK hD hN hA hS hl htb hX hA0
  have hts : ∀ w ∈ wsA, w.before args s = true := fun w h => hts0 w (List.mem_cons_of_mem _ h)
  have hown : s.vm.findClass "WideDecimalDeskLaw" = some m.cls := hown
  have hl : lv_has ls 4 [(0, .ref ka.k9), (1, .int (nI to)), (2, .int (nI a))] := hl
  refine lv_aload_n (pc := 0) hx hb dL_trim_0 rfl (lv_at hl 0 rfl) ?_
  refine lv_iload_n (pc := 1) hx hb dL_trim_1 rfl (lv_at hl 1 rfl) ?_
  refine lv_iload_n (pc := 2) hx hb dL_trim_2 rfl (lv_at hl 2 rfl) ?_
  refine x_Vv (pc := 3) (As := [.int (nI to), .int (nI a)]) (rest := []) (b := ka.k9) (wr := []) ⟨hx, hb, hml, hown, hts⟩ (K_trim l D cI cL cC cB cZ cR H.size ka z C Sc Bl to a hra hok ha6 hto) ⟨callB_of 2 hts (x_good kw_569) rfl rfl rfl (hts _ kw_1) (hts _ kw_566) dc_X7_trim ⟨Nat.le_of_ble_eq_true rfl, Nat.le_of_ble_eq_true rfl⟩, hts _ kw_567, hts _ kw_568⟩ (q0 := 0) rfl rfl rfl rfl hl.1 rfl (Nat.le_of_ble_eq_true rfl) dL_trim_3 ⟨Nat.le_refl _, Nat.le_refl _⟩ hN hK hP hD hS hA [0, 1, 2, 3, 4, 5, 6, 7, 8, 9, 10, 11, 12, 13, 14, 15, 16, 17, 18, 19, 20, 21, 22, 23, 24, 25, 26, 27, 28, 29] [] rfl rfl (by decide) (by decide) (by decide) (fun u3 H locs hp9 hP hD hS => ?_)
  obtain ⟨u9, rfl⟩ : ∃ z, z = u3 := ⟨_, rfl⟩
  have hP : va_P D vwCl (kB cL cC cB cR ka u9 ++ rgs (kR ka (upN C to ((trm (C a) (Sc a)).1)) (upN Sc to ((trm (C a) (Sc a)).2)) (upN Bl to (sgn (Bl a) ((trm (C a) (Sc a)).1))))) H := hP
  have hD : va_D A (kB cL cC cB cR ka u9 ++ rgs (kR ka (upN C to ((trm (C a) (Sc a)).1)) (upN Sc to ((trm (C a) (Sc a)).2)) (upN Bl to (sgn (Bl a) ((trm (C a) (Sc a)).1))))) := hD
  refine lv_goto (tgt := 12) (pc := 6) hx hb dL_trim_6 (by decide) ?_
  refine lv_iconst (v := nI 0) (pc := 12) hx hb dL_trim_12 kI_0 ?_
  exact x_reti (pc := 13) hx hb hr hlk u9 (⟨rfl, hp9⟩) hP hK hD hS dL_trim_13
abbrev rm_L_trim_n : Room := { frames := 7, cells := 1, slots := 6, locals := 121 }
set_option maxHeartbeats 4000000 in
set_option maxRecDepth 100000 in
theorem L_trim_n (l : Launch) (D : va_G) (cI cL cC cB cZ cR : ClassId) (sz N0 : Nat) (ka : kA) (z : kS) (C Sc Bl : Nat → Nat) (p0 p1 : Int32) (hbad : inR 6 p0 = 0 ∨ inR 6 p1 = 0) (hN0 : ∀ q ∈ ((kB cL cC cB cR ka z ++ rgs (kR ka C Sc Bl)) : va_W), N0 ≤ q.1) (htr : l.stackTraces = false) : Met l yL_trim wsL_trim rm_L_trim_n (xPcT D vwCl (tyAll cI cL cC cB cZ cR) [.ref ka.k9, .int p0, .int p1] (kB cL cC cB cR ka z ++ rgs (kR ka C Sc Bl)) sz N0) (va_Qi (fun (y : Int32) (_ : Unit) => y = nI 1) (xB D vwCl (tyAll cI cL cC cB cZ cR) (va_A (kB cL cC cB cR ka z ++ rgs (kR ka C Sc Bl)) sz) (fun u : Unit => (kB cL cC cB cR ka z ++ rgs (kR ka C Sc Bl)))) (va_A (kB cL cC cB cR ka z ++ rgs (kR ka C Sc Bl)) sz)) 1 6 (va_A (kB cL cC cB cR ka z ++ rgs (kR ka C Sc Bl)) sz) := by
  refine x_ofW (hh := [(0, 6, 9, 13)]) (Qc := fun A => va_Qi (fun (y : Int32) (_ : Unit) => y = nI 1) (xB D vwCl (tyAll cI cL cC cB cZ cR) A (fun u : Unit => (kB cL cC cB cR ka z ++ rgs (kR ka C Sc Bl)))) A) hN0 (by decide) rfl (Nat.le_of_ble_eq_true rfl) ?_
  intro p e s m args below meth c A H locs ls hx hb hr hts0 hown hlk hml hnm hP hK hD hN hA hS hl htb hX hA0
  have hts : ∀ w ∈ wsA, w.before args s = true := fun w h => hts0 w (List.mem_cons_of_mem _ h)
  have hown : s.vm.findClass "WideDecimalDeskLaw" = some m.cls := hown
  have hl : lv_has ls 4 [(0, .ref ka.k9), (1, .int p0), (2, .int p1)] := hl
  refine lv_aload_n (pc := 0) hx hb dL_trim_0 rfl (lv_at hl 0 rfl) ?_
  refine lv_iload_n (pc := 1) hx hb dL_trim_1 rfl (lv_at hl 1 rfl) ?_
  refine lv_iload_n (pc := 2) hx hb dL_trim_2 rfl (lv_at hl 2 rfl) ?_
  refine x_caught (pc := 3) (As := [.int p0, .int p1]) (rest := []) (b := ka.k9) (wr := (kB cL cC cB cR ka z ++ rgs (kR ka C Sc Bl))) (N0 := N0) (hpc := 9) (pre := []) (x9 := (0, 6, 9, 13)) (post9 := []) ⟨hx, hb, hml, hown, hts⟩ (kt_trim l D cI cL cC cB cZ cR H.size N0 ka.k9 p0 p1 hbad (fun q hq => by cases hq) htr) ⟨callB_of 2 hts (x_good kw_569) rfl rfl rfl (hts _ kw_1) (hts _ kw_566) dc_X7_trim ⟨Nat.le_of_ble_eq_true rfl, Nat.le_of_ble_eq_true rfl⟩, hts _ kw_567, hts _ kw_568⟩ (q0 := 0) rfl rfl rfl rfl hl.1 rfl (Nat.le_of_ble_eq_true rfl) dL_trim_3 ⟨Nat.le_of_ble_eq_true rfl, Nat.le_of_ble_eq_true rfl⟩ hN hK hP hD hS hA [] [0, 1, 2, 3, 4, 5, 6, 7, 8, 9, 10, 11, 12, 13, 14, 15, 16, 17, 18, 19, 20, 21, 22, 23, 24, 25, 26, 27, 28, 29] rfl rfl (by decide) (by decide) (by decide) hX rfl hA0 htb ⟨(fun r hr => by cases hr), by decide, by decide, by decide, hts _ kw_447, hX.2.1 s (State.WarmedH.refl s) (fun _ _ => rfl) _ cs_I args⟩ rfl (fun u3 ax3 H locs hp9 hP hD hS => ?_)
  have hP : va_P D vwCl (kB cL cC cB cR ka z ++ rgs (kR ka C Sc Bl)) H := hP
  have hD : va_D A (kB cL cC cB cR ka z ++ rgs (kR ka C Sc Bl)) := hD
  refine lv_astore_n (pc := 9) (lv' := [(3, .ref ax3), (0, .ref ka.k9), (1, .int p0), (2, .int p1)]) hx hb dL_trim_9 rfl hl (by decide) rfl (fun ls hl => ?_)
  refine lv_iconst (v := nI 1) (pc := 10) hx hb dL_trim_10 kI_1 ?_
  exact x_reti (pc := 11) hx hb hr hlk () rfl hP hK hD hS dL_trim_11
abbrev rm_L_parse_y : Room := { frames := 5, cells := 0, slots := 0, locals := 103 }
set_option maxHeartbeats 4000000 in
set_option maxRecDepth 100000 in
theorem L_parse_y (l : Launch) (D : va_G) (cI cL cC cB cZ cR : ClassId) (sz N0 : Nat) (ka : kA) (z : kS) (C Sc Bl : Nat → Nat) (a v b9 q s3 : Nat) (L : List Nat) (hra : ∀ i, i < 6 → ka.ra i = some (ka.r i)) (hm1 : z.m1 = nI L.length) (hf : oR z.fx L) (hL : L.length ≤ 40) (hch : ∀ y ∈ L, y < 128) (ha6 : a < 6) (ho : prR L = some (v, b9)) (hpc : plc v (10 ^ b9) (min b9 28) = some (q, s3)) (hN0 : ∀ q ∈ ((kB cL cC cB cR ka z ++ rgs (kR ka C Sc Bl)) : va_W), N0 ≤ q.1) (htr : l.stackTraces = false) : Met l yL_parse wsL_parse rm_L_parse_y (xPcT D vwCl (tyAll cI cL cC cB cZ cR) [.ref ka.k9, .int (nI a)] (kB cL cC cB cR ka z ++ rgs (kR ka C Sc Bl)) sz N0) (va_Qi (fun (y : Int32) (u : kS) => y = nI 0 ∧ kK u z) (xB D vwCl (tyAll cI cL cC cB cZ cR) (va_A (kB cL cC cB cR ka z ++ rgs (kR ka C Sc Bl)) sz) (fun u : kS => (kB cL cC cB cR ka u ++ rgs (kR ka (upN C a q) (upN Sc a s3) (upN Bl a (sgn (prN L) q)))))) (va_A (kB cL cC cB cR ka z ++ rgs (kR ka C Sc Bl)) sz)) 0 0 (va_A (kB cL cC cB cR ka z ++ rgs (kR ka C Sc Bl)) sz) := by
  refine x_ofW (hh := [(0, 5, 8, 13), (0, 5, 11, 36), (0, 5, 14, 19)]) (Qc := fun A => va_Qi (fun (y : Int32) (u : kS) => y = nI 0 ∧ kK u z) (xB D vwCl (tyAll cI cL cC cB cZ cR) A (fun u : kS => (kB cL cC cB cR ka u ++ rgs (kR ka (upN C a q) (upN Sc a s3) (upN Bl a (sgn (prN L) q)))))) A) hN0 (by decide) rfl (Nat.le_of_ble_eq_true rfl) ?_
  intro p e s m args below meth c A H locs ls hx hb hr hts0 hown hlk hml hnm hP hK hD hN hA hS hl htb hX hA0
  have hts : ∀ w ∈ wsA, w.before args s = true := fun w h => hts0 w (List.mem_cons_of_mem _ h)
  have hown : s.vm.findClass "WideDecimalDeskLaw" = some m.cls := hown
  have hl : lv_has ls 3 [(0, .ref ka.k9), (1, .int (nI a))] := hl
  refine lv_aload_n (pc := 0) hx hb dL_parse_0 rfl (lv_at hl 0 rfl) ?_
  refine lv_iload_n (pc := 1) hx hb dL_parse_1 rfl (lv_at hl 1 rfl) ?_
  refine x_Vv (pc := 2) (As := [.int (nI a)]) (rest := []) (b := ka.k9) (wr := []) ⟨hx, hb, hml, hown, hts⟩ (K_parse l D cI cL cC cB cZ cR H.size ka z C Sc Bl a v b9 q s3 L hra hm1 hf hL hch ha6 ho hpc) ⟨callB_of 1 hts (x_good kw_593) rfl rfl rfl (hts _ kw_1) (hts _ kw_590) dc_X7_parse ⟨Nat.le_of_ble_eq_true rfl, Nat.le_of_ble_eq_true rfl⟩, hts _ kw_591, hts _ kw_592⟩ (q0 := 0) rfl rfl rfl rfl hl.1 rfl (Nat.le_of_ble_eq_true rfl) dL_parse_2 ⟨Nat.le_refl _, Nat.le_refl _⟩ hN hK hP hD hS hA [0, 1, 2, 3, 4, 5, 6, 7, 8, 9, 10, 11, 12, 13, 14, 15, 16, 17, 18, 19, 20, 21, 22, 23, 24, 25, 26, 27, 28, 29] [] rfl rfl (by decide) (by decide) (by decide) (fun u2 H locs hp9 hP hD hS => ?_)
  obtain ⟨u9, rfl⟩ : ∃ z, z = u2 := ⟨_, rfl⟩
  have hP : va_P D vwCl (kB cL cC cB cR ka u9 ++ rgs (kR ka (upN C a q) (upN Sc a s3) (upN Bl a (sgn (prN L) q)))) H := hP
  have hD : va_D A (kB cL cC cB cR ka u9 ++ rgs (kR ka (upN C a q) (upN Sc a s3) (upN Bl a (sgn (prN L) q)))) := hD
  refine lv_goto (tgt := 17) (pc := 5) hx hb dL_parse_5 (by decide) ?_
  refine lv_iconst (v := nI 0) (pc := 17) hx hb dL_parse_17 kI_0 ?_
  exact x_reti (pc := 18) hx hb hr hlk u9 (⟨rfl, hp9⟩) hP hK hD hS dL_parse_18
abbrev rm_L_parse_n : Room := { frames := 7, cells := 1, slots := 6, locals := 120 }
set_option maxHeartbeats 4000000 in
set_option maxRecDepth 100000 in
theorem L_parse_n (l : Launch) (D : va_G) (cI cL cC cB cZ cR : ClassId) (sz N0 : Nat) (ka : kA) (z : kS) (C Sc Bl : Nat → Nat) (p0 : Int32) (hbad : inR 6 p0 = 0) (hN0 : ∀ q ∈ ((kB cL cC cB cR ka z ++ rgs (kR ka C Sc Bl)) : va_W), N0 ≤ q.1) (htr : l.stackTraces = false) : Met l yL_parse wsL_parse rm_L_parse_n (xPcT D vwCl (tyAll cI cL cC cB cZ cR) [.ref ka.k9, .int p0] (kB cL cC cB cR ka z ++ rgs (kR ka C Sc Bl)) sz N0) (va_Qi (fun (y : Int32) (_ : Unit) => y = nI 1) (xB D vwCl (tyAll cI cL cC cB cZ cR) (va_A (kB cL cC cB cR ka z ++ rgs (kR ka C Sc Bl)) sz) (fun u : Unit => (kB cL cC cB cR ka z ++ rgs (kR ka C Sc Bl)))) (va_A (kB cL cC cB cR ka z ++ rgs (kR ka C Sc Bl)) sz)) 1 6 (va_A (kB cL cC cB cR ka z ++ rgs (kR ka C Sc Bl)) sz) := by
  refine x_ofW (hh := [(0, 5, 8, 13), (0, 5, 11, 36), (0, 5, 14, 19)]) (Qc := fun A => va_Qi (fun (y : Int32) (_ : Unit) => y = nI 1) (xB D vwCl (tyAll cI cL cC cB cZ cR) A (fun u : Unit => (kB cL cC cB cR ka z ++ rgs (kR ka C Sc Bl)))) A) hN0 (by decide) rfl (Nat.le_of_ble_eq_true rfl) ?_
  intro p e s m args below meth c A H locs ls hx hb hr hts0 hown hlk hml hnm hP hK hD hN hA hS hl htb hX hA0
  have hts : ∀ w ∈ wsA, w.before args s = true := fun w h => hts0 w (List.mem_cons_of_mem _ h)
  have hown : s.vm.findClass "WideDecimalDeskLaw" = some m.cls := hown
  have hl : lv_has ls 3 [(0, .ref ka.k9), (1, .int p0)] := hl
  refine lv_aload_n (pc := 0) hx hb dL_parse_0 rfl (lv_at hl 0 rfl) ?_
  refine lv_iload_n (pc := 1) hx hb dL_parse_1 rfl (lv_at hl 1 rfl) ?_
  refine x_caught (pc := 2) (As := [.int p0]) (rest := []) (b := ka.k9) (wr := (kB cL cC cB cR ka z ++ rgs (kR ka C Sc Bl))) (N0 := N0) (hpc := 8) (pre := []) (x9 := (0, 5, 8, 13)) (post9 := [(0, 5, 11, 36), (0, 5, 14, 19)]) ⟨hx, hb, hml, hown, hts⟩ (kt_parse l D cI cL cC cB cZ cR H.size N0 ka.k9 p0 hbad (fun q hq => by cases hq) htr) ⟨callB_of 1 hts (x_good kw_593) rfl rfl rfl (hts _ kw_1) (hts _ kw_590) dc_X7_parse ⟨Nat.le_of_ble_eq_true rfl, Nat.le_of_ble_eq_true rfl⟩, hts _ kw_591, hts _ kw_592⟩ (q0 := 0) rfl rfl rfl rfl hl.1 rfl (Nat.le_of_ble_eq_true rfl) dL_parse_2 ⟨Nat.le_of_ble_eq_true rfl, Nat.le_of_ble_eq_true rfl⟩ hN hK hP hD hS hA [] [0, 1, 2, 3, 4, 5, 6, 7, 8, 9, 10, 11, 12, 13, 14, 15, 16, 17, 18, 19, 20, 21, 22, 23, 24, 25, 26, 27, 28, 29] rfl rfl (by decide) (by decide) (by decide) hX rfl hA0 htb ⟨(fun r hr => by cases hr), by decide, by decide, by decide, hts _ kw_447, hX.2.1 s (State.WarmedH.refl s) (fun _ _ => rfl) _ cs_I args⟩ rfl (fun u2 ax2 H locs hp9 hP hD hS => ?_)
  have hP : va_P D vwCl (kB cL cC cB cR ka z ++ rgs (kR ka C Sc Bl)) H := hP
  have hD : va_D A (kB cL cC cB cR ka z ++ rgs (kR ka C Sc Bl)) := hD
  refine lv_astore_n (pc := 8) (lv' := [(2, .ref ax2), (0, .ref ka.k9), (1, .int p0)]) hx hb dL_parse_8 rfl hl (by decide) rfl (fun ls hl => ?_)
  refine lv_iconst (v := nI 1) (pc := 9) hx hb dL_parse_9 kI_1 ?_
  exact x_reti (pc := 10) hx hb hr hlk () rfl hP hK hD hS dL_parse_10
abbrev rm_L_parse_s : Room := { frames := 7, cells := 1, slots := 6, locals := 120 }
set_option maxHeartbeats 4000000 in
set_option maxRecDepth 100000 in
theorem L_parse_s (l : Launch) (D : va_G) (cI cL cC cB cZ cR : ClassId) (sz N0 : Nat) (ka : kA) (z : kS) (C Sc Bl : Nat → Nat) (a : Nat) (L : List Nat) (hra : ∀ i, i < 6 → ka.ra i = some (ka.r i)) (hm1 : z.m1 = nI L.length) (hf : oR z.fx L) (hL : L.length ≤ 40) (hch : ∀ y ∈ L, y < 128) (ha6 : a < 6) (ho : prR L = none) (hN0 : ∀ q ∈ ((kB cL cC cB cR ka z ++ rgs (kR ka C Sc Bl)) : va_W), N0 ≤ q.1) (htr : l.stackTraces = false) : Met l yL_parse wsL_parse rm_L_parse_s (xPcT D vwCl (tyAll cI cL cC cB cZ cR) [.ref ka.k9, .int (nI a)] (kB cL cC cB cR ka z ++ rgs (kR ka C Sc Bl)) sz N0) (va_Qi (fun (y : Int32) (u : kS) => y = nI 2 ∧ kK u z) (xB D vwCl (tyAll cI cL cC cB cZ cR) (va_A (kB cL cC cB cR ka z ++ rgs (kR ka C Sc Bl)) sz) (fun u : kS => (kB cL cC cB cR ka u ++ rgs (kR ka C Sc Bl)))) (va_A (kB cL cC cB cR ka z ++ rgs (kR ka C Sc Bl)) sz)) 1 6 (va_A (kB cL cC cB cR ka z ++ rgs (kR ka C Sc Bl)) sz) := by
  refine x_ofW (hh := [(0, 5, 8, 13), (0, 5, 11, 36), (0, 5, 14, 19)]) (Qc := fun A => va_Qi (fun (y : Int32) (u : kS) => y = nI 2 ∧ kK u z) (xB D vwCl (tyAll cI cL cC cB cZ cR) A (fun u : kS => (kB cL cC cB cR ka u ++ rgs (kR ka C Sc Bl)))) A) hN0 (by decide) rfl (Nat.le_of_ble_eq_true rfl) ?_
  intro p e s m args below meth c A H locs ls hx hb hr hts0 hown hlk hml hnm hP hK hD hN hA hS hl htb hX hA0
  have hts : ∀ w ∈ wsA, w.before args s = true := fun w h => hts0 w (List.mem_cons_of_mem _ h)
  have hown : s.vm.findClass "WideDecimalDeskLaw" = some m.cls := hown
  have hl : lv_has ls 3 [(0, .ref ka.k9), (1, .int (nI a))] := hl
  refine lv_aload_n (pc := 0) hx hb dL_parse_0 rfl (lv_at hl 0 rfl) ?_
  refine lv_iload_n (pc := 1) hx hb dL_parse_1 rfl (lv_at hl 1 rfl) ?_
  refine x_caught (pc := 2) (As := [.int (nI a)]) (rest := []) (b := ka.k9) (wr := []) (N0 := N0) (hpc := 11) (pre := [(0, 5, 8, 13)]) (x9 := (0, 5, 11, 36)) (post9 := [(0, 5, 14, 19)]) ⟨hx, hb, hml, hown, hts⟩ (KT_parse_no l D cI cL cC cB cZ cR H.size N0 ka z C Sc Bl a L hra hm1 hf hL hch ha6 ho hN0 htr) ⟨callB_of 1 hts (x_good kw_593) rfl rfl rfl (hts _ kw_1) (hts _ kw_590) dc_X7_parse ⟨Nat.le_of_ble_eq_true rfl, Nat.le_of_ble_eq_true rfl⟩, hts _ kw_591, hts _ kw_592⟩ (q0 := 0) rfl rfl rfl rfl hl.1 rfl (Nat.le_of_ble_eq_true rfl) dL_parse_2 ⟨Nat.le_of_ble_eq_true rfl, Nat.le_of_ble_eq_true rfl⟩ hN hK hP hD hS hA [0, 1, 2, 3, 4, 5, 6, 7, 8, 9, 10, 11, 12, 13, 14, 15, 16, 17, 18, 19, 20, 21, 22, 23, 24, 25, 26, 27, 28, 29] [] rfl rfl (by decide) (by decide) (by decide) hX rfl hA0 htb ⟨(List.forall_mem_cons.mpr ⟨⟨by decide, eI, hts _ kw_447, hX.2.2.1⟩, (fun r hr => by cases hr)⟩), by decide, by decide, by decide, hts _ kw_589, hX.2.1 s (State.WarmedH.refl s) (fun _ _ => rfl) _ cs_S args⟩ rfl (fun u2 ax2 H locs hp9 hP hD hS => ?_)
  obtain ⟨u9, rfl⟩ : ∃ z, z = u2 := ⟨_, rfl⟩
  have hP : va_P D vwCl (kB cL cC cB cR ka u9 ++ rgs (kR ka C Sc Bl)) H := hP
  have hD : va_D A (kB cL cC cB cR ka u9 ++ rgs (kR ka C Sc Bl)) := hD
  refine lv_astore_n (pc := 11) (lv' := [(2, .ref ax2), (0, .ref ka.k9), (1, .int (nI a))]) hx hb dL_parse_11 rfl hl (by decide) rfl (fun ls hl => ?_)
  refine lv_iconst (v := nI 2) (pc := 12) hx hb dL_parse_12 kI_2 ?_
  exact x_reti (pc := 13) hx hb hr hlk u9 (⟨rfl, hp9⟩) hP hK hD hS dL_parse_13
abbrev rm_L_parse_a : Room := { frames := 7, cells := 1, slots := 6, locals := 120 }
set_option maxHeartbeats 4000000 in
set_option maxRecDepth 100000 in
theorem L_parse_a (l : Launch) (D : va_G) (cI cL cC cB cZ cR : ClassId) (sz N0 : Nat) (ka : kA) (z : kS) (C Sc Bl : Nat → Nat) (a v b9 : Nat) (L : List Nat) (hra : ∀ i, i < 6 → ka.ra i = some (ka.r i)) (hm1 : z.m1 = nI L.length) (hf : oR z.fx L) (hL : L.length ≤ 40) (hch : ∀ y ∈ L, y < 128) (ha6 : a < 6) (ho : prR L = some (v, b9)) (hpc : plc v (10 ^ b9) (min b9 28) = none) (hN0 : ∀ q ∈ ((kB cL cC cB cR ka z ++ rgs (kR ka C Sc Bl)) : va_W), N0 ≤ q.1) (htr : l.stackTraces = false) : Met l yL_parse wsL_parse rm_L_parse_a (xPcT D vwCl (tyAll cI cL cC cB cZ cR) [.ref ka.k9, .int (nI a)] (kB cL cC cB cR ka z ++ rgs (kR ka C Sc Bl)) sz N0) (va_Qi (fun (y : Int32) (u : kS) => y = nI 3 ∧ kK u z) (xB D vwCl (tyAll cI cL cC cB cZ cR) (va_A (kB cL cC cB cR ka z ++ rgs (kR ka C Sc Bl)) sz) (fun u : kS => (kB cL cC cB cR ka u ++ rgs (kR ka C Sc Bl)))) (va_A (kB cL cC cB cR ka z ++ rgs (kR ka C Sc Bl)) sz)) 1 6 (va_A (kB cL cC cB cR ka z ++ rgs (kR ka C Sc Bl)) sz) := by
  refine x_ofW (hh := [(0, 5, 8, 13), (0, 5, 11, 36), (0, 5, 14, 19)]) (Qc := fun A => va_Qi (fun (y : Int32) (u : kS) => y = nI 3 ∧ kK u z) (xB D vwCl (tyAll cI cL cC cB cZ cR) A (fun u : kS => (kB cL cC cB cR ka u ++ rgs (kR ka C Sc Bl)))) A) hN0 (by decide) rfl (Nat.le_of_ble_eq_true rfl) ?_
  intro p e s m args below meth c A H locs ls hx hb hr hts0 hown hlk hml hnm hP hK hD hN hA hS hl htb hX hA0
  have hts : ∀ w ∈ wsA, w.before args s = true := fun w h => hts0 w (List.mem_cons_of_mem _ h)
  have hown : s.vm.findClass "WideDecimalDeskLaw" = some m.cls := hown
  have hl : lv_has ls 3 [(0, .ref ka.k9), (1, .int (nI a))] := hl
  refine lv_aload_n (pc := 0) hx hb dL_parse_0 rfl (lv_at hl 0 rfl) ?_
  refine lv_iload_n (pc := 1) hx hb dL_parse_1 rfl (lv_at hl 1 rfl) ?_
  refine x_caught (pc := 2) (As := [.int (nI a)]) (rest := []) (b := ka.k9) (wr := []) (N0 := N0) (hpc := 14) (pre := [(0, 5, 8, 13), (0, 5, 11, 36)]) (x9 := (0, 5, 14, 19)) (post9 := []) ⟨hx, hb, hml, hown, hts⟩ (KT_parse_big l D cI cL cC cB cZ cR H.size N0 ka z C Sc Bl a v b9 L hra hm1 hf hL hch ha6 ho hpc hN0 htr) ⟨callB_of 1 hts (x_good kw_593) rfl rfl rfl (hts _ kw_1) (hts _ kw_590) dc_X7_parse ⟨Nat.le_of_ble_eq_true rfl, Nat.le_of_ble_eq_true rfl⟩, hts _ kw_591, hts _ kw_592⟩ (q0 := 0) rfl rfl rfl rfl hl.1 rfl (Nat.le_of_ble_eq_true rfl) dL_parse_2 ⟨Nat.le_of_ble_eq_true rfl, Nat.le_of_ble_eq_true rfl⟩ hN hK hP hD hS hA [0, 1, 2, 3, 4, 5, 6, 7, 8, 9, 10, 11, 12, 13, 14, 15, 16, 17, 18, 19, 20, 21, 22, 23, 24, 25, 26, 27, 28, 29] [] rfl rfl (by decide) (by decide) (by decide) hX rfl hA0 htb ⟨(List.forall_mem_cons.mpr ⟨⟨by decide, eI, hts _ kw_447, hX.2.2.2.1⟩, (List.forall_mem_cons.mpr ⟨⟨by decide, eS, hts _ kw_589, hX.2.2.2.2⟩, (fun r hr => by cases hr)⟩)⟩), by decide, by decide, by decide, hts _ kw_526, hX.2.1 s (State.WarmedH.refl s) (fun _ _ => rfl) _ cs_A args⟩ rfl (fun u2 ax2 H locs hp9 hP hD hS => ?_)
  obtain ⟨u9, rfl⟩ : ∃ z, z = u2 := ⟨_, rfl⟩
  have hP : va_P D vwCl (kB cL cC cB cR ka u9 ++ rgs (kR ka C Sc Bl)) H := hP
  have hD : va_D A (kB cL cC cB cR ka u9 ++ rgs (kR ka C Sc Bl)) := hD
  refine lv_astore_n (pc := 14) (lv' := [(2, .ref ax2), (0, .ref ka.k9), (1, .int (nI a))]) hx hb dL_parse_14 rfl hl (by decide) rfl (fun ls hl => ?_)
  refine lv_iconst (v := nI 3) (pc := 15) hx hb dL_parse_15 kI_3 ?_
  exact x_reti (pc := 16) hx hb hr hlk u9 (⟨rfl, hp9⟩) hP hK hD hS dL_parse_16
abbrev rm_L_compare_y : Room := { frames := 5, cells := 0, slots := 0, locals := 109 }
set_option maxHeartbeats 4000000 in
set_option maxRecDepth 100000 in
theorem L_compare_y (l : Launch) (D : va_G) (cI cL cC cB cZ cR : ClassId) (sz N0 : Nat) (ka : kA) (z : kS) (C Sc Bl : Nat → Nat) (oc : Nat) (a b : Nat) (fo9 : Nat → Int64) (hra : ∀ i, i < 6 → ka.ra i = some (ka.r i)) (hok : mOk C Sc Bl) (ha6 : a < 6) (hb6 : b < 6) (hz : ∀ i, i < 6 → Bl i = 1 → C i ≠ 0) (hN0 : ∀ q ∈ (((kB cL cC cB cR ka z ++ rgs (kR ka C Sc Bl)) ++ ([(oc, .inl (cL, 1, .inr (.inl fo9)))] : va_W)) : va_W), N0 ≤ q.1) (htr : l.stackTraces = false) : Met l yL_compare wsL_compare rm_L_compare_y (xPcT D vwCl (tyAll cI cL cC cB cZ cR) [.ref ka.k9, .int (nI a), .int (nI b), .ref oc] ((kB cL cC cB cR ka z ++ rgs (kR ka C Sc Bl)) ++ ([(oc, .inl (cL, 1, .inr (.inl fo9)))] : va_W)) sz N0) (va_Qi (fun (y : Int32) (u : (kS × (Nat → Int64))) => y = nI 0 ∧ u.2 0 = (cmpR (jnV (Bl a) (neq (Bl b) 1) (C a * 10 ^ (Sc b - Sc a)) (C b * 10 ^ (Sc a - Sc b))) (jnS (Bl a) (neq (Bl b) 1) (C a * 10 ^ (Sc b - Sc a)) (C b * 10 ^ (Sc a - Sc b)))).toInt64 ∧ kK u.1 z) (xB D vwCl (tyAll cI cL cC cB cZ cR) (va_A ((kB cL cC cB cR ka z ++ rgs (kR ka C Sc Bl)) ++ ([(oc, .inl (cL, 1, .inr (.inl fo9)))] : va_W)) sz) (fun u : (kS × (Nat → Int64)) => ((kB cL cC cB cR ka u.1 ++ rgs (kR ka C Sc Bl)) ++ ([(oc, .inl (cL, 1, .inr (.inl u.2)))] : va_W)))) (va_A ((kB cL cC cB cR ka z ++ rgs (kR ka C Sc Bl)) ++ ([(oc, .inl (cL, 1, .inr (.inl fo9)))] : va_W)) sz)) 0 0 (va_A ((kB cL cC cB cR ka z ++ rgs (kR ka C Sc Bl)) ++ ([(oc, .inl (cL, 1, .inr (.inl fo9)))] : va_W)) sz) := by
  refine x_ofW (hh := [(0, 10, 13, 13)]) (Qc := fun A => va_Qi (fun (y : Int32) (u : (kS × (Nat → Int64))) => y = nI 0 ∧ u.2 0 = (cmpR (jnV (Bl a) (neq (Bl b) 1) (C a * 10 ^ (Sc b - Sc a)) (C b * 10 ^ (Sc a - Sc b))) (jnS (Bl a) (neq (Bl b) 1) (C a * 10 ^ (Sc b - Sc a)) (C b * 10 ^ (Sc a - Sc b)))).toInt64 ∧ kK u.1 z) (xB D vwCl (tyAll cI cL cC cB cZ cR) A (fun u : (kS × (Nat → Int64)) => ((kB cL cC cB cR ka u.1 ++ rgs (kR ka C Sc Bl)) ++ ([(oc, .inl (cL, 1, .inr (.inl u.2)))] : va_W)))) A) hN0 (by decide) rfl (Nat.le_of_ble_eq_true rfl) ?_
  intro p e s m args below meth c A H locs ls hx hb hr hts0 hown hlk hml hnm hP hK hD hN hA hS hl htb hX hA0
  have hts : ∀ w ∈ wsA, w.before args s = true := fun w h => hts0 w (List.mem_cons_of_mem _ h)
  have hown : s.vm.findClass "WideDecimalDeskLaw" = some m.cls := hown
  have hl : lv_has ls 5 [(0, .ref ka.k9), (1, .int (nI a)), (2, .int (nI b)), (3, .ref oc)] := hl
  refine lv_aload_n (pc := 0) hx hb dL_compare_0 rfl (lv_at hl 3 rfl) ?_
  refine lv_iconst (v := nI 0) (pc := 1) hx hb dL_compare_1 kI_0 ?_
  refine lv_aload_n (pc := 2) hx hb dL_compare_2 rfl (lv_at hl 0 rfl) ?_
  refine lv_iload_n (pc := 3) hx hb dL_compare_3 rfl (lv_at hl 1 rfl) ?_
  refine lv_iload_n (pc := 4) hx hb dL_compare_4 rfl (lv_at hl 2 rfl) ?_
  refine x_Vi (pc := 5) (As := [.int (nI a), .int (nI b)]) (rest := [.int (nI 0), .ref oc]) (b := ka.k9) (wr := [(oc, .inl (cL, 1, .inr (.inl fo9)))]) ⟨hx, hb, hml, hown, hts⟩ (K_compare l D cI cL cC cB cZ cR H.size ka z C Sc Bl a b hra hok ha6 hb6 hz) ⟨callB_of 2 hts (x_good kw_581) rfl rfl rfl (hts _ kw_1) (hts _ kw_578) dc_X7_compare ⟨Nat.le_of_ble_eq_true rfl, Nat.le_of_ble_eq_true rfl⟩, hts _ kw_579, hts _ kw_580⟩ (q0 := 0) rfl rfl rfl rfl hl.1 rfl (Nat.le_of_ble_eq_true rfl) dL_compare_5 ⟨Nat.le_refl _, Nat.le_refl _⟩ hN hK hP hD hS hA [0, 1, 2, 3, 4, 5, 6, 7, 8, 9, 10, 11, 12, 13, 14, 15, 16, 17, 18, 19, 20, 21, 22, 23, 24, 25, 26, 27, 28, 29] [30] rfl rfl (by decide) (by decide) (by decide) (fun r5 u5 H locs q5 hP hD hS => ?_)
  obtain ⟨u9, rfl⟩ : ∃ z, z = u5 := ⟨_, rfl⟩
  have hP : va_P D vwCl (([(oc, .inl (cL, 1, .inr (.inl fo9)))] : va_W) ++ (kB cL cC cB cR ka u9 ++ rgs (kR ka C Sc Bl))) H := hP
  have hD : va_D A (([(oc, .inl (cL, 1, .inr (.inl fo9)))] : va_W) ++ (kB cL cC cB cR ka u9 ++ rgs (kR ka C Sc Bl))) := hD
  obtain ⟨rfl, hp9⟩ := q5
  refine lv_i2l (v := (cmpR (jnV (Bl a) (neq (Bl b) 1) (C a * 10 ^ (Sc b - Sc a)) (C b * 10 ^ (Sc a - Sc b))) (jnS (Bl a) (neq (Bl b) 1) (C a * 10 ^ (Sc b - Sc a)) (C b * 10 ^ (Sc a - Sc b)))).toInt64) (pc := 8) hx hb dL_compare_8 rfl ?_
  refine x_last (pc := 9) hx hb hK hP hD hS 0 1 rfl rfl (by omega) (by decide) dL_compare_9 (fun H locs hP hD hS => ?_)
  have hP : va_P D vwCl (([(oc, .inl (cL, 1, .inr (.inl (vp_updL fo9 0 ((cmpR (jnV (Bl a) (neq (Bl b) 1) (C a * 10 ^ (Sc b - Sc a)) (C b * 10 ^ (Sc a - Sc b))) (jnS (Bl a) (neq (Bl b) 1) (C a * 10 ^ (Sc b - Sc a)) (C b * 10 ^ (Sc a - Sc b)))).toInt64)))))] : va_W) ++ (kB cL cC cB cR ka u9 ++ rgs (kR ka C Sc Bl))) H := hP
  have hD : va_D A (([(oc, .inl (cL, 1, .inr (.inl (vp_updL fo9 0 ((cmpR (jnV (Bl a) (neq (Bl b) 1) (C a * 10 ^ (Sc b - Sc a)) (C b * 10 ^ (Sc a - Sc b))) (jnS (Bl a) (neq (Bl b) 1) (C a * 10 ^ (Sc b - Sc a)) (C b * 10 ^ (Sc a - Sc b)))).toInt64)))))] : va_W) ++ (kB cL cC cB cR ka u9 ++ rgs (kR ka C Sc Bl))) := hD
  refine lv_goto (tgt := 17) (pc := 10) hx hb dL_compare_10 (by decide) ?_
  refine lv_iconst (v := nI 0) (pc := 17) hx hb dL_compare_17 kI_0 ?_
  have hP := x_Psub (w := ((kB cL cC cB cR ka u9 ++ rgs (kR ka C Sc Bl)) ++ ([(oc, .inl (cL, 1, .inr (.inl (vp_updL fo9 0 ((cmpR (jnV (Bl a) (neq (Bl b) 1) (C a * 10 ^ (Sc b - Sc a)) (C b * 10 ^ (Sc a - Sc b))) (jnS (Bl a) (neq (Bl b) 1) (C a * 10 ^ (Sc b - Sc a)) (C b * 10 ^ (Sc a - Sc b)))).toInt64)))))] : va_W))) (is := [1, 2, 3, 4, 5, 6, 7, 8, 9, 10, 11, 12, 13, 14, 15, 16, 17, 18, 19, 20, 21, 22, 23, 24, 25, 26, 27, 28, 29, 30, 0]) hP rfl
  have hD := hD.sub (ws' := ((kB cL cC cB cR ka u9 ++ rgs (kR ka C Sc Bl)) ++ ([(oc, .inl (cL, 1, .inr (.inl (vp_updL fo9 0 ((cmpR (jnV (Bl a) (neq (Bl b) 1) (C a * 10 ^ (Sc b - Sc a)) (C b * 10 ^ (Sc a - Sc b))) (jnS (Bl a) (neq (Bl b) 1) (C a * 10 ^ (Sc b - Sc a)) (C b * 10 ^ (Sc a - Sc b)))).toInt64)))))] : va_W))) [1, 2, 3, 4, 5, 6, 7, 8, 9, 10, 11, 12, 13, 14, 15, 16, 17, 18, 19, 20, 21, 22, 23, 24, 25, 26, 27, 28, 29, 30, 0] (by decide) rfl
  exact x_reti (pc := 18) hx hb hr hlk (u9, vp_updL fo9 0 ((cmpR (jnV (Bl a) (neq (Bl b) 1) (C a * 10 ^ (Sc b - Sc a)) (C b * 10 ^ (Sc a - Sc b))) (jnS (Bl a) (neq (Bl b) 1) (C a * 10 ^ (Sc b - Sc a)) (C b * 10 ^ (Sc a - Sc b)))).toInt64)) (⟨rfl, rfl, hp9⟩) hP hK hD hS dL_compare_18
abbrev rm_L_compare_n : Room := { frames := 7, cells := 1, slots := 6, locals := 121 }
set_option maxHeartbeats 4000000 in
set_option maxRecDepth 100000 in
theorem L_compare_n (l : Launch) (D : va_G) (cI cL cC cB cZ cR : ClassId) (sz N0 : Nat) (ka : kA) (z : kS) (C Sc Bl : Nat → Nat) (oc : Nat) (p0 p1 : Int32) (fo9 : Nat → Int64) (hbad : inR 6 p0 = 0 ∨ inR 6 p1 = 0) (hN0 : ∀ q ∈ (((kB cL cC cB cR ka z ++ rgs (kR ka C Sc Bl)) ++ ([(oc, .inl (cL, 1, .inr (.inl fo9)))] : va_W)) : va_W), N0 ≤ q.1) (htr : l.stackTraces = false) : Met l yL_compare wsL_compare rm_L_compare_n (xPcT D vwCl (tyAll cI cL cC cB cZ cR) [.ref ka.k9, .int p0, .int p1, .ref oc] ((kB cL cC cB cR ka z ++ rgs (kR ka C Sc Bl)) ++ ([(oc, .inl (cL, 1, .inr (.inl fo9)))] : va_W)) sz N0) (va_Qi (fun (y : Int32) (_ : Unit) => y = nI 1) (xB D vwCl (tyAll cI cL cC cB cZ cR) (va_A ((kB cL cC cB cR ka z ++ rgs (kR ka C Sc Bl)) ++ ([(oc, .inl (cL, 1, .inr (.inl fo9)))] : va_W)) sz) (fun u : Unit => ((kB cL cC cB cR ka z ++ rgs (kR ka C Sc Bl)) ++ ([(oc, .inl (cL, 1, .inr (.inl fo9)))] : va_W)))) (va_A ((kB cL cC cB cR ka z ++ rgs (kR ka C Sc Bl)) ++ ([(oc, .inl (cL, 1, .inr (.inl fo9)))] : va_W)) sz)) 1 6 (va_A ((kB cL cC cB cR ka z ++ rgs (kR ka C Sc Bl)) ++ ([(oc, .inl (cL, 1, .inr (.inl fo9)))] : va_W)) sz) := by
  refine x_ofW (hh := [(0, 10, 13, 13)]) (Qc := fun A => va_Qi (fun (y : Int32) (_ : Unit) => y = nI 1) (xB D vwCl (tyAll cI cL cC cB cZ cR) A (fun u : Unit => ((kB cL cC cB cR ka z ++ rgs (kR ka C Sc Bl)) ++ ([(oc, .inl (cL, 1, .inr (.inl fo9)))] : va_W)))) A) hN0 (by decide) rfl (Nat.le_of_ble_eq_true rfl) ?_
  intro p e s m args below meth c A H locs ls hx hb hr hts0 hown hlk hml hnm hP hK hD hN hA hS hl htb hX hA0
  have hts : ∀ w ∈ wsA, w.before args s = true := fun w h => hts0 w (List.mem_cons_of_mem _ h)
  have hown : s.vm.findClass "WideDecimalDeskLaw" = some m.cls := hown
  have hl : lv_has ls 5 [(0, .ref ka.k9), (1, .int p0), (2, .int p1), (3, .ref oc)] := hl
  refine lv_aload_n (pc := 0) hx hb dL_compare_0 rfl (lv_at hl 3 rfl) ?_
  refine lv_iconst (v := nI 0) (pc := 1) hx hb dL_compare_1 kI_0 ?_
  refine lv_aload_n (pc := 2) hx hb dL_compare_2 rfl (lv_at hl 0 rfl) ?_
  refine lv_iload_n (pc := 3) hx hb dL_compare_3 rfl (lv_at hl 1 rfl) ?_
  refine lv_iload_n (pc := 4) hx hb dL_compare_4 rfl (lv_at hl 2 rfl) ?_
  refine x_caught (pc := 5) (As := [.int p0, .int p1]) (rest := [.int (nI 0), .ref oc]) (b := ka.k9) (wr := ((kB cL cC cB cR ka z ++ rgs (kR ka C Sc Bl)) ++ ([(oc, .inl (cL, 1, .inr (.inl fo9)))] : va_W))) (N0 := N0) (hpc := 13) (pre := []) (x9 := (0, 10, 13, 13)) (post9 := []) ⟨hx, hb, hml, hown, hts⟩ (kt_compare l D cI cL cC cB cZ cR H.size N0 ka.k9 p0 p1 hbad (fun q hq => by cases hq) htr) ⟨callB_of 2 hts (x_good kw_581) rfl rfl rfl (hts _ kw_1) (hts _ kw_578) dc_X7_compare ⟨Nat.le_of_ble_eq_true rfl, Nat.le_of_ble_eq_true rfl⟩, hts _ kw_579, hts _ kw_580⟩ (q0 := 0) rfl rfl rfl rfl hl.1 rfl (Nat.le_of_ble_eq_true rfl) dL_compare_5 ⟨Nat.le_of_ble_eq_true rfl, Nat.le_of_ble_eq_true rfl⟩ hN hK hP hD hS hA [] [0, 1, 2, 3, 4, 5, 6, 7, 8, 9, 10, 11, 12, 13, 14, 15, 16, 17, 18, 19, 20, 21, 22, 23, 24, 25, 26, 27, 28, 29, 30] rfl rfl (by decide) (by decide) (by decide) hX rfl hA0 htb ⟨(fun r hr => by cases hr), by decide, by decide, by decide, hts _ kw_447, hX.2.1 s (State.WarmedH.refl s) (fun _ _ => rfl) _ cs_I args⟩ rfl (fun u5 ax5 H locs hp9 hP hD hS => ?_)
  have hP : va_P D vwCl ((kB cL cC cB cR ka z ++ rgs (kR ka C Sc Bl)) ++ ([(oc, .inl (cL, 1, .inr (.inl fo9)))] : va_W)) H := hP
  have hD : va_D A ((kB cL cC cB cR ka z ++ rgs (kR ka C Sc Bl)) ++ ([(oc, .inl (cL, 1, .inr (.inl fo9)))] : va_W)) := hD
  refine lv_astore (pc := 13) (lv' := [(4, .ref ax5), (0, .ref ka.k9), (1, .int p0), (2, .int p1), (3, .ref oc)]) hx hb dL_compare_13 hl (by decide) rfl (fun ls hl => ?_)
  refine lv_iconst (v := nI 1) (pc := 15) hx hb dL_compare_15 kI_1 ?_
  exact x_reti (pc := 16) hx hb hr hlk () rfl hP hK hD hS dL_compare_16
abbrev rm_L_show_y : Room := { frames := 5, cells := 0, slots := 0, locals := 108 }
set_option maxHeartbeats 4000000 in
set_option maxRecDepth 100000 in
theorem L_show_y (l : Launch) (D : va_G) (cI cL cC cB cZ cR : ClassId) (sz N0 : Nat) (ka : kA) (z : kS) (C Sc Bl : Nat → Nat) (oc : Nat) (a : Nat) (fo9 : Nat → Int64) (hra : ∀ i, i < 6 → ka.ra i = some (ka.r i)) (hok : mOk C Sc Bl) (ha6 : a < 6) (hN0 : ∀ q ∈ (((kB cL cC cB cR ka z ++ rgs (kR ka C Sc Bl)) ++ ([(oc, .inl (cL, 1, .inr (.inl fo9)))] : va_W)) : va_W), N0 ≤ q.1) (htr : l.stackTraces = false) : Met l yL_show wsL_show rm_L_show_y (xPcT D vwCl (tyAll cI cL cC cB cZ cR) [.ref ka.k9, .int (nI a), .ref oc] ((kB cL cC cB cR ka z ++ rgs (kR ka C Sc Bl)) ++ ([(oc, .inl (cL, 1, .inr (.inl fo9)))] : va_W)) sz N0) (va_Qi (fun (y : Int32) (u : (kS × (Nat → Int64))) => y = nI 0 ∧ u.2 0 = lN (shT (C a) (Sc a) (sgn (Bl a) (C a))).length ∧ (u.1.m2 = nI (shT (C a) (Sc a) (sgn (Bl a) (C a))).length ∧ oR u.1.fo (shT (C a) (Sc a) (sgn (Bl a) (C a)))) ∧ kT u.1 z) (xB D vwCl (tyAll cI cL cC cB cZ cR) (va_A ((kB cL cC cB cR ka z ++ rgs (kR ka C Sc Bl)) ++ ([(oc, .inl (cL, 1, .inr (.inl fo9)))] : va_W)) sz) (fun u : (kS × (Nat → Int64)) => ((kB cL cC cB cR ka u.1 ++ rgs (kR ka C Sc Bl)) ++ ([(oc, .inl (cL, 1, .inr (.inl u.2)))] : va_W)))) (va_A ((kB cL cC cB cR ka z ++ rgs (kR ka C Sc Bl)) ++ ([(oc, .inl (cL, 1, .inr (.inl fo9)))] : va_W)) sz)) 0 0 (va_A ((kB cL cC cB cR ka z ++ rgs (kR ka C Sc Bl)) ++ ([(oc, .inl (cL, 1, .inr (.inl fo9)))] : va_W)) sz) := by
  refine x_ofW (hh := [(0, 9, 12, 13)]) (Qc := fun A => va_Qi (fun (y : Int32) (u : (kS × (Nat → Int64))) => y = nI 0 ∧ u.2 0 = lN (shT (C a) (Sc a) (sgn (Bl a) (C a))).length ∧ (u.1.m2 = nI (shT (C a) (Sc a) (sgn (Bl a) (C a))).length ∧ oR u.1.fo (shT (C a) (Sc a) (sgn (Bl a) (C a)))) ∧ kT u.1 z) (xB D vwCl (tyAll cI cL cC cB cZ cR) A (fun u : (kS × (Nat → Int64)) => ((kB cL cC cB cR ka u.1 ++ rgs (kR ka C Sc Bl)) ++ ([(oc, .inl (cL, 1, .inr (.inl u.2)))] : va_W)))) A) hN0 (by decide) rfl (Nat.le_of_ble_eq_true rfl) ?_
  intro p e s m args below meth c A H locs ls hx hb hr hts0 hown hlk hml hnm hP hK hD hN hA hS hl htb hX hA0
  have hts : ∀ w ∈ wsA, w.before args s = true := fun w h => hts0 w (List.mem_cons_of_mem _ h)
  have hown : s.vm.findClass "WideDecimalDeskLaw" = some m.cls := hown
  have hl : lv_has ls 4 [(0, .ref ka.k9), (1, .int (nI a)), (2, .ref oc)] := hl
  refine lv_aload_n (pc := 0) hx hb dL_show_0 rfl (lv_at hl 2 rfl) ?_
  refine lv_iconst (v := nI 0) (pc := 1) hx hb dL_show_1 kI_0 ?_
  refine lv_aload_n (pc := 2) hx hb dL_show_2 rfl (lv_at hl 0 rfl) ?_
  refine lv_iload_n (pc := 3) hx hb dL_show_3 rfl (lv_at hl 1 rfl) ?_
  refine x_Vi (pc := 4) (As := [.int (nI a)]) (rest := [.int (nI 0), .ref oc]) (b := ka.k9) (wr := [(oc, .inl (cL, 1, .inr (.inl fo9)))]) ⟨hx, hb, hml, hown, hts⟩ (K_show l D cI cL cC cB cZ cR H.size ka z C Sc Bl a hra hok ha6) ⟨callB_of 1 hts (x_good kw_623) rfl rfl rfl (hts _ kw_1) (hts _ kw_620) dc_X7_show ⟨Nat.le_of_ble_eq_true rfl, Nat.le_of_ble_eq_true rfl⟩, hts _ kw_621, hts _ kw_622⟩ (q0 := 0) rfl rfl rfl rfl hl.1 rfl (Nat.le_of_ble_eq_true rfl) dL_show_4 ⟨Nat.le_refl _, Nat.le_refl _⟩ hN hK hP hD hS hA [0, 1, 2, 3, 4, 5, 6, 7, 8, 9, 10, 11, 12, 13, 14, 15, 16, 17, 18, 19, 20, 21, 22, 23, 24, 25, 26, 27, 28, 29] [30] rfl rfl (by decide) (by decide) (by decide) (fun r4 u4 H locs q4 hP hD hS => ?_)
  obtain ⟨u9, rfl⟩ : ∃ z, z = u4 := ⟨_, rfl⟩
  have hP : va_P D vwCl (([(oc, .inl (cL, 1, .inr (.inl fo9)))] : va_W) ++ (kB cL cC cB cR ka u9 ++ rgs (kR ka C Sc Bl))) H := hP
  have hD : va_D A (([(oc, .inl (cL, 1, .inr (.inl fo9)))] : va_W) ++ (kB cL cC cB cR ka u9 ++ rgs (kR ka C Sc Bl))) := hD
  obtain ⟨rfl, hp9⟩ := q4
  have hl9 := shT_len (C a) (Sc a) (sgn (Bl a) (C a))
  refine lv_i2l (v := lN ((shT (C a) (Sc a) (sgn (Bl a) (C a))).length)) (pc := 7) hx hb dL_show_7 (nI_l (by omega)) ?_
  refine x_last (pc := 8) hx hb hK hP hD hS 0 1 rfl rfl (by omega) (by decide) dL_show_8 (fun H locs hP hD hS => ?_)
  have hP : va_P D vwCl (([(oc, .inl (cL, 1, .inr (.inl (vp_updL fo9 0 (lN ((shT (C a) (Sc a) (sgn (Bl a) (C a))).length))))))] : va_W) ++ (kB cL cC cB cR ka u9 ++ rgs (kR ka C Sc Bl))) H := hP
  have hD : va_D A (([(oc, .inl (cL, 1, .inr (.inl (vp_updL fo9 0 (lN ((shT (C a) (Sc a) (sgn (Bl a) (C a))).length))))))] : va_W) ++ (kB cL cC cB cR ka u9 ++ rgs (kR ka C Sc Bl))) := hD
  refine lv_goto (tgt := 15) (pc := 9) hx hb dL_show_9 (by decide) ?_
  refine lv_iconst (v := nI 0) (pc := 15) hx hb dL_show_15 kI_0 ?_
  have hP := x_Psub (w := ((kB cL cC cB cR ka u9 ++ rgs (kR ka C Sc Bl)) ++ ([(oc, .inl (cL, 1, .inr (.inl (vp_updL fo9 0 (lN ((shT (C a) (Sc a) (sgn (Bl a) (C a))).length))))))] : va_W))) (is := [1, 2, 3, 4, 5, 6, 7, 8, 9, 10, 11, 12, 13, 14, 15, 16, 17, 18, 19, 20, 21, 22, 23, 24, 25, 26, 27, 28, 29, 30, 0]) hP rfl
  have hD := hD.sub (ws' := ((kB cL cC cB cR ka u9 ++ rgs (kR ka C Sc Bl)) ++ ([(oc, .inl (cL, 1, .inr (.inl (vp_updL fo9 0 (lN ((shT (C a) (Sc a) (sgn (Bl a) (C a))).length))))))] : va_W))) [1, 2, 3, 4, 5, 6, 7, 8, 9, 10, 11, 12, 13, 14, 15, 16, 17, 18, 19, 20, 21, 22, 23, 24, 25, 26, 27, 28, 29, 30, 0] (by decide) rfl
  exact x_reti (pc := 16) hx hb hr hlk (u9, vp_updL fo9 0 (lN ((shT (C a) (Sc a) (sgn (Bl a) (C a))).length))) (⟨rfl, rfl, hp9⟩) hP hK hD hS dL_show_16
abbrev rm_L_show_n : Room := { frames := 7, cells := 1, slots := 6, locals := 120 }
set_option maxHeartbeats 4000000 in
set_option maxRecDepth 100000 in
theorem L_show_n (l : Launch) (D : va_G) (cI cL cC cB cZ cR : ClassId) (sz N0 : Nat) (ka : kA) (z : kS) (C Sc Bl : Nat → Nat) (oc : Nat) (p0 : Int32) (fo9 : Nat → Int64) (hbad : inR 6 p0 = 0) (hN0 : ∀ q ∈ (((kB cL cC cB cR ka z ++ rgs (kR ka C Sc Bl)) ++ ([(oc, .inl (cL, 1, .inr (.inl fo9)))] : va_W)) : va_W), N0 ≤ q.1) (htr : l.stackTraces = false) : Met l yL_show wsL_show rm_L_show_n (xPcT D vwCl (tyAll cI cL cC cB cZ cR) [.ref ka.k9, .int p0, .ref oc] ((kB cL cC cB cR ka z ++ rgs (kR ka C Sc Bl)) ++ ([(oc, .inl (cL, 1, .inr (.inl fo9)))] : va_W)) sz N0) (va_Qi (fun (y : Int32) (_ : Unit) => y = nI 1) (xB D vwCl (tyAll cI cL cC cB cZ cR) (va_A ((kB cL cC cB cR ka z ++ rgs (kR ka C Sc Bl)) ++ ([(oc, .inl (cL, 1, .inr (.inl fo9)))] : va_W)) sz) (fun u : Unit => ((kB cL cC cB cR ka z ++ rgs (kR ka C Sc Bl)) ++ ([(oc, .inl (cL, 1, .inr (.inl fo9)))] : va_W)))) (va_A ((kB cL cC cB cR ka z ++ rgs (kR ka C Sc Bl)) ++ ([(oc, .inl (cL, 1, .inr (.inl fo9)))] : va_W)) sz)) 1 6 (va_A ((kB cL cC cB cR ka z ++ rgs (kR ka C Sc Bl)) ++ ([(oc, .inl (cL, 1, .inr (.inl fo9)))] : va_W)) sz) := by
  refine x_ofW (hh := [(0, 9, 12, 13)]) (Qc := fun A => va_Qi (fun (y : Int32) (_ : Unit) => y = nI 1) (xB D vwCl (tyAll cI cL cC cB cZ cR) A (fun u : Unit => ((kB cL cC cB cR ka z ++ rgs (kR ka C Sc Bl)) ++ ([(oc, .inl (cL, 1, .inr (.inl fo9)))] : va_W)))) A) hN0 (by decide) rfl (Nat.le_of_ble_eq_true rfl) ?_
  intro p e s m args below meth c A H locs ls hx hb hr hts0 hown hlk hml hnm hP hK hD hN hA hS hl htb hX hA0
  have hts : ∀ w ∈ wsA, w.before args s = true := fun w h => hts0 w (List.mem_cons_of_mem _ h)
  have hown : s.vm.findClass "WideDecimalDeskLaw" = some m.cls := hown
  have hl : lv_has ls 4 [(0, .ref ka.k9), (1, .int p0), (2, .ref oc)] := hl
  refine lv_aload_n (pc := 0) hx hb dL_show_0 rfl (lv_at hl 2 rfl) ?_
  refine lv_iconst (v := nI 0) (pc := 1) hx hb dL_show_1 kI_0 ?_
  refine lv_aload_n (pc := 2) hx hb dL_show_2 rfl (lv_at hl 0 rfl) ?_
  refine lv_iload_n (pc := 3) hx hb dL_show_3 rfl (lv_at hl 1 rfl) ?_
  refine x_caught (pc := 4) (As := [.int p0]) (rest := [.int (nI 0), .ref oc]) (b := ka.k9) (wr := ((kB cL cC cB cR ka z ++ rgs (kR ka C Sc Bl)) ++ ([(oc, .inl (cL, 1, .inr (.inl fo9)))] : va_W))) (N0 := N0) (hpc := 12) (pre := []) (x9 := (0, 9, 12, 13)) (post9 := []) ⟨hx, hb, hml, hown, hts⟩ (kt_show l D cI cL cC cB cZ cR H.size N0 ka.k9 p0 hbad (fun q hq => by cases hq) htr) ⟨callB_of 1 hts (x_good kw_623) rfl rfl rfl (hts _ kw_1) (hts _ kw_620) dc_X7_show ⟨Nat.le_of_ble_eq_true rfl, Nat.le_of_ble_eq_true rfl⟩, hts _ kw_621, hts _ kw_622⟩ (q0 := 0) rfl rfl rfl rfl hl.1 rfl (Nat.le_of_ble_eq_true rfl) dL_show_4 ⟨Nat.le_of_ble_eq_true rfl, Nat.le_of_ble_eq_true rfl⟩ hN hK hP hD hS hA [] [0, 1, 2, 3, 4, 5, 6, 7, 8, 9, 10, 11, 12, 13, 14, 15, 16, 17, 18, 19, 20, 21, 22, 23, 24, 25, 26, 27, 28, 29, 30] rfl rfl (by decide) (by decide) (by decide) hX rfl hA0 htb ⟨(fun r hr => by cases hr), by decide, by decide, by decide, hts _ kw_447, hX.2.1 s (State.WarmedH.refl s) (fun _ _ => rfl) _ cs_I args⟩ rfl (fun u4 ax4 H locs hp9 hP hD hS => ?_)
  have hP : va_P D vwCl ((kB cL cC cB cR ka z ++ rgs (kR ka C Sc Bl)) ++ ([(oc, .inl (cL, 1, .inr (.inl fo9)))] : va_W)) H := hP
  have hD : va_D A ((kB cL cC cB cR ka z ++ rgs (kR ka C Sc Bl)) ++ ([(oc, .inl (cL, 1, .inr (.inl fo9)))] : va_W)) := hD
  refine lv_astore_n (pc := 12) (lv' := [(3, .ref ax4), (0, .ref ka.k9), (1, .int p0), (2, .ref oc)]) hx hb dL_show_12 rfl hl (by decide) rfl (fun ls hl => ?_)
  refine lv_iconst (v := nI 1) (pc := 13) hx hb dL_show_13 kI_1 ?_
  exact x_reti (pc := 14) hx hb hr hlk () rfl hP hK hD hS dL_show_14
abbrev rm_L_format_y : Room := { frames := 6, cells := 0, slots := 0, locals := 126 }
set_option maxHeartbeats 4000000 in
set_option maxRecDepth 100000 in
theorem L_format_y (l : Launch) (D : va_G) (cI cL cC cB cZ cR : ClassId) (sz N0 : Nat) (ka : kA) (z : kS) (C Sc Bl : Nat → Nat) (oc : Nat) (a : Nat) (L : List Nat) (fo9 : Nat → Int64) (hra : ∀ i, i < 6 → ka.ra i = some (ka.r i)) (hok : mOk C Sc Bl) (hm1 : z.m1 = nI L.length) (hf : oR z.fx L) (hL : L.length ≤ 40) (hch : ∀ y ∈ L, y < 128) (ha6 : a < 6) (hO : ptO L = 1) (hT : (txT (Bl a) (rdC 1 (Bl a) (pcV (ptC L) (C a)) (Sc a) (ptK L)) (rdS (Sc a) (ptK L)) (gpF L (ptP L)) (fdF L (ptP L)) (ptK L) (kpF L (ptB L) (ptK L)) (ptC L)).length ≤ 80) (hN0 : ∀ q ∈ (((kB cL cC cB cR ka z ++ rgs (kR ka C Sc Bl)) ++ ([(oc, .inl (cL, 1, .inr (.inl fo9)))] : va_W)) : va_W), N0 ≤ q.1) (htr : l.stackTraces = false) : Met l yL_format wsL_format rm_L_format_y (xPcT D vwCl (tyAll cI cL cC cB cZ cR) [.ref ka.k9, .int (nI a), .ref oc] ((kB cL cC cB cR ka z ++ rgs (kR ka C Sc Bl)) ++ ([(oc, .inl (cL, 1, .inr (.inl fo9)))] : va_W)) sz N0) (va_Qi (fun (y : Int32) (u : (kS × (Nat → Int64))) => y = nI 0 ∧ u.2 0 = lN (txT (Bl a) (rdC 1 (Bl a) (pcV (ptC L) (C a)) (Sc a) (ptK L)) (rdS (Sc a) (ptK L)) (gpF L (ptP L)) (fdF L (ptP L)) (ptK L) (kpF L (ptB L) (ptK L)) (ptC L)).length ∧ (u.1.m2 = nI (txT (Bl a) (rdC 1 (Bl a) (pcV (ptC L) (C a)) (Sc a) (ptK L)) (rdS (Sc a) (ptK L)) (gpF L (ptP L)) (fdF L (ptP L)) (ptK L) (kpF L (ptB L) (ptK L)) (ptC L)).length ∧ oR u.1.fo (txT (Bl a) (rdC 1 (Bl a) (pcV (ptC L) (C a)) (Sc a) (ptK L)) (rdS (Sc a) (ptK L)) (gpF L (ptP L)) (fdF L (ptP L)) (ptK L) (kpF L (ptB L) (ptK L)) (ptC L))) ∧ kT u.1 z) (xB D vwCl (tyAll cI cL cC cB cZ cR) (va_A ((kB cL cC cB cR ka z ++ rgs (kR ka C Sc Bl)) ++ ([(oc, .inl (cL, 1, .inr (.inl fo9)))] : va_W)) sz) (fun u : (kS × (Nat → Int64)) => ((kB cL cC cB cR ka u.1 ++ rgs (kR ka C Sc Bl)) ++ ([(oc, .inl (cL, 1, .inr (.inl u.2)))] : va_W)))) (va_A ((kB cL cC cB cR ka z ++ rgs (kR ka C Sc Bl)) ++ ([(oc, .inl (cL, 1, .inr (.inl fo9)))] : va_W)) sz)) 0 0 (va_A ((kB cL cC cB cR ka z ++ rgs (kR ka C Sc Bl)) ++ ([(oc, .inl (cL, 1, .inr (.inl fo9)))] : va_W)) sz) := by
  refine x_ofW (hh := [(0, 9, 12, 13), (0, 9, 15, 36)]) (Qc := fun A => va_Qi (fun (y : Int32) (u : (kS × (Nat → Int64))) => y = nI 0 ∧ u.2 0 = lN (txT (Bl a) (rdC 1 (Bl a) (pcV (ptC L) (C a)) (Sc a) (ptK L)) (rdS (Sc a) (ptK L)) (gpF L (ptP L)) (fdF L (ptP L)) (ptK L) (kpF L (ptB L) (ptK L)) (ptC L)).length ∧ (u.1.m2 = nI (txT (Bl a) (rdC 1 (Bl a) (pcV (ptC L) (C a)) (Sc a) (ptK L)) (rdS (Sc a) (ptK L)) (gpF L (ptP L)) (fdF L (ptP L)) (ptK L) (kpF L (ptB L) (ptK L)) (ptC L)).length ∧ oR u.1.fo (txT (Bl a) (rdC 1 (Bl a) (pcV (ptC L) (C a)) (Sc a) (ptK L)) (rdS (Sc a) (ptK L)) (gpF L (ptP L)) (fdF L (ptP L)) (ptK L) (kpF L (ptB L) (ptK L)) (ptC L))) ∧ kT u.1 z) (xB D vwCl (tyAll cI cL cC cB cZ cR) A (fun u : (kS × (Nat → Int64)) => ((kB cL cC cB cR ka u.1 ++ rgs (kR ka C Sc Bl)) ++ ([(oc, .inl (cL, 1, .inr (.inl u.2)))] : va_W)))) A) hN0 (by decide) rfl (Nat.le_of_ble_eq_true rfl) ?_
  intro p e s m args below meth c A H locs ls hx hb hr hts0 hown hlk hml hnm hP hK hD hN hA hS hl htb hX hA0
  have hts : ∀ w ∈ wsA, w.before args s = true := fun w h => hts0 w (List.mem_cons_of_mem _ h)
  have hown : s.vm.findClass "WideDecimalDeskLaw" = some m.cls := hown
  have hl : lv_has ls 4 [(0, .ref ka.k9), (1, .int (nI a)), (2, .ref oc)] := hl
  refine lv_aload_n (pc := 0) hx hb dL_format_0 rfl (lv_at hl 2 rfl) ?_
  refine lv_iconst (v := nI 0) (pc := 1) hx hb dL_format_1 kI_0 ?_
  refine lv_aload_n (pc := 2) hx hb dL_format_2 rfl (lv_at hl 0 rfl) ?_
  refine lv_iload_n (pc := 3) hx hb dL_format_3 rfl (lv_at hl 1 rfl) ?_
  refine x_Vi (pc := 4) (As := [.int (nI a)]) (rest := [.int (nI 0), .ref oc]) (b := ka.k9) (wr := [(oc, .inl (cL, 1, .inr (.inl fo9)))]) ⟨hx, hb, hml, hown, hts⟩ (K_format l D cI cL cC cB cZ cR H.size ka z C Sc Bl a L hra hok hm1 hf hL hch ha6 hO hT) ⟨callB_of 1 hts (x_good kw_652) rfl rfl rfl (hts _ kw_1) (hts _ kw_649) dc_X7_format ⟨Nat.le_of_ble_eq_true rfl, Nat.le_of_ble_eq_true rfl⟩, hts _ kw_650, hts _ kw_651⟩ (q0 := 0) rfl rfl rfl rfl hl.1 rfl (Nat.le_of_ble_eq_true rfl) dL_format_4 ⟨Nat.le_refl _, Nat.le_refl _⟩ hN hK hP hD hS hA [0, 1, 2, 3, 4, 5, 6, 7, 8, 9, 10, 11, 12, 13, 14, 15, 16, 17, 18, 19, 20, 21, 22, 23, 24, 25, 26, 27, 28, 29] [30] rfl rfl (by decide) (by decide) (by decide) (fun r4 u4 H locs q4 hP hD hS => ?_)
  obtain ⟨u9, rfl⟩ : ∃ z, z = u4 := ⟨_, rfl⟩
  have hP : va_P D vwCl (([(oc, .inl (cL, 1, .inr (.inl fo9)))] : va_W) ++ (kB cL cC cB cR ka u9 ++ rgs (kR ka C Sc Bl))) H := hP
  have hD : va_D A (([(oc, .inl (cL, 1, .inr (.inl fo9)))] : va_W) ++ (kB cL cC cB cR ka u9 ++ rgs (kR ka C Sc Bl))) := hD
  obtain ⟨rfl, hp9⟩ := q4
  refine lv_i2l (v := lN ((txT (Bl a) (rdC 1 (Bl a) (pcV (ptC L) (C a)) (Sc a) (ptK L)) (rdS (Sc a) (ptK L)) (gpF L (ptP L)) (fdF L (ptP L)) (ptK L) (kpF L (ptB L) (ptK L)) (ptC L)).length)) (pc := 7) hx hb dL_format_7 (nI_l (by omega)) ?_
  refine x_last (pc := 8) hx hb hK hP hD hS 0 1 rfl rfl (by omega) (by decide) dL_format_8 (fun H locs hP hD hS => ?_)
  have hP : va_P D vwCl (([(oc, .inl (cL, 1, .inr (.inl (vp_updL fo9 0 (lN ((txT (Bl a) (rdC 1 (Bl a) (pcV (ptC L) (C a)) (Sc a) (ptK L)) (rdS (Sc a) (ptK L)) (gpF L (ptP L)) (fdF L (ptP L)) (ptK L) (kpF L (ptB L) (ptK L)) (ptC L)).length))))))] : va_W) ++ (kB cL cC cB cR ka u9 ++ rgs (kR ka C Sc Bl))) H := hP
  have hD : va_D A (([(oc, .inl (cL, 1, .inr (.inl (vp_updL fo9 0 (lN ((txT (Bl a) (rdC 1 (Bl a) (pcV (ptC L) (C a)) (Sc a) (ptK L)) (rdS (Sc a) (ptK L)) (gpF L (ptP L)) (fdF L (ptP L)) (ptK L) (kpF L (ptB L) (ptK L)) (ptC L)).length))))))] : va_W) ++ (kB cL cC cB cR ka u9 ++ rgs (kR ka C Sc Bl))) := hD
  refine lv_goto (tgt := 18) (pc := 9) hx hb dL_format_9 (by decide) ?_
  refine lv_iconst (v := nI 0) (pc := 18) hx hb dL_format_18 kI_0 ?_
  have hP := x_Psub (w := ((kB cL cC cB cR ka u9 ++ rgs (kR ka C Sc Bl)) ++ ([(oc, .inl (cL, 1, .inr (.inl (vp_updL fo9 0 (lN ((txT (Bl a) (rdC 1 (Bl a) (pcV (ptC L) (C a)) (Sc a) (ptK L)) (rdS (Sc a) (ptK L)) (gpF L (ptP L)) (fdF L (ptP L)) (ptK L) (kpF L (ptB L) (ptK L)) (ptC L)).length))))))] : va_W))) (is := [1, 2, 3, 4, 5, 6, 7, 8, 9, 10, 11, 12, 13, 14, 15, 16, 17, 18, 19, 20, 21, 22, 23, 24, 25, 26, 27, 28, 29, 30, 0]) hP rfl
  have hD := hD.sub (ws' := ((kB cL cC cB cR ka u9 ++ rgs (kR ka C Sc Bl)) ++ ([(oc, .inl (cL, 1, .inr (.inl (vp_updL fo9 0 (lN ((txT (Bl a) (rdC 1 (Bl a) (pcV (ptC L) (C a)) (Sc a) (ptK L)) (rdS (Sc a) (ptK L)) (gpF L (ptP L)) (fdF L (ptP L)) (ptK L) (kpF L (ptB L) (ptK L)) (ptC L)).length))))))] : va_W))) [1, 2, 3, 4, 5, 6, 7, 8, 9, 10, 11, 12, 13, 14, 15, 16, 17, 18, 19, 20, 21, 22, 23, 24, 25, 26, 27, 28, 29, 30, 0] (by decide) rfl
  exact x_reti (pc := 19) hx hb hr hlk (u9, vp_updL fo9 0 (lN ((txT (Bl a) (rdC 1 (Bl a) (pcV (ptC L) (C a)) (Sc a) (ptK L)) (rdS (Sc a) (ptK L)) (gpF L (ptP L)) (fdF L (ptP L)) (ptK L) (kpF L (ptB L) (ptK L)) (ptC L)).length))) (⟨rfl, rfl, hp9⟩) hP hK hD hS dL_format_19
abbrev rm_L_format_n : Room := { frames := 7, cells := 1, slots := 6, locals := 120 }
set_option maxHeartbeats 4000000 in
set_option maxRecDepth 100000 in
theorem L_format_n (l : Launch) (D : va_G) (cI cL cC cB cZ cR : ClassId) (sz N0 : Nat) (ka : kA) (z : kS) (C Sc Bl : Nat → Nat) (oc : Nat) (p0 : Int32) (fo9 : Nat → Int64) (hbad : inR 6 p0 = 0) (hN0 : ∀ q ∈ (((kB cL cC cB cR ka z ++ rgs (kR ka C Sc Bl)) ++ ([(oc, .inl (cL, 1, .inr (.inl fo9)))] : va_W)) : va_W), N0 ≤ q.1) (htr : l.stackTraces = false) : Met l yL_format wsL_format rm_L_format_n (xPcT D vwCl (tyAll cI cL cC cB cZ cR) [.ref ka.k9, .int p0, .ref oc] ((kB cL cC cB cR ka z ++ rgs (kR ka C Sc Bl)) ++ ([(oc, .inl (cL, 1, .inr (.inl fo9)))] : va_W)) sz N0) (va_Qi (fun (y : Int32) (_ : Unit) => y = nI 1) (xB D vwCl (tyAll cI cL cC cB cZ cR) (va_A ((kB cL cC cB cR ka z ++ rgs (kR ka C Sc Bl)) ++ ([(oc, .inl (cL, 1, .inr (.inl fo9)))] : va_W)) sz) (fun u : Unit => ((kB cL cC cB cR ka z ++ rgs (kR ka C Sc Bl)) ++ ([(oc, .inl (cL, 1, .inr (.inl fo9)))] : va_W)))) (va_A ((kB cL cC cB cR ka z ++ rgs (kR ka C Sc Bl)) ++ ([(oc, .inl (cL, 1, .inr (.inl fo9)))] : va_W)) sz)) 1 6 (va_A ((kB cL cC cB cR ka z ++ rgs (kR ka C Sc Bl)) ++ ([(oc, .inl (cL, 1, .inr (.inl fo9)))] : va_W)) sz) := by
  refine x_ofW (hh := [(0, 9, 12, 13), (0, 9, 15, 36)]) (Qc := fun A => va_Qi (fun (y : Int32) (_ : Unit) => y = nI 1) (xB D vwCl (tyAll cI cL cC cB cZ cR) A (fun u : Unit => ((kB cL cC cB cR ka z ++ rgs (kR ka C Sc Bl)) ++ ([(oc, .inl (cL, 1, .inr (.inl fo9)))] : va_W)))) A) hN0 (by decide) rfl (Nat.le_of_ble_eq_true rfl) ?_
  intro p e s m args below meth c A H locs ls hx hb hr hts0 hown hlk hml hnm hP hK hD hN hA hS hl htb hX hA0
  have hts : ∀ w ∈ wsA, w.before args s = true := fun w h => hts0 w (List.mem_cons_of_mem _ h)
  have hown : s.vm.findClass "WideDecimalDeskLaw" = some m.cls := hown
  have hl : lv_has ls 4 [(0, .ref ka.k9), (1, .int p0), (2, .ref oc)] := hl
  refine lv_aload_n (pc := 0) hx hb dL_format_0 rfl (lv_at hl 2 rfl) ?_
  refine lv_iconst (v := nI 0) (pc := 1) hx hb dL_format_1 kI_0 ?_
  refine lv_aload_n (pc := 2) hx hb dL_format_2 rfl (lv_at hl 0 rfl) ?_
  refine lv_iload_n (pc := 3) hx hb dL_format_3 rfl (lv_at hl 1 rfl) ?_
  refine x_caught (pc := 4) (As := [.int p0]) (rest := [.int (nI 0), .ref oc]) (b := ka.k9) (wr := ((kB cL cC cB cR ka z ++ rgs (kR ka C Sc Bl)) ++ ([(oc, .inl (cL, 1, .inr (.inl fo9)))] : va_W))) (N0 := N0) (hpc := 12) (pre := []) (x9 := (0, 9, 12, 13)) (post9 := [(0, 9, 15, 36)]) ⟨hx, hb, hml, hown, hts⟩ (kt_format l D cI cL cC cB cZ cR H.size N0 ka.k9 p0 hbad (fun q hq => by cases hq) htr) ⟨callB_of 1 hts (x_good kw_652) rfl rfl rfl (hts _ kw_1) (hts _ kw_649) dc_X7_format ⟨Nat.le_of_ble_eq_true rfl, Nat.le_of_ble_eq_true rfl⟩, hts _ kw_650, hts _ kw_651⟩ (q0 := 0) rfl rfl rfl rfl hl.1 rfl (Nat.le_of_ble_eq_true rfl) dL_format_4 ⟨Nat.le_of_ble_eq_true rfl, Nat.le_of_ble_eq_true rfl⟩ hN hK hP hD hS hA [] [0, 1, 2, 3, 4, 5, 6, 7, 8, 9, 10, 11, 12, 13, 14, 15, 16, 17, 18, 19, 20, 21, 22, 23, 24, 25, 26, 27, 28, 29, 30] rfl rfl (by decide) (by decide) (by decide) hX rfl hA0 htb ⟨(fun r hr => by cases hr), by decide, by decide, by decide, hts _ kw_447, hX.2.1 s (State.WarmedH.refl s) (fun _ _ => rfl) _ cs_I args⟩ rfl (fun u4 ax4 H locs hp9 hP hD hS => ?_)
  have hP : va_P D vwCl ((kB cL cC cB cR ka z ++ rgs (kR ka C Sc Bl)) ++ ([(oc, .inl (cL, 1, .inr (.inl fo9)))] : va_W)) H := hP
  have hD : va_D A ((kB cL cC cB cR ka z ++ rgs (kR ka C Sc Bl)) ++ ([(oc, .inl (cL, 1, .inr (.inl fo9)))] : va_W)) := hD
  refine lv_astore_n (pc := 12) (lv' := [(3, .ref ax4), (0, .ref ka.k9), (1, .int p0), (2, .ref oc)]) hx hb dL_format_12 rfl hl (by decide) rfl (fun ls hl => ?_)
  refine lv_iconst (v := nI 1) (pc := 13) hx hb dL_format_13 kI_1 ?_
  exact x_reti (pc := 14) hx hb hr hlk () rfl hP hK hD hS dL_format_14
abbrev rm_L_format_s : Room := { frames := 7, cells := 1, slots := 6, locals := 120 }
set_option maxHeartbeats 4000000 in
set_option maxRecDepth 100000 in
theorem L_format_s (l : Launch) (D : va_G) (cI cL cC cB cZ cR : ClassId) (sz N0 : Nat) (ka : kA) (z : kS) (C Sc Bl : Nat → Nat) (oc : Nat) (a : Nat) (L : List Nat) (fo9 : Nat → Int64) (hra : ∀ i, i < 6 → ka.ra i = some (ka.r i)) (hm1 : z.m1 = nI L.length) (hf : oR z.fx L) (hL : L.length ≤ 40) (hch : ∀ y ∈ L, y < 128) (ha6 : a < 6) (hO : ptO L = 0) (hN0 : ∀ q ∈ (((kB cL cC cB cR ka z ++ rgs (kR ka C Sc Bl)) ++ ([(oc, .inl (cL, 1, .inr (.inl fo9)))] : va_W)) : va_W), N0 ≤ q.1) (htr : l.stackTraces = false) : Met l yL_format wsL_format rm_L_format_s (xPcT D vwCl (tyAll cI cL cC cB cZ cR) [.ref ka.k9, .int (nI a), .ref oc] ((kB cL cC cB cR ka z ++ rgs (kR ka C Sc Bl)) ++ ([(oc, .inl (cL, 1, .inr (.inl fo9)))] : va_W)) sz N0) (va_Qi (fun (y : Int32) (u : kS) => y = nI 2 ∧ kK u z) (xB D vwCl (tyAll cI cL cC cB cZ cR) (va_A ((kB cL cC cB cR ka z ++ rgs (kR ka C Sc Bl)) ++ ([(oc, .inl (cL, 1, .inr (.inl fo9)))] : va_W)) sz) (fun u : kS => ((kB cL cC cB cR ka u ++ rgs (kR ka C Sc Bl)) ++ ([(oc, .inl (cL, 1, .inr (.inl fo9)))] : va_W)))) (va_A ((kB cL cC cB cR ka z ++ rgs (kR ka C Sc Bl)) ++ ([(oc, .inl (cL, 1, .inr (.inl fo9)))] : va_W)) sz)) 1 6 (va_A ((kB cL cC cB cR ka z ++ rgs (kR ka C Sc Bl)) ++ ([(oc, .inl (cL, 1, .inr (.inl fo9)))] : va_W)) sz) := by
  refine x_ofW (hh := [(0, 9, 12, 13), (0, 9, 15, 36)]) (Qc := fun A => va_Qi (fun (y : Int32) (u : kS) => y = nI 2 ∧ kK u z) (xB D vwCl (tyAll cI cL cC cB cZ cR) A (fun u : kS => ((kB cL cC cB cR ka u ++ rgs (kR ka C Sc Bl)) ++ ([(oc, .inl (cL, 1, .inr (.inl fo9)))] : va_W)))) A) hN0 (by decide) rfl (Nat.le_of_ble_eq_true rfl) ?_
  intro p e s m args below meth c A H locs ls hx hb hr hts0 hown hlk hml hnm hP hK hD hN hA hS hl htb hX hA0
  have hts : ∀ w ∈ wsA, w.before args s = true := fun w h => hts0 w (List.mem_cons_of_mem _ h)
  have hown : s.vm.findClass "WideDecimalDeskLaw" = some m.cls := hown
  have hl : lv_has ls 4 [(0, .ref ka.k9), (1, .int (nI a)), (2, .ref oc)] := hl
  refine lv_aload_n (pc := 0) hx hb dL_format_0 rfl (lv_at hl 2 rfl) ?_
  refine lv_iconst (v := nI 0) (pc := 1) hx hb dL_format_1 kI_0 ?_
  refine lv_aload_n (pc := 2) hx hb dL_format_2 rfl (lv_at hl 0 rfl) ?_
  refine lv_iload_n (pc := 3) hx hb dL_format_3 rfl (lv_at hl 1 rfl) ?_
  refine x_caught (pc := 4) (As := [.int (nI a)]) (rest := [.int (nI 0), .ref oc]) (b := ka.k9) (wr := [(oc, .inl (cL, 1, .inr (.inl fo9)))]) (N0 := N0) (hpc := 15) (pre := [(0, 9, 12, 13)]) (x9 := (0, 9, 15, 36)) (post9 := []) ⟨hx, hb, hml, hown, hts⟩ (KT_format_no l D cI cL cC cB cZ cR H.size N0 ka z C Sc Bl a L hra hm1 hf hL hch ha6 hO (fun q hq => hN0 q (List.mem_append_left _ hq)) htr) ⟨callB_of 1 hts (x_good kw_652) rfl rfl rfl (hts _ kw_1) (hts _ kw_649) dc_X7_format ⟨Nat.le_of_ble_eq_true rfl, Nat.le_of_ble_eq_true rfl⟩, hts _ kw_650, hts _ kw_651⟩ (q0 := 0) rfl rfl rfl rfl hl.1 rfl (Nat.le_of_ble_eq_true rfl) dL_format_4 ⟨Nat.le_of_ble_eq_true rfl, Nat.le_of_ble_eq_true rfl⟩ hN hK hP hD hS hA [0, 1, 2, 3, 4, 5, 6, 7, 8, 9, 10, 11, 12, 13, 14, 15, 16, 17, 18, 19, 20, 21, 22, 23, 24, 25, 26, 27, 28, 29] [30] rfl rfl (by decide) (by decide) (by decide) hX rfl hA0 htb ⟨(List.forall_mem_cons.mpr ⟨⟨by decide, eI, hts _ kw_447, hX.2.2.1⟩, (fun r hr => by cases hr)⟩), by decide, by decide, by decide, hts _ kw_589, hX.2.1 s (State.WarmedH.refl s) (fun _ _ => rfl) _ cs_S args⟩ rfl (fun u4 ax4 H locs hp9 hP hD hS => ?_)
  obtain ⟨u9, rfl⟩ : ∃ z, z = u4 := ⟨_, rfl⟩
  have hP : va_P D vwCl (([(oc, .inl (cL, 1, .inr (.inl fo9)))] : va_W) ++ (kB cL cC cB cR ka u9 ++ rgs (kR ka C Sc Bl))) H := hP
  have hD : va_D A (([(oc, .inl (cL, 1, .inr (.inl fo9)))] : va_W) ++ (kB cL cC cB cR ka u9 ++ rgs (kR ka C Sc Bl))) := hD
  refine lv_astore_n (pc := 15) (lv' := [(3, .ref ax4), (0, .ref ka.k9), (1, .int (nI a)), (2, .ref oc)]) hx hb dL_format_15 rfl hl (by decide) rfl (fun ls hl => ?_)
  refine lv_iconst (v := nI 2) (pc := 16) hx hb dL_format_16 kI_2 ?_
  have hP := x_Psub (w := ((kB cL cC cB cR ka u9 ++ rgs (kR ka C Sc Bl)) ++ ([(oc, .inl (cL, 1, .inr (.inl fo9)))] : va_W))) (is := [1, 2, 3, 4, 5, 6, 7, 8, 9, 10, 11, 12, 13, 14, 15, 16, 17, 18, 19, 20, 21, 22, 23, 24, 25, 26, 27, 28, 29, 30, 0]) hP rfl
  have hD := hD.sub (ws' := ((kB cL cC cB cR ka u9 ++ rgs (kR ka C Sc Bl)) ++ ([(oc, .inl (cL, 1, .inr (.inl fo9)))] : va_W))) [1, 2, 3, 4, 5, 6, 7, 8, 9, 10, 11, 12, 13, 14, 15, 16, 17, 18, 19, 20, 21, 22, 23, 24, 25, 26, 27, 28, 29, 30, 0] (by decide) rfl
  exact x_reti (pc := 17) hx hb hr hlk u9 (⟨rfl, hp9⟩) hP hK hD hS dL_format_17
