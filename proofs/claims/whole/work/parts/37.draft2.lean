abbrev rm_r_take : Room := { frames := 1, cells := 0, slots := 0, locals := 20 }
set_option maxHeartbeats 4000000 in
set_option maxRecDepth 100000 in
theorem r_take (l : Launch) (D : va_G) (cI cL cC cB cZ cR : ClassId) (sz : Nat) (r lo hi s9 g9 : Nat) (lo0 : Int64) (hi0 sc0 ng0 : Int32) (hl9 : lo < 18446744073709551616) (hh9 : hi < 4294967296) (hg9 : g9 ≤ 1) : Met l yX5_take wsX5_take rm_r_take (xPc D vwCl (tyAll cI cL cC cB cZ cR) [.ref r, .long (lN lo), .int (nI hi), .int (nI s9), .int (nI g9)] [(r, .inr (5, [.long lo0, .int hi0, .int sc0, .int ng0]))] sz) (va_Qv (fun _ : Unit => True) (xB D vwCl (tyAll cI cL cC cB cZ cR) (va_A [(r, .inr (5, [.long lo0, .int hi0, .int sc0, .int ng0]))] sz) (fun u : Unit => [(r, .inr (5, [.long (lN lo), .int (nI hi), .int (nI s9), .int (nI (sgn g9 (lo + 18446744073709551616 * hi)))]))])) (va_A [(r, .inr (5, [.long lo0, .int hi0, .int sc0, .int ng0]))] sz)) 0 0 (va_A [(r, .inr (5, [.long lo0, .int hi0, .int sc0, .int ng0]))] sz) := by
  refine x_of (Qc := fun A => va_Qv (fun _ : Unit => True) (xB D vwCl (tyAll cI cL cC cB cZ cR) A (fun u : Unit => [(r, .inr (5, [.long (lN lo), .int (nI hi), .int (nI s9), .int (nI (sgn g9 (lo + 18446744073709551616 * hi)))]))])) A) (by decide) rfl (Nat.le_of_ble_eq_true rfl) ?_
  intro p e s m args below meth c A H locs ls hx hb hr hts0 hown hlk hml hnm hP hK hD hN hA hS hl
  have hts : ∀ w ∈ wsA, w.before args s = true := fun w h => hts0 w (List.mem_cons_of_mem _ h)
  have hown : s.vm.findClass "WideDecimalDesk$Register" = some m.cls := hown
  have hl : lv_has ls 6 [(0, .ref r), (1, .long (lN lo)), (3, .int (nI hi)), (4, .int (nI s9)), (5, .int (nI g9))] := hl
  refine lv_aload_n (pc := 0) hx hb dX5_take_0 rfl (lv_at hl 0 rfl) ?_
  refine lv_lload_n (pc := 1) hx hb dX5_take_1 rfl (lv_at hl 1 rfl) ?_
  refine va_put (D := D) (ci := 5) (v := .long (lN lo)) (ty := .long) (C := RX5) (T := TX5) (N := 4) (pc := 2) hx hb hts in_X5 tyX5 ty_X5 nm_X5 hown hK hP hD hS 0 rfl rfl 0 (by decide) (hts _ kw_32) (fun _ h9 => h9) rfl (by decide +kernel) rfl rfl (Nat.le_of_ble_eq_true rfl) dX5_take_2 (fun H locs hP hD hS => ?_)
  have hP : va_P D vwCl [(r, .inr (5, [.long (lN lo), .int hi0, .int sc0, .int ng0]))] H := hP
  have hD : va_D A [(r, .inr (5, [.long (lN lo), .int hi0, .int sc0, .int ng0]))] := hD
  refine lv_aload_n (pc := 5) hx hb dX5_take_5 rfl (lv_at hl 0 rfl) ?_
  refine lv_iload_n (pc := 6) hx hb dX5_take_6 rfl (lv_at hl 2 rfl) ?_
  refine va_put (D := D) (ci := 5) (v := .int (nI hi)) (ty := .int) (C := RX5) (T := TX5) (N := 4) (pc := 7) hx hb hts in_X5 tyX5 ty_X5 nm_X5 hown hK hP hD hS 0 rfl rfl 1 (by decide) (hts _ kw_35) (fun _ h9 => h9) rfl (by decide +kernel) rfl rfl (Nat.le_of_ble_eq_true rfl) dX5_take_7 (fun H locs hP hD hS => ?_)
  have hP : va_P D vwCl [(r, .inr (5, [.long (lN lo), .int (nI hi), .int sc0, .int ng0]))] H := hP
  have hD : va_D A [(r, .inr (5, [.long (lN lo), .int (nI hi), .int sc0, .int ng0]))] := hD
  refine lv_aload_n (pc := 10) hx hb dX5_take_10 rfl (lv_at hl 0 rfl) ?_
  refine lv_iload (pc := 11) hx hb dX5_take_11 (lv_at hl 3 rfl) ?_
  refine va_put (D := D) (ci := 5) (v := .int (nI s9)) (ty := .int) (C := RX5) (T := TX5) (N := 4) (pc := 13) hx hb hts in_X5 tyX5 ty_X5 nm_X5 hown hK hP hD hS 0 rfl rfl 2 (by decide) (hts _ kw_38) (fun _ h9 => h9) rfl (by decide +kernel) rfl rfl (Nat.le_of_ble_eq_true rfl) dX5_take_13 (fun H locs hP hD hS => ?_)
  have hP : va_P D vwCl [(r, .inr (5, [.long (lN lo), .int (nI hi), .int (nI s9), .int ng0]))] H := hP
  have hD : va_D A [(r, .inr (5, [.long (lN lo), .int (nI hi), .int (nI s9), .int ng0]))] := hD
  refine lv_aload_n (pc := 16) hx hb dX5_take_16 rfl (lv_at hl 0 rfl) ?_
  refine lv_iload (pc := 17) hx hb dX5_take_17 (lv_at hl 4 rfl) ?_
  refine x_if_eq (tgt := 33) (pc := 19) hx hb (by omega) dX5_take_19 (by decide) (fun h1 => ?_) (fun h1 => ?_)
  · refine lv_iconst (v := nI 0) (pc := 33) hx hb dX5_take_33 kI_0 ?_
    refine x_i (y := nI (sgn g9 (lo + 18446744073709551616 * hi))) (congrArg nI (by have h9 := sgn_sp g9 (lo + 18446744073709551616 * hi); omega)) ?_
    refine va_put (D := D) (ci := 5) (v := .int (nI (sgn g9 (lo + 18446744073709551616 * hi)))) (ty := .boolean) (C := RX5) (T := TX5) (N := 4) (pc := 34) hx hb hts in_X5 tyX5 ty_X5 nm_X5 hown hK hP hD hS 0 rfl rfl 3 (by decide) (hts _ kw_41) (fun _ h9 => h9) rfl (by decide +kernel) (x_nz (sgn_le hg9)) (x_fz (sgn_le hg9)) (Nat.le_of_ble_eq_true rfl) dX5_take_34 (fun H locs hP hD hS => ?_)
    have hP : va_P D vwCl [(r, .inr (5, [.long (lN lo), .int (nI hi), .int (nI s9), .int (nI (sgn g9 (lo + 18446744073709551616 * hi)))]))] H := hP
    have hD : va_D A [(r, .inr (5, [.long (lN lo), .int (nI hi), .int (nI s9), .int (nI (sgn g9 (lo + 18446744073709551616 * hi)))]))] := hD
    exact x_retv (pc := 37) hx hb hr hlk () trivial hP hK hD hS dX5_take_37
  · refine lv_aload_n (pc := 22) hx hb dX5_take_22 rfl (lv_at hl 0 rfl) ?_
    refine x_Vi (pc := 23) (As := []) (rest := [.ref r]) (b := r) (wr := []) ⟨hx, hb, hml, hown, hts⟩ (r_isZero l D cI cL cC cB cZ cR H.size r lo hi (nI s9) ng0 hl9 hh9) ⟨callB_of 0 hts (x_good kw_336) rfl rfl rfl (hts _ kw_2) (hts _ kw_415) dc_X5_isZero ⟨Nat.le_of_ble_eq_true rfl, Nat.le_of_ble_eq_true rfl⟩, hts _ kw_334, hts _ kw_335⟩ (q0 := 0) rfl rfl rfl rfl hl.1 rfl (Nat.le_of_ble_eq_true rfl) dX5_take_23 ⟨Nat.le_refl _, Nat.le_refl _⟩ hN hK hP hD hS hA [0] [] rfl rfl (by decide) (by decide) (by decide) (fun r23 u23 H locs q23 hP hD hS => ?_)
    have hP : va_P D vwCl [(r, .inr (5, [.long (lN lo), .int (nI hi), .int (nI s9), .int ng0]))] H := hP
    have hD : va_D A [(r, .inr (5, [.long (lN lo), .int (nI hi), .int (nI s9), .int ng0]))] := hD
    obtain rfl := q23
    have hz := iz_sp (lo + 18446744073709551616 * hi)
    refine x_if_ne (tgt := 33) (pc := 26) hx hb (by omega) dX5_take_26 (by decide) (fun h2 => ?_) (fun h2 => ?_)
    · refine lv_iconst (v := nI 0) (pc := 33) hx hb dX5_take_33 kI_0 ?_
      refine x_i (y := nI (sgn g9 (lo + 18446744073709551616 * hi))) (congrArg nI (by have h9 := sgn_sp g9 (lo + 18446744073709551616 * hi); omega)) ?_
      refine va_put (D := D) (ci := 5) (v := .int (nI (sgn g9 (lo + 18446744073709551616 * hi)))) (ty := .boolean) (C := RX5) (T := TX5) (N := 4) (pc := 34) hx hb hts in_X5 tyX5 ty_X5 nm_X5 hown hK hP hD hS 0 rfl rfl 3 (by decide) (hts _ kw_41) (fun _ h9 => h9) rfl (by decide +kernel) (x_nz (sgn_le hg9)) (x_fz (sgn_le hg9)) (Nat.le_of_ble_eq_true rfl) dX5_take_34 (fun H locs hP hD hS => ?_)
      have hP : va_P D vwCl [(r, .inr (5, [.long (lN lo), .int (nI hi), .int (nI s9), .int (nI (sgn g9 (lo + 18446744073709551616 * hi)))]))] H := hP
      have hD : va_D A [(r, .inr (5, [.long (lN lo), .int (nI hi), .int (nI s9), .int (nI (sgn g9 (lo + 18446744073709551616 * hi)))]))] := hD
      exact x_retv (pc := 37) hx hb hr hlk () trivial hP hK hD hS dX5_take_37
    · refine lv_iconst (v := nI 1) (pc := 29) hx hb dX5_take_29 kI_1 ?_
      refine x_i (y := nI (sgn g9 (lo + 18446744073709551616 * hi))) (congrArg nI (by have h9 := sgn_sp g9 (lo + 18446744073709551616 * hi); omega)) ?_
      refine lv_goto (tgt := 34) (pc := 30) hx hb dX5_take_30 (by decide) ?_
      refine va_put (D := D) (ci := 5) (v := .int (nI (sgn g9 (lo + 18446744073709551616 * hi)))) (ty := .boolean) (C := RX5) (T := TX5) (N := 4) (pc := 34) hx hb hts in_X5 tyX5 ty_X5 nm_X5 hown hK hP hD hS 0 rfl rfl 3 (by decide) (hts _ kw_41) (fun _ h9 => h9) rfl (by decide +kernel) (x_nz (sgn_le hg9)) (x_fz (sgn_le hg9)) (Nat.le_of_ble_eq_true rfl) dX5_take_34 (fun H locs hP hD hS => ?_)
      have hP : va_P D vwCl [(r, .inr (5, [.long (lN lo), .int (nI hi), .int (nI s9), .int (nI (sgn g9 (lo + 18446744073709551616 * hi)))]))] H := hP
      have hD : va_D A [(r, .inr (5, [.long (lN lo), .int (nI hi), .int (nI s9), .int (nI (sgn g9 (lo + 18446744073709551616 * hi)))]))] := hD
      exact x_retv (pc := 37) hx hb hr hlk () trivial hP hK hD hS dX5_take_37
abbrev rm_l_empty : Room := { frames := 0, cells := 0, slots := 0, locals := 0 }
set_option maxHeartbeats 4000000 in
set_option maxRecDepth 100000 in
theorem l_empty (l : Launch) (D : va_G) (cI cL cC cB cZ cR : ClassId) (sz : Nat) (x ra : Nat) (n0 : Int32)  : Met l yX2_empty wsX2_empty rm_l_empty (xPc D vwCl (tyAll cI cL cC cB cZ cR) [.ref x] [(x, .inr (2, [.ref ra, .int n0]))] sz) (va_Qv (fun _ : Unit => True) (xB D vwCl (tyAll cI cL cC cB cZ cR) (va_A [(x, .inr (2, [.ref ra, .int n0]))] sz) (fun u : Unit => [(x, .inr (2, [.ref ra, .int (nI 0)]))])) (va_A [(x, .inr (2, [.ref ra, .int n0]))] sz)) 0 0 (va_A [(x, .inr (2, [.ref ra, .int n0]))] sz) := by
  refine x_of (Qc := fun A => va_Qv (fun _ : Unit => True) (xB D vwCl (tyAll cI cL cC cB cZ cR) A (fun u : Unit => [(x, .inr (2, [.ref ra, .int (nI 0)]))])) A) (by decide) rfl (Nat.le_of_ble_eq_true rfl) ?_
  intro p e s m args below meth c A H locs ls hx hb hr hts0 hown hlk hml hnm hP hK hD hN hA hS hl
  have hts : ∀ w ∈ wsA, w.before args s = true := fun w h => hts0 w (List.mem_cons_of_mem _ h)
  have hown : s.vm.findClass "WideDecimalDesk$Line" = some m.cls := hown
  have hl : lv_has ls 1 [(0, .ref x)] := hl
  refine lv_aload_n (pc := 0) hx hb dX2_empty_0 rfl (lv_at hl 0 rfl) ?_
  refine lv_iconst (v := nI 0) (pc := 1) hx hb dX2_empty_1 kI_0 ?_
  refine va_put (D := D) (ci := 2) (v := .int (nI 0)) (ty := .int) (C := RX2) (T := TX2) (N := 2) (pc := 2) hx hb hts in_X2 tyX2 ty_X2 nm_X2 hown hK hP hD hS 0 rfl rfl 1 (by decide) (hts _ kw_60) (fun _ h9 => h9) rfl (by decide +kernel) rfl rfl (Nat.le_of_ble_eq_true rfl) dX2_empty_2 (fun H locs hP hD hS => ?_)
  have hP : va_P D vwCl [(x, .inr (2, [.ref ra, .int (nI 0)]))] H := hP
  have hD : va_D A [(x, .inr (2, [.ref ra, .int (nI 0)]))] := hD
  exact x_retv (pc := 5) hx hb hr hlk () trivial hP hK hD hS dX2_empty_5
abbrev rm_l_put : Room := { frames := 0, cells := 0, slots := 0, locals := 0 }
set_option maxHeartbeats 4000000 in
set_option maxRecDepth 100000 in
theorem l_put (l : Launch) (D : va_G) (cI cL cC cB cZ cR : ClassId) (sz : Nat) (x ra nn : Nat) (L : List Nat) (f : Nat → Int32) (c9 : Nat) (hf : oR f L) (hL : L.length < nn) (hnn : nn < 2 ^ 31) (hc9 : c9 < 65536) : Met l yX2_put wsX2_put rm_l_put (xPc D vwCl (tyAll cI cL cC cB cZ cR) [.ref x, .int (nI c9)] [(x, .inr (2, [.ref ra, .int (nI L.length)])), (ra, .inl (cC, nn, .inl f))] sz) (va_Qi (fun (z : Int32) (u : Nat → Int32) => z = nI 1 ∧ oR u (L ++ [c9])) (xB D vwCl (tyAll cI cL cC cB cZ cR) (va_A [(x, .inr (2, [.ref ra, .int (nI L.length)])), (ra, .inl (cC, nn, .inl f))] sz) (fun u : (Nat → Int32) => [(x, .inr (2, [.ref ra, .int (nI ((L ++ [c9]).length))])), (ra, .inl (cC, nn, .inl u))])) (va_A [(x, .inr (2, [.ref ra, .int (nI L.length)])), (ra, .inl (cC, nn, .inl f))] sz)) 0 0 (va_A [(x, .inr (2, [.ref ra, .int (nI L.length)])), (ra, .inl (cC, nn, .inl f))] sz) := by
  refine x_of (Qc := fun A => va_Qi (fun (z : Int32) (u : Nat → Int32) => z = nI 1 ∧ oR u (L ++ [c9])) (xB D vwCl (tyAll cI cL cC cB cZ cR) A (fun u : (Nat → Int32) => [(x, .inr (2, [.ref ra, .int (nI ((L ++ [c9]).length))])), (ra, .inl (cC, nn, .inl u))])) A) (by decide) rfl (Nat.le_of_ble_eq_true rfl) ?_
  intro p e s m args below meth c A H locs ls hx hb hr hts0 hown hlk hml hnm hP hK hD hN hA hS hl
  have hts : ∀ w ∈ wsA, w.before args s = true := fun w h => hts0 w (List.mem_cons_of_mem _ h)
  have hown : s.vm.findClass "WideDecimalDesk$Line" = some m.cls := hown
  have hl : lv_has ls 2 [(0, .ref x), (1, .int (nI c9))] := hl
  refine lv_aload_n (pc := 0) hx hb dX2_put_0 rfl (lv_at hl 0 rfl) ?_
  refine va_get (D := D) (ci := 2) (v := .int (nI L.length)) (C := RX2) (T := TX2) (N := 2) (pc := 1) hx hb hts in_X2 hown hK hP 0 rfl rfl 1 (by decide) (hts _ kw_60) (fun _ h9 => h9) rfl dX2_put_1 ?_
  refine lv_aload_n (pc := 4) hx hb dX2_put_4 rfl (lv_at hl 0 rfl) ?_
  refine va_get (D := D) (ci := 2) (v := .ref ra) (C := RX2) (T := TX2) (N := 2) (pc := 5) hx hb hts in_X2 hown hK hP 0 rfl rfl 0 (by decide) (hts _ kw_59) (fun _ h9 => h9) rfl dX2_put_5 ?_
  refine va_alen (v := nI nn) (pc := 8) hx hb hK hP 1 2 rfl rfl rfl dX2_put_8 ?_
  refine x_icmp_lt (tgt := 14) (pc := 9) hx hb (by omega) (by omega) dX2_put_9 (by decide) (fun h9 => ?_) (fun h9 => absurd h9 (by omega))
  refine lv_aload_n (pc := 14) hx hb dX2_put_14 rfl (lv_at hl 0 rfl) ?_
  refine va_get (D := D) (ci := 2) (v := .ref ra) (C := RX2) (T := TX2) (N := 2) (pc := 15) hx hb hts in_X2 hown hK hP 0 rfl rfl 0 (by decide) (hts _ kw_59) (fun _ h9 => h9) rfl dX2_put_15 ?_
  refine lv_aload_n (pc := 18) hx hb dX2_put_18 rfl (lv_at hl 0 rfl) ?_
  refine va_get (D := D) (ci := 2) (v := .int (nI L.length)) (C := RX2) (T := TX2) (N := 2) (pc := 19) hx hb hts in_X2 hown hK hP 0 rfl rfl 1 (by decide) (hts _ kw_60) (fun _ h9 => h9) rfl dX2_put_19 ?_
  refine lv_iload_n (pc := 22) hx hb dX2_put_22 rfl (lv_at hl 1 rfl) ?_
  refine x_cast (pc := 23) hx hb hK hP hD hS 1 2 rfl rfl (by omega) hnn (x_fc hc9) dX2_put_23 (fun H locs hP hD hS => ?_)
  have hP : va_P D vwCl [(x, .inr (2, [.ref ra, .int (nI L.length)])), (ra, .inl (cC, nn, .inl (upd f L.length (nI c9))))] H := hP
  have hD : va_D A [(x, .inr (2, [.ref ra, .int (nI L.length)])), (ra, .inl (cC, nn, .inl (upd f L.length (nI c9))))] := hD
  refine lv_aload_n (pc := 24) hx hb dX2_put_24 rfl (lv_at hl 0 rfl) ?_
  refine lv_dup (pc := 25) hx hb dX2_put_25 rfl ?_
  refine va_get (D := D) (ci := 2) (v := .int (nI L.length)) (C := RX2) (T := TX2) (N := 2) (pc := 26) hx hb hts in_X2 hown hK hP 0 rfl rfl 1 (by decide) (hts _ kw_60) (fun _ h9 => h9) rfl dX2_put_26 ?_
  refine lv_iconst (v := nI 1) (pc := 29) hx hb dX2_put_29 kI_1 ?_
  refine lv_iadd (pc := 30) hx hb dX2_put_30 ?_
  refine x_i (y := nI ((L ++ [c9]).length)) (oL_push L c9) ?_
  refine va_put (D := D) (ci := 2) (v := .int (nI ((L ++ [c9]).length))) (ty := .int) (C := RX2) (T := TX2) (N := 2) (pc := 31) hx hb hts in_X2 tyX2 ty_X2 nm_X2 hown hK hP hD hS 0 rfl rfl 1 (by decide) (hts _ kw_60) (fun _ h9 => h9) rfl (by decide +kernel) rfl rfl (Nat.le_of_ble_eq_true rfl) dX2_put_31 (fun H locs hP hD hS => ?_)
  have hP : va_P D vwCl [(x, .inr (2, [.ref ra, .int (nI ((L ++ [c9]).length))])), (ra, .inl (cC, nn, .inl (upd f L.length (nI c9))))] H := hP
  have hD : va_D A [(x, .inr (2, [.ref ra, .int (nI ((L ++ [c9]).length))])), (ra, .inl (cC, nn, .inl (upd f L.length (nI c9))))] := hD
  refine lv_iconst (v := nI 1) (pc := 34) hx hb dX2_put_34 kI_1 ?_
  exact x_retz (pc := 35) rfl hx hb hr hlk (upd f L.length (nI c9)) (⟨rfl, oR_push hf⟩) hP hK hD hS dX2_put_35
abbrev rm_l_full : Room := { frames := 0, cells := 0, slots := 0, locals := 0 }
set_option maxHeartbeats 4000000 in
set_option maxRecDepth 100000 in
theorem l_full (l : Launch) (D : va_G) (cI cL cC cB cZ cR : ClassId) (sz : Nat) (x ra nn : Nat) (L : List Nat) (f : Nat → Int32) (c9 : Nat) (hL : L.length = nn) (hnn : nn < 2 ^ 31) : Met l yX2_put wsX2_put rm_l_full (xPc D vwCl (tyAll cI cL cC cB cZ cR) [.ref x, .int (nI c9)] [(x, .inr (2, [.ref ra, .int (nI L.length)])), (ra, .inl (cC, nn, .inl f))] sz) (va_Qi (fun (z : Int32) (_ : Unit) => z = nI 0) (xB D vwCl (tyAll cI cL cC cB cZ cR) (va_A [(x, .inr (2, [.ref ra, .int (nI L.length)])), (ra, .inl (cC, nn, .inl f))] sz) (fun u : Unit => [(x, .inr (2, [.ref ra, .int (nI L.length)])), (ra, .inl (cC, nn, .inl f))])) (va_A [(x, .inr (2, [.ref ra, .int (nI L.length)])), (ra, .inl (cC, nn, .inl f))] sz)) 0 0 (va_A [(x, .inr (2, [.ref ra, .int (nI L.length)])), (ra, .inl (cC, nn, .inl f))] sz) := by
  refine x_of (Qc := fun A => va_Qi (fun (z : Int32) (_ : Unit) => z = nI 0) (xB D vwCl (tyAll cI cL cC cB cZ cR) A (fun u : Unit => [(x, .inr (2, [.ref ra, .int (nI L.length)])), (ra, .inl (cC, nn, .inl f))])) A) (by decide) rfl (Nat.le_of_ble_eq_true rfl) ?_
  intro p e s m args below meth c A H locs ls hx hb hr hts0 hown hlk hml hnm hP hK hD hN hA hS hl
  have hts : ∀ w ∈ wsA, w.before args s = true := fun w h => hts0 w (List.mem_cons_of_mem _ h)
  have hown : s.vm.findClass "WideDecimalDesk$Line" = some m.cls := hown
  have hl : lv_has ls 2 [(0, .ref x), (1, .int (nI c9))] := hl
  refine lv_aload_n (pc := 0) hx hb dX2_put_0 rfl (lv_at hl 0 rfl) ?_
  refine va_get (D := D) (ci := 2) (v := .int (nI L.length)) (C := RX2) (T := TX2) (N := 2) (pc := 1) hx hb hts in_X2 hown hK hP 0 rfl rfl 1 (by decide) (hts _ kw_60) (fun _ h9 => h9) rfl dX2_put_1 ?_
  refine lv_aload_n (pc := 4) hx hb dX2_put_4 rfl (lv_at hl 0 rfl) ?_
  refine va_get (D := D) (ci := 2) (v := .ref ra) (C := RX2) (T := TX2) (N := 2) (pc := 5) hx hb hts in_X2 hown hK hP 0 rfl rfl 0 (by decide) (hts _ kw_59) (fun _ h9 => h9) rfl dX2_put_5 ?_
  refine va_alen (v := nI nn) (pc := 8) hx hb hK hP 1 2 rfl rfl rfl dX2_put_8 ?_
  refine x_icmp_lt (tgt := 14) (pc := 9) hx hb (by omega) (by omega) dX2_put_9 (by decide) (fun h9 => absurd h9 (by omega)) (fun h9 => ?_)
  refine lv_iconst (v := nI 0) (pc := 12) hx hb dX2_put_12 kI_0 ?_
  exact x_retz (pc := 13) rfl hx hb hr hlk () rfl hP hK hD hS dX2_put_13
abbrev rm_l_at : Room := { frames := 0, cells := 0, slots := 0, locals := 0 }
set_option maxHeartbeats 4000000 in
set_option maxRecDepth 100000 in
theorem l_at (l : Launch) (D : va_G) (cI cL cC cB cZ cR : ClassId) (sz : Nat) (x ra nn : Nat) (L : List Nat) (f : Nat → Int32) (j : Nat) (hf : oR f L) (hL : L.length ≤ nn) (hnn : nn < 2 ^ 31) (hj : j < L.length) : Met l yX2_codeAt wsX2_codeAt rm_l_at (xPc D vwCl (tyAll cI cL cC cB cZ cR) [.ref x, .int (nI j)] [(x, .inr (2, [.ref ra, .int (nI L.length)])), (ra, .inl (cC, nn, .inl f))] sz) (va_Qi (fun (z : Int32) (_ : Unit) => z = nI (L.getD j 0)) (xB D vwCl (tyAll cI cL cC cB cZ cR) (va_A [(x, .inr (2, [.ref ra, .int (nI L.length)])), (ra, .inl (cC, nn, .inl f))] sz) (fun u : Unit => [(x, .inr (2, [.ref ra, .int (nI L.length)])), (ra, .inl (cC, nn, .inl f))])) (va_A [(x, .inr (2, [.ref ra, .int (nI L.length)])), (ra, .inl (cC, nn, .inl f))] sz)) 0 0 (va_A [(x, .inr (2, [.ref ra, .int (nI L.length)])), (ra, .inl (cC, nn, .inl f))] sz) := by
  refine x_of (Qc := fun A => va_Qi (fun (z : Int32) (_ : Unit) => z = nI (L.getD j 0)) (xB D vwCl (tyAll cI cL cC cB cZ cR) A (fun u : Unit => [(x, .inr (2, [.ref ra, .int (nI L.length)])), (ra, .inl (cC, nn, .inl f))])) A) (by decide) rfl (Nat.le_of_ble_eq_true rfl) ?_
  intro p e s m args below meth c A H locs ls hx hb hr hts0 hown hlk hml hnm hP hK hD hN hA hS hl
  have hts : ∀ w ∈ wsA, w.before args s = true := fun w h => hts0 w (List.mem_cons_of_mem _ h)
  have hown : s.vm.findClass "WideDecimalDesk$Line" = some m.cls := hown
  have hl : lv_has ls 2 [(0, .ref x), (1, .int (nI j))] := hl
  refine lv_iload_n (pc := 0) hx hb dX2_codeAt_0 rfl (lv_at hl 1 rfl) ?_
  refine x_if_lt (tgt := 21) (pc := 1) hx hb (by omega) dX2_codeAt_1 (by decide) ?_
  refine lv_iload_n (pc := 4) hx hb dX2_codeAt_4 rfl (lv_at hl 1 rfl) ?_
  refine lv_aload_n (pc := 5) hx hb dX2_codeAt_5 rfl (lv_at hl 0 rfl) ?_
  refine va_get (D := D) (ci := 2) (v := .int (nI L.length)) (C := RX2) (T := TX2) (N := 2) (pc := 6) hx hb hts in_X2 hown hK hP 0 rfl rfl 1 (by decide) (hts _ kw_60) (fun _ h9 => h9) rfl dX2_codeAt_6 ?_
  refine x_icmp_ge (tgt := 21) (pc := 9) hx hb (by omega) (by omega) dX2_codeAt_9 (by decide) (fun h9 => absurd h9 (by omega)) (fun h9 => ?_)
  refine lv_aload_n (pc := 12) hx hb dX2_codeAt_12 rfl (lv_at hl 0 rfl) ?_
  refine va_get (D := D) (ci := 2) (v := .ref ra) (C := RX2) (T := TX2) (N := 2) (pc := 13) hx hb hts in_X2 hown hK hP 0 rfl rfl 0 (by decide) (hts _ kw_59) (fun _ h9 => h9) rfl dX2_codeAt_13 ?_
  refine lv_iload_n (pc := 16) hx hb dX2_codeAt_16 rfl (lv_at hl 1 rfl) ?_
  refine x_cald (v := nI (L.getD j 0)) (pc := 17) hx hb hK hP 1 2 rfl rfl (by omega) hnn (oR_at hf hj) dX2_codeAt_17 ?_
  refine lv_goto (tgt := 22) (pc := 18) hx hb dX2_codeAt_18 (by decide) ?_
  exact x_reti (pc := 22) hx hb hr hlk () rfl hP hK hD hS dX2_codeAt_22
abbrev rm_l_atbad : Room := { frames := 0, cells := 0, slots := 0, locals := 0 }
set_option maxHeartbeats 4000000 in
set_option maxRecDepth 100000 in
theorem l_atbad (l : Launch) (D : va_G) (cI cL cC cB cZ cR : ClassId) (sz : Nat) (x ra : Nat) (L : List Nat) (i : Int32) (hbad : inR L.length i = 0) : Met l yX2_codeAt wsX2_codeAt rm_l_atbad (xPc D vwCl (tyAll cI cL cC cB cZ cR) [.ref x, .int i] [(x, .inr (2, [.ref ra, .int (nI L.length)]))] sz) (va_Qi (fun (z : Int32) (_ : Unit) => z = -1) (xB D vwCl (tyAll cI cL cC cB cZ cR) (va_A [(x, .inr (2, [.ref ra, .int (nI L.length)]))] sz) (fun u : Unit => [(x, .inr (2, [.ref ra, .int (nI L.length)]))])) (va_A [(x, .inr (2, [.ref ra, .int (nI L.length)]))] sz)) 0 0 (va_A [(x, .inr (2, [.ref ra, .int (nI L.length)]))] sz) := by
  refine x_of (Qc := fun A => va_Qi (fun (z : Int32) (_ : Unit) => z = -1) (xB D vwCl (tyAll cI cL cC cB cZ cR) A (fun u : Unit => [(x, .inr (2, [.ref ra, .int (nI L.length)]))])) A) (by decide) rfl (Nat.le_of_ble_eq_true rfl) ?_
  intro p e s m args below meth c A H locs ls hx hb hr hts0 hown hlk hml hnm hP hK hD hN hA hS hl
  have hts : ∀ w ∈ wsA, w.before args s = true := fun w h => hts0 w (List.mem_cons_of_mem _ h)
  have hown : s.vm.findClass "WideDecimalDesk$Line" = some m.cls := hown
  have hl : lv_has ls 2 [(0, .ref x), (1, .int i)] := hl
  refine lv_iload_n (pc := 0) hx hb dX2_codeAt_0 rfl (lv_at hl 1 rfl) ?_
  refine lv_if_lt (tgt := 21) (pc := 1) hx hb dX2_codeAt_1 (by decide) (fun h1 => ?_) (fun h1 => ?_)
  · refine lv_iconst (v := -1) (pc := 21) hx hb dX2_codeAt_21 kI_m1 ?_
    exact x_reti (pc := 22) hx hb hr hlk () rfl hP hK hD hS dX2_codeAt_22
  · refine lv_iload_n (pc := 4) hx hb dX2_codeAt_4 rfl (lv_at hl 1 rfl) ?_
    refine lv_aload_n (pc := 5) hx hb dX2_codeAt_5 rfl (lv_at hl 0 rfl) ?_
    refine va_get (D := D) (ci := 2) (v := .int (nI L.length)) (C := RX2) (T := TX2) (N := 2) (pc := 6) hx hb hts in_X2 hown hK hP 0 rfl rfl 1 (by decide) (hts _ kw_60) (fun _ h9 => h9) rfl dX2_codeAt_6 ?_
    refine lv_icmp_ge (tgt := 21) (pc := 9) hx hb dX2_codeAt_9 (by decide) (fun h2 => ?_) (fun h2 => ?_)
    · refine lv_iconst (v := -1) (pc := 21) hx hb dX2_codeAt_21 kI_m1 ?_
      exact x_reti (pc := 22) hx hb hr hlk () rfl hP hK hD hS dX2_codeAt_22
    · exact absurd hbad (by rw [inR_y h1 h2]; decide)
abbrev rm_d_begin : Room := { frames := 1, cells := 0, slots := 0, locals := 21 }
set_option maxHeartbeats 4000000 in
set_option maxRecDepth 100000 in
theorem d_begin (l : Launch) (D : va_G) (cI cL cC cB cZ cR : ClassId) (sz : Nat) (d w wa s9 g9 : Nat) (sc0 ng0 ct0 : Int32) (f : Nat → Int64) (hg9 : g9 ≤ 1) : Met l yX1_begin wsX1_begin rm_d_begin (xPc D vwCl (tyAll cI cL cC cB cZ cR) [.ref d, .int (nI s9), .int (nI g9)] [(d, .inr (1, [.ref w, .int sc0, .int ng0, .int ct0])), (w, .inr (6, [.ref wa])), (wa, .inl (cL, 6, .inr (.inl f)))] sz) (va_Qv (fun u : Nat → Int64 => wR u 0) (xB D vwCl (tyAll cI cL cC cB cZ cR) (va_A [(d, .inr (1, [.ref w, .int sc0, .int ng0, .int ct0])), (w, .inr (6, [.ref wa])), (wa, .inl (cL, 6, .inr (.inl f)))] sz) (fun u : (Nat → Int64) => [(d, .inr (1, [.ref w, .int (nI s9), .int (nI g9), .int (nI 0)])), (w, .inr (6, [.ref wa])), (wa, .inl (cL, 6, .inr (.inl u)))])) (va_A [(d, .inr (1, [.ref w, .int sc0, .int ng0, .int ct0])), (w, .inr (6, [.ref wa])), (wa, .inl (cL, 6, .inr (.inl f)))] sz)) 0 0 (va_A [(d, .inr (1, [.ref w, .int sc0, .int ng0, .int ct0])), (w, .inr (6, [.ref wa])), (wa, .inl (cL, 6, .inr (.inl f)))] sz) := by
  refine x_of (Qc := fun A => va_Qv (fun u : Nat → Int64 => wR u 0) (xB D vwCl (tyAll cI cL cC cB cZ cR) A (fun u : (Nat → Int64) => [(d, .inr (1, [.ref w, .int (nI s9), .int (nI g9), .int (nI 0)])), (w, .inr (6, [.ref wa])), (wa, .inl (cL, 6, .inr (.inl u)))])) A) (by decide) rfl (Nat.le_of_ble_eq_true rfl) ?_
  intro p e s m args below meth c A H locs ls hx hb hr hts0 hown hlk hml hnm hP hK hD hN hA hS hl
  have hts : ∀ w ∈ wsA, w.before args s = true := fun w h => hts0 w (List.mem_cons_of_mem _ h)
  have hown : s.vm.findClass "WideDecimalDesk$Draft" = some m.cls := hown
  have hl : lv_has ls 3 [(0, .ref d), (1, .int (nI s9)), (2, .int (nI g9))] := hl
  refine lv_aload_n (pc := 0) hx hb dX1_begin_0 rfl (lv_at hl 0 rfl) ?_
  refine va_get (D := D) (ci := 1) (v := .ref w) (C := RX1) (T := TX1) (N := 4) (pc := 1) hx hb hts in_X1 hown hK hP 0 rfl rfl 0 (by decide) (hts _ kw_87) (fun _ h9 => h9) rfl dX1_begin_1 ?_
  refine x_Vv (pc := 4) (As := []) (rest := []) (b := w) (wr := [(d, .inr (1, [.ref w, .int sc0, .int ng0, .int ct0]))]) ⟨hx, hb, hml, hown, hts⟩ (w_zero l D cI cL cC cB cZ cR H.size w wa f ) ⟨callB_of 0 hts (x_good kw_250) rfl rfl rfl (hts _ kw_5) (hts _ kw_247) dc_X6_becomeZero ⟨Nat.le_of_ble_eq_true rfl, Nat.le_of_ble_eq_true rfl⟩, hts _ kw_248, hts _ kw_249⟩ (q0 := 1) rfl rfl rfl rfl hl.1 rfl (Nat.le_of_ble_eq_true rfl) dX1_begin_4 ⟨Nat.le_refl _, Nat.le_refl _⟩ hN hK hP hD hS hA [1, 2] [0] rfl rfl (by decide) (by decide) (by decide) (fun u4 H locs h0 hP hD hS => ?_)
  obtain ⟨f0, rfl⟩ : ∃ z, z = u4 := ⟨_, rfl⟩
  have hP : va_P D vwCl [(d, .inr (1, [.ref w, .int sc0, .int ng0, .int ct0])), (w, .inr (6, [.ref wa])), (wa, .inl (cL, 6, .inr (.inl f0)))] H := hP
  have hD : va_D A [(d, .inr (1, [.ref w, .int sc0, .int ng0, .int ct0])), (w, .inr (6, [.ref wa])), (wa, .inl (cL, 6, .inr (.inl f0)))] := hD
  refine lv_aload_n (pc := 7) hx hb dX1_begin_7 rfl (lv_at hl 0 rfl) ?_
  refine lv_iload_n (pc := 8) hx hb dX1_begin_8 rfl (lv_at hl 1 rfl) ?_
  refine va_put (D := D) (ci := 1) (v := .int (nI s9)) (ty := .int) (C := RX1) (T := TX1) (N := 4) (pc := 9) hx hb hts in_X1 tyX1 ty_X1 nm_X1 hown hK hP hD hS 0 rfl rfl 1 (by decide) (hts _ kw_89) (fun _ h9 => h9) rfl (by decide +kernel) rfl rfl (Nat.le_of_ble_eq_true rfl) dX1_begin_9 (fun H locs hP hD hS => ?_)
  have hP : va_P D vwCl [(d, .inr (1, [.ref w, .int (nI s9), .int ng0, .int ct0])), (w, .inr (6, [.ref wa])), (wa, .inl (cL, 6, .inr (.inl f0)))] H := hP
  have hD : va_D A [(d, .inr (1, [.ref w, .int (nI s9), .int ng0, .int ct0])), (w, .inr (6, [.ref wa])), (wa, .inl (cL, 6, .inr (.inl f0)))] := hD
  refine lv_aload_n (pc := 12) hx hb dX1_begin_12 rfl (lv_at hl 0 rfl) ?_
  refine lv_iload_n (pc := 13) hx hb dX1_begin_13 rfl (lv_at hl 2 rfl) ?_
  refine va_put (D := D) (ci := 1) (v := .int (nI g9)) (ty := .boolean) (C := RX1) (T := TX1) (N := 4) (pc := 14) hx hb hts in_X1 tyX1 ty_X1 nm_X1 hown hK hP hD hS 0 rfl rfl 2 (by decide) (hts _ kw_91) (fun _ h9 => h9) rfl (by decide +kernel) (x_nz hg9) (x_fz hg9) (Nat.le_of_ble_eq_true rfl) dX1_begin_14 (fun H locs hP hD hS => ?_)
  have hP : va_P D vwCl [(d, .inr (1, [.ref w, .int (nI s9), .int (nI g9), .int ct0])), (w, .inr (6, [.ref wa])), (wa, .inl (cL, 6, .inr (.inl f0)))] H := hP
  have hD : va_D A [(d, .inr (1, [.ref w, .int (nI s9), .int (nI g9), .int ct0])), (w, .inr (6, [.ref wa])), (wa, .inl (cL, 6, .inr (.inl f0)))] := hD
  refine lv_aload_n (pc := 17) hx hb dX1_begin_17 rfl (lv_at hl 0 rfl) ?_
  refine lv_iconst (v := nI 0) (pc := 18) hx hb dX1_begin_18 kI_0 ?_
  refine va_put (D := D) (ci := 1) (v := .int (nI 0)) (ty := .int) (C := RX1) (T := TX1) (N := 4) (pc := 19) hx hb hts in_X1 tyX1 ty_X1 nm_X1 hown hK hP hD hS 0 rfl rfl 3 (by decide) (hts _ kw_93) (fun _ h9 => h9) rfl (by decide +kernel) rfl rfl (Nat.le_of_ble_eq_true rfl) dX1_begin_19 (fun H locs hP hD hS => ?_)
  have hP : va_P D vwCl [(d, .inr (1, [.ref w, .int (nI s9), .int (nI g9), .int (nI 0)])), (w, .inr (6, [.ref wa])), (wa, .inl (cL, 6, .inr (.inl f0)))] H := hP
  have hD : va_D A [(d, .inr (1, [.ref w, .int (nI s9), .int (nI g9), .int (nI 0)])), (w, .inr (6, [.ref wa])), (wa, .inl (cL, 6, .inr (.inl f0)))] := hD
  exact x_retv (pc := 22) hx hb hr hlk f0 h0 hP hK hD hS dX1_begin_22
abbrev rm_d_load : Room := { frames := 2, cells := 0, slots := 0, locals := 44 }
set_option maxHeartbeats 4000000 in
set_option maxRecDepth 100000 in
theorem d_load (l : Launch) (D : va_G) (cI cL cC cB cZ cR : ClassId) (sz : Nat) (d w wa r lo hi s9 g9 : Nat) (sc0 ng0 ct0 : Int32) (f : Nat → Int64) (hl9 : lo < 18446744073709551616) (hh9 : hi < 4294967296) (hg9 : g9 ≤ 1) : Met l yX1_load wsX1_load rm_d_load (xPc D vwCl (tyAll cI cL cC cB cZ cR) [.ref d, .ref r] [(d, .inr (1, [.ref w, .int sc0, .int ng0, .int ct0])), (w, .inr (6, [.ref wa])), (wa, .inl (cL, 6, .inr (.inl f))), (r, .inr (5, [.long (lN lo), .int (nI hi), .int (nI s9), .int (nI g9)]))] sz) (va_Qv (fun u : Nat → Int64 => wR u (lo + 18446744073709551616 * hi)) (xB D vwCl (tyAll cI cL cC cB cZ cR) (va_A [(d, .inr (1, [.ref w, .int sc0, .int ng0, .int ct0])), (w, .inr (6, [.ref wa])), (wa, .inl (cL, 6, .inr (.inl f))), (r, .inr (5, [.long (lN lo), .int (nI hi), .int (nI s9), .int (nI g9)]))] sz) (fun u : (Nat → Int64) => [(d, .inr (1, [.ref w, .int (nI s9), .int (nI g9), .int (nI 0)])), (w, .inr (6, [.ref wa])), (wa, .inl (cL, 6, .inr (.inl u))), (r, .inr (5, [.long (lN lo), .int (nI hi), .int (nI s9), .int (nI g9)]))])) (va_A [(d, .inr (1, [.ref w, .int sc0, .int ng0, .int ct0])), (w, .inr (6, [.ref wa])), (wa, .inl (cL, 6, .inr (.inl f))), (r, .inr (5, [.long (lN lo), .int (nI hi), .int (nI s9), .int (nI g9)]))] sz)) 0 0 (va_A [(d, .inr (1, [.ref w, .int sc0, .int ng0, .int ct0])), (w, .inr (6, [.ref wa])), (wa, .inl (cL, 6, .inr (.inl f))), (r, .inr (5, [.long (lN lo), .int (nI hi), .int (nI s9), .int (nI g9)]))] sz) := by
  refine x_of (Qc := fun A => va_Qv (fun u : Nat → Int64 => wR u (lo + 18446744073709551616 * hi)) (xB D vwCl (tyAll cI cL cC cB cZ cR) A (fun u : (Nat → Int64) => [(d, .inr (1, [.ref w, .int (nI s9), .int (nI g9), .int (nI 0)])), (w, .inr (6, [.ref wa])), (wa, .inl (cL, 6, .inr (.inl u))), (r, .inr (5, [.long (lN lo), .int (nI hi), .int (nI s9), .int (nI g9)]))])) A) (by decide) rfl (Nat.le_of_ble_eq_true rfl) ?_
  intro p e s m args below meth c A H locs ls hx hb hr hts0 hown hlk hml hnm hP hK hD hN hA hS hl
  have hts : ∀ w ∈ wsA, w.before args s = true := fun w h => hts0 w (List.mem_cons_of_mem _ h)
  have hown : s.vm.findClass "WideDecimalDesk$Draft" = some m.cls := hown
  have hl : lv_has ls 2 [(0, .ref d), (1, .ref r)] := hl
  refine lv_aload_n (pc := 0) hx hb dX1_load_0 rfl (lv_at hl 0 rfl) ?_
  refine lv_aload_n (pc := 1) hx hb dX1_load_1 rfl (lv_at hl 1 rfl) ?_
  refine va_getN (D := D) (ci := 5) (v := .int (nI s9)) (C := RX5) (T := TX5) (N := 4) (pc := 2) hx hb hts in_X5 hown hK hP 3 rfl rfl 2 (by decide) (va_Nw.use rfl (hN _ kn_39)) (fun _ h9 => h9) rfl dX1_load_2 ?_
  refine lv_aload_n (pc := 5) hx hb dX1_load_5 rfl (lv_at hl 1 rfl) ?_
  refine va_getN (D := D) (ci := 5) (v := .int (nI g9)) (C := RX5) (T := TX5) (N := 4) (pc := 6) hx hb hts in_X5 hown hK hP 3 rfl rfl 3 (by decide) (va_Nw.use rfl (hN _ kn_42)) (fun _ h9 => h9) rfl dX1_load_6 ?_
  refine x_Vv (pc := 9) (As := [.int (nI s9), .int (nI g9)]) (rest := []) (b := d) (wr := [(r, .inr (5, [.long (lN lo), .int (nI hi), .int (nI s9), .int (nI g9)]))]) ⟨hx, hb, hml, hown, hts⟩ (d_begin l D cI cL cC cB cZ cR H.size d w wa s9 g9 sc0 ng0 ct0 f hg9) ⟨callB_of 2 hts (x_good kw_246) rfl rfl rfl (hts _ kw_4) (hts _ kw_243) dc_X1_begin ⟨Nat.le_of_ble_eq_true rfl, Nat.le_of_ble_eq_true rfl⟩, hts _ kw_244, hts _ kw_245⟩ (q0 := 0) rfl rfl rfl rfl hl.1 rfl (Nat.le_of_ble_eq_true rfl) dX1_load_9 ⟨Nat.le_refl _, Nat.le_refl _⟩ hN hK hP hD hS hA [0, 1, 2] [3] rfl rfl (by decide) (by decide) (by decide) (fun u9 H locs h0 hP hD hS => ?_)
  obtain ⟨f0, rfl⟩ : ∃ z, z = u9 := ⟨_, rfl⟩
  have hP : va_P D vwCl [(r, .inr (5, [.long (lN lo), .int (nI hi), .int (nI s9), .int (nI g9)])), (d, .inr (1, [.ref w, .int (nI s9), .int (nI g9), .int (nI 0)])), (w, .inr (6, [.ref wa])), (wa, .inl (cL, 6, .inr (.inl f0)))] H := hP
  have hD : va_D A [(r, .inr (5, [.long (lN lo), .int (nI hi), .int (nI s9), .int (nI g9)])), (d, .inr (1, [.ref w, .int (nI s9), .int (nI g9), .int (nI 0)])), (w, .inr (6, [.ref wa])), (wa, .inl (cL, 6, .inr (.inl f0)))] := hD
  refine lv_aload_n (pc := 12) hx hb dX1_load_12 rfl (lv_at hl 0 rfl) ?_
  refine va_get (D := D) (ci := 1) (v := .ref w) (C := RX1) (T := TX1) (N := 4) (pc := 13) hx hb hts in_X1 hown hK hP 1 rfl rfl 0 (by decide) (hts _ kw_87) (fun _ h9 => h9) rfl dX1_load_13 ?_
  refine lv_aload_n (pc := 16) hx hb dX1_load_16 rfl (lv_at hl 1 rfl) ?_
  refine va_getN (D := D) (ci := 5) (v := .long (lN lo)) (C := RX5) (T := TX5) (N := 4) (pc := 17) hx hb hts in_X5 hown hK hP 0 rfl rfl 0 (by decide) (va_Nw.use rfl (hN _ kn_34)) (fun _ h9 => h9) rfl dX1_load_17 ?_
  refine lv_aload_n (pc := 20) hx hb dX1_load_20 rfl (lv_at hl 1 rfl) ?_
  refine va_getN (D := D) (ci := 5) (v := .int (nI hi)) (C := RX5) (T := TX5) (N := 4) (pc := 21) hx hb hts in_X5 hown hK hP 0 rfl rfl 1 (by decide) (va_Nw.use rfl (hN _ kn_36)) (fun _ h9 => h9) rfl dX1_load_21 ?_
  refine x_Vv (pc := 24) (As := [.long (lN lo), .int (nI hi)]) (rest := []) (b := w) (wr := [(r, .inr (5, [.long (lN lo), .int (nI hi), .int (nI s9), .int (nI g9)])), (d, .inr (1, [.ref w, .int (nI s9), .int (nI g9), .int (nI 0)]))]) ⟨hx, hb, hml, hown, hts⟩ (w_take l D cI cL cC cB cZ cR H.size w wa lo hi f0 hl9 hh9) ⟨callB_of 2 hts (x_good kw_254) rfl rfl rfl (hts _ kw_5) (hts _ kw_251) dc_X6_takeBits ⟨Nat.le_of_ble_eq_true rfl, Nat.le_of_ble_eq_true rfl⟩, hts _ kw_252, hts _ kw_253⟩ (q0 := 2) rfl rfl rfl rfl hl.1 rfl (Nat.le_of_ble_eq_true rfl) dX1_load_24 ⟨Nat.le_refl _, Nat.le_refl _⟩ hN hK hP hD hS hA [2, 3] [0, 1] rfl rfl (by decide) (by decide) (by decide) (fun u24 H locs h1 hP hD hS => ?_)
  obtain ⟨f1, rfl⟩ : ∃ z, z = u24 := ⟨_, rfl⟩
  have hP : va_P D vwCl [(r, .inr (5, [.long (lN lo), .int (nI hi), .int (nI s9), .int (nI g9)])), (d, .inr (1, [.ref w, .int (nI s9), .int (nI g9), .int (nI 0)])), (w, .inr (6, [.ref wa])), (wa, .inl (cL, 6, .inr (.inl f1)))] H := hP
  have hD : va_D A [(r, .inr (5, [.long (lN lo), .int (nI hi), .int (nI s9), .int (nI g9)])), (d, .inr (1, [.ref w, .int (nI s9), .int (nI g9), .int (nI 0)])), (w, .inr (6, [.ref wa])), (wa, .inl (cL, 6, .inr (.inl f1)))] := hD
  have hP := x_Psub (w := [(d, .inr (1, [.ref w, .int (nI s9), .int (nI g9), .int (nI 0)])), (w, .inr (6, [.ref wa])), (wa, .inl (cL, 6, .inr (.inl f1))), (r, .inr (5, [.long (lN lo), .int (nI hi), .int (nI s9), .int (nI g9)]))]) (is := [1, 2, 3, 0]) hP rfl
  have hD := hD.sub (ws' := [(d, .inr (1, [.ref w, .int (nI s9), .int (nI g9), .int (nI 0)])), (w, .inr (6, [.ref wa])), (wa, .inl (cL, 6, .inr (.inl f1))), (r, .inr (5, [.long (lN lo), .int (nI hi), .int (nI s9), .int (nI g9)]))]) [1, 2, 3, 0] (by decide) rfl
  exact x_retv (pc := 27) hx hb hr hlk f1 h1 hP hK hD hS dX1_load_27
abbrev rm_d_store : Room := { frames := 2, cells := 0, slots := 0, locals := 45 }
set_option maxHeartbeats 4000000 in
set_option maxRecDepth 100000 in
theorem d_store (l : Launch) (D : va_G) (cI cL cC cB cZ cR : ClassId) (sz : Nat) (d w wa r v s9 g9 : Nat) (ct0 : Int32) (lo0 : Int64) (hi0 sc0 ng0 : Int32) (f : Nat → Int64) (hf : wR f v) (hv : v < lim) (hg9 : g9 ≤ 1) : Met l yX1_storeIn wsX1_storeIn rm_d_store (xPc D vwCl (tyAll cI cL cC cB cZ cR) [.ref d, .ref r] [(d, .inr (1, [.ref w, .int (nI s9), .int (nI g9), .int ct0])), (w, .inr (6, [.ref wa])), (wa, .inl (cL, 6, .inr (.inl f))), (r, .inr (5, [.long lo0, .int hi0, .int sc0, .int ng0]))] sz) (va_Qv (fun _ : Unit => True) (xB D vwCl (tyAll cI cL cC cB cZ cR) (va_A [(d, .inr (1, [.ref w, .int (nI s9), .int (nI g9), .int ct0])), (w, .inr (6, [.ref wa])), (wa, .inl (cL, 6, .inr (.inl f))), (r, .inr (5, [.long lo0, .int hi0, .int sc0, .int ng0]))] sz) (fun u : Unit => [(d, .inr (1, [.ref w, .int (nI s9), .int (nI g9), .int ct0])), (w, .inr (6, [.ref wa])), (wa, .inl (cL, 6, .inr (.inl f))), (r, .inr (5, [.long (lN (v % 18446744073709551616)), .int (nI (dg 4294967296 v 2)), .int (nI s9), .int (nI (sgn g9 v))]))])) (va_A [(d, .inr (1, [.ref w, .int (nI s9), .int (nI g9), .int ct0])), (w, .inr (6, [.ref wa])), (wa, .inl (cL, 6, .inr (.inl f))), (r, .inr (5, [.long lo0, .int hi0, .int sc0, .int ng0]))] sz)) 0 0 (va_A [(d, .inr (1, [.ref w, .int (nI s9), .int (nI g9), .int ct0])), (w, .inr (6, [.ref wa])), (wa, .inl (cL, 6, .inr (.inl f))), (r, .inr (5, [.long lo0, .int hi0, .int sc0, .int ng0]))] sz) := by
  refine x_of (Qc := fun A => va_Qv (fun _ : Unit => True) (xB D vwCl (tyAll cI cL cC cB cZ cR) A (fun u : Unit => [(d, .inr (1, [.ref w, .int (nI s9), .int (nI g9), .int ct0])), (w, .inr (6, [.ref wa])), (wa, .inl (cL, 6, .inr (.inl f))), (r, .inr (5, [.long (lN (v % 18446744073709551616)), .int (nI (dg 4294967296 v 2)), .int (nI s9), .int (nI (sgn g9 v))]))])) A) (by decide) rfl (Nat.le_of_ble_eq_true rfl) ?_
  intro p e s m args below meth c A H locs ls hx hb hr hts0 hown hlk hml hnm hP hK hD hN hA hS hl
  have hts : ∀ w ∈ wsA, w.before args s = true := fun w h => hts0 w (List.mem_cons_of_mem _ h)
  have hown : s.vm.findClass "WideDecimalDesk$Draft" = some m.cls := hown
  have hl : lv_has ls 2 [(0, .ref d), (1, .ref r)] := hl
  refine lv_aload_n (pc := 0) hx hb dX1_storeIn_0 rfl (lv_at hl 1 rfl) ?_
  refine lv_aload_n (pc := 1) hx hb dX1_storeIn_1 rfl (lv_at hl 0 rfl) ?_
  refine va_get (D := D) (ci := 1) (v := .ref w) (C := RX1) (T := TX1) (N := 4) (pc := 2) hx hb hts in_X1 hown hK hP 0 rfl rfl 0 (by decide) (hts _ kw_87) (fun _ h9 => h9) rfl dX1_storeIn_2 ?_
  refine x_Vl (pc := 5) (As := []) (rest := [.ref r]) (b := w) (wr := [(d, .inr (1, [.ref w, .int (nI s9), .int (nI g9), .int ct0])), (r, .inr (5, [.long lo0, .int hi0, .int sc0, .int ng0]))]) ⟨hx, hb, hml, hown, hts⟩ (w_low l D cI cL cC cB cZ cR H.size w wa v f hf) ⟨callB_of 0 hts (x_good kw_406) rfl rfl rfl (hts _ kw_5) (hts _ kw_403) dc_X6_lowBits ⟨Nat.le_of_ble_eq_true rfl, Nat.le_of_ble_eq_true rfl⟩, hts _ kw_404, hts _ kw_405⟩ (q0 := 1) rfl rfl rfl rfl hl.1 rfl (Nat.le_of_ble_eq_true rfl) dX1_storeIn_5 ⟨Nat.le_refl _, Nat.le_refl _⟩ hN hK hP hD hS hA [1, 2] [0, 3] rfl rfl (by decide) (by decide) (by decide) (fun r5 u5 H locs q5 hP hD hS => ?_)
  have hP : va_P D vwCl [(d, .inr (1, [.ref w, .int (nI s9), .int (nI g9), .int ct0])), (r, .inr (5, [.long lo0, .int hi0, .int sc0, .int ng0])), (w, .inr (6, [.ref wa])), (wa, .inl (cL, 6, .inr (.inl f)))] H := hP
  have hD : va_D A [(d, .inr (1, [.ref w, .int (nI s9), .int (nI g9), .int ct0])), (r, .inr (5, [.long lo0, .int hi0, .int sc0, .int ng0])), (w, .inr (6, [.ref wa])), (wa, .inl (cL, 6, .inr (.inl f)))] := hD
  obtain rfl := q5
  refine lv_aload_n (pc := 8) hx hb dX1_storeIn_8 rfl (lv_at hl 0 rfl) ?_
  refine va_get (D := D) (ci := 1) (v := .ref w) (C := RX1) (T := TX1) (N := 4) (pc := 9) hx hb hts in_X1 hown hK hP 0 rfl rfl 0 (by decide) (hts _ kw_87) (fun _ h9 => h9) rfl dX1_storeIn_9 ?_
  refine x_Vi (pc := 12) (As := []) (rest := [.long (lN (v % 18446744073709551616)), .ref r]) (b := w) (wr := [(d, .inr (1, [.ref w, .int (nI s9), .int (nI g9), .int ct0])), (r, .inr (5, [.long lo0, .int hi0, .int sc0, .int ng0]))]) ⟨hx, hb, hml, hown, hts⟩ (w_high l D cI cL cC cB cZ cR H.size w wa v f hf) ⟨callB_of 0 hts (x_good kw_410) rfl rfl rfl (hts _ kw_5) (hts _ kw_407) dc_X6_highBits ⟨Nat.le_of_ble_eq_true rfl, Nat.le_of_ble_eq_true rfl⟩, hts _ kw_408, hts _ kw_409⟩ (q0 := 2) rfl rfl rfl rfl hl.1 rfl (Nat.le_of_ble_eq_true rfl) dX1_storeIn_12 ⟨Nat.le_refl _, Nat.le_refl _⟩ hN hK hP hD hS hA [2, 3] [0, 1] rfl rfl (by decide) (by decide) (by decide) (fun r12 u12 H locs q12 hP hD hS => ?_)
  have hP : va_P D vwCl [(d, .inr (1, [.ref w, .int (nI s9), .int (nI g9), .int ct0])), (r, .inr (5, [.long lo0, .int hi0, .int sc0, .int ng0])), (w, .inr (6, [.ref wa])), (wa, .inl (cL, 6, .inr (.inl f)))] H := hP
  have hD : va_D A [(d, .inr (1, [.ref w, .int (nI s9), .int (nI g9), .int ct0])), (r, .inr (5, [.long lo0, .int hi0, .int sc0, .int ng0])), (w, .inr (6, [.ref wa])), (wa, .inl (cL, 6, .inr (.inl f)))] := hD
  obtain rfl := q12
  refine lv_aload_n (pc := 15) hx hb dX1_storeIn_15 rfl (lv_at hl 0 rfl) ?_
  refine va_get (D := D) (ci := 1) (v := .int (nI s9)) (C := RX1) (T := TX1) (N := 4) (pc := 16) hx hb hts in_X1 hown hK hP 0 rfl rfl 1 (by decide) (hts _ kw_89) (fun _ h9 => h9) rfl dX1_storeIn_16 ?_
  refine lv_aload_n (pc := 19) hx hb dX1_storeIn_19 rfl (lv_at hl 0 rfl) ?_
  refine va_get (D := D) (ci := 1) (v := .int (nI g9)) (C := RX1) (T := TX1) (N := 4) (pc := 20) hx hb hts in_X1 hown hK hP 0 rfl rfl 2 (by decide) (hts _ kw_91) (fun _ h9 => h9) rfl dX1_storeIn_20 ?_
  refine x_Vv (pc := 23) (As := [.long (lN (v % 18446744073709551616)), .int (nI (dg 4294967296 v 2)), .int (nI s9), .int (nI g9)]) (rest := []) (b := r) (wr := [(d, .inr (1, [.ref w, .int (nI s9), .int (nI g9), .int ct0])), (w, .inr (6, [.ref wa])), (wa, .inl (cL, 6, .inr (.inl f)))]) ⟨hx, hb, hml, hown, hts⟩ (r_take l D cI cL cC cB cZ cR H.size r (v % 18446744073709551616) (dg 4294967296 v 2) s9 g9 lo0 hi0 sc0 ng0 (by omega) (dgW v 2) hg9) ⟨callB_of 4 hts (x_good kw_414) rfl rfl rfl (hts _ kw_2) (hts _ kw_411) dc_X5_take ⟨Nat.le_of_ble_eq_true rfl, Nat.le_of_ble_eq_true rfl⟩, hts _ kw_412, hts _ kw_413⟩ (q0 := 1) rfl rfl rfl rfl hl.1 rfl (Nat.le_of_ble_eq_true rfl) dX1_storeIn_23 ⟨Nat.le_refl _, Nat.le_refl _⟩ hN hK hP hD hS hA [1] [0, 2, 3] rfl rfl (by decide) (by decide) (by decide) (fun u23 H locs q23 hP hD hS => ?_)
  have hP : va_P D vwCl [(d, .inr (1, [.ref w, .int (nI s9), .int (nI g9), .int ct0])), (w, .inr (6, [.ref wa])), (wa, .inl (cL, 6, .inr (.inl f))), (r, .inr (5, [.long (lN (v % 18446744073709551616)), .int (nI (dg 4294967296 v 2)), .int (nI s9), .int (nI (sgn g9 ((v % 18446744073709551616) + 18446744073709551616 * (dg 4294967296 v 2))))]))] H := hP
  have hD : va_D A [(d, .inr (1, [.ref w, .int (nI s9), .int (nI g9), .int ct0])), (w, .inr (6, [.ref wa])), (wa, .inl (cL, 6, .inr (.inl f))), (r, .inr (5, [.long (lN (v % 18446744073709551616)), .int (nI (dg 4294967296 v 2)), .int (nI s9), .int (nI (sgn g9 ((v % 18446744073709551616) + 18446744073709551616 * (dg 4294967296 v 2))))]))] := hD
  rw [st_eq hv] at hP hD
  exact x_retv (pc := 26) hx hb hr hlk () trivial hP hK hD hS dX1_storeIn_26
abbrev rm_d_len : Room := { frames := 1, cells := 0, slots := 0, locals := 26 }
set_option maxHeartbeats 4000000 in
set_option maxRecDepth 100000 in
theorem d_len (l : Launch) (D : va_G) (cI cL cC cB cZ cR : ClassId) (sz : Nat) (d w wa v s9 n9 : Nat) (g9 ct : Int32) (f : Nat → Int64) (hf : wR f v) (h9 : s9 < 1000) (hn9 : n9 < 1000) : Met l yX1_lengthenTo wsX1_lengthenTo rm_d_len (xPc D vwCl (tyAll cI cL cC cB cZ cR) [.ref d, .int (nI n9)] [(d, .inr (1, [.ref w, .int (nI s9), .int g9, .int ct])), (w, .inr (6, [.ref wa])), (wa, .inl (cL, 6, .inr (.inl f)))] sz) (va_Qv (fun u : Nat → Int64 => wR u (v * 10 ^ (n9 - s9))) (xB D vwCl (tyAll cI cL cC cB cZ cR) (va_A [(d, .inr (1, [.ref w, .int (nI s9), .int g9, .int ct])), (w, .inr (6, [.ref wa])), (wa, .inl (cL, 6, .inr (.inl f)))] sz) (fun u : (Nat → Int64) => [(d, .inr (1, [.ref w, .int (nI (max s9 n9)), .int g9, .int ct])), (w, .inr (6, [.ref wa])), (wa, .inl (cL, 6, .inr (.inl u)))])) (va_A [(d, .inr (1, [.ref w, .int (nI s9), .int g9, .int ct])), (w, .inr (6, [.ref wa])), (wa, .inl (cL, 6, .inr (.inl f)))] sz)) 0 0 (va_A [(d, .inr (1, [.ref w, .int (nI s9), .int g9, .int ct])), (w, .inr (6, [.ref wa])), (wa, .inl (cL, 6, .inr (.inl f)))] sz) := by
  refine x_of (Qc := fun A => va_Qv (fun u : Nat → Int64 => wR u (v * 10 ^ (n9 - s9))) (xB D vwCl (tyAll cI cL cC cB cZ cR) A (fun u : (Nat → Int64) => [(d, .inr (1, [.ref w, .int (nI (max s9 n9)), .int g9, .int ct])), (w, .inr (6, [.ref wa])), (wa, .inl (cL, 6, .inr (.inl u)))])) A) (by decide) rfl (Nat.le_of_ble_eq_true rfl) ?_
  intro p e s m args below meth c A H locs ls hx hb hr hts0 hown hlk hml hnm hP hK hD hN hA hS hl
  have hts : ∀ w ∈ wsA, w.before args s = true := fun w h => hts0 w (List.mem_cons_of_mem _ h)
  have hown : s.vm.findClass "WideDecimalDesk$Draft" = some m.cls := hown
  have hl : lv_has ls 2 [(0, .ref d), (1, .int (nI n9))] := hl
  have L0 : ∀ (kk : Nat) (t : Nat) (f : (Nat → Int64)) (H : Heap) (locs : List Loc) (ls : Array Slot) (hk0 : max s9 n9 - t < kk) (ht1 : s9 ≤ t) (ht2 : t ≤ max s9 n9) (hf : wR f (v * 10 ^ (t - s9))) (hP : va_P D vwCl [(d, .inr (1, [.ref w, .int (nI t), .int g9, .int ct])), (w, .inr (6, [.ref wa])), (wa, .inl (cL, 6, .inr (.inl f)))] H) (hD : va_D A [(d, .inr (1, [.ref w, .int (nI t), .int g9, .int ct])), (w, .inr (6, [.ref wa])), (wa, .inl (cL, 6, .inr (.inl f)))]) (hS : va_S A s.heap H locs) (hl : lv_has ls 2 [(0, .ref d), (1, .int (nI n9))]), W p l e rm_d_len s m args below meth c H locs 0 0 (MQ below (va_Qv (fun u : Nat → Int64 => wR u (v * 10 ^ (n9 - s9))) (xB D vwCl (tyAll cI cL cC cB cZ cR) A (fun u : (Nat → Int64) => [(d, .inr (1, [.ref w, .int (nI (max s9 n9)), .int g9, .int ct])), (w, .inr (6, [.ref wa])), (wa, .inl (cL, 6, .inr (.inl u)))])) A) args s 0 0 A) (F0 m 0 ls []) := by
    intro kk
    induction kk with
    | zero => intro t f H locs ls hk; exact absurd hk (Nat.not_lt_zero _)
    | succ kk ih0 =>
      intro t f H locs ls hk0 ht1 ht2 hf hP hD hS hl
      refine lv_aload_n (pc := 0) hx hb dX1_lengthenTo_0 rfl (lv_at hl 0 rfl) ?_
      refine va_get (D := D) (ci := 1) (v := .int (nI t)) (C := RX1) (T := TX1) (N := 4) (pc := 1) hx hb hts in_X1 hown hK hP 0 rfl rfl 1 (by decide) (hts _ kw_89) (fun _ h9 => h9) rfl dX1_lengthenTo_1 ?_
      refine lv_iload_n (pc := 4) hx hb dX1_lengthenTo_4 rfl (lv_at hl 1 rfl) ?_
      refine x_icmp_ge (tgt := 29) (pc := 5) hx hb (by omega) (by omega) dX1_lengthenTo_5 (by decide) (fun hc => ?_) (fun hc => ?_)
      · have e9 : t = max s9 n9 := by omega
        have e8 : v * 10 ^ (t - s9) = v * 10 ^ (n9 - s9) := by congr 2; omega
        rw [e9] at hP hD
        exact x_retv (pc := 29) hx hb hr hlk f (wR_of hf e8) hP hK hD hS dX1_lengthenTo_29
      · refine lv_aload_n (pc := 8) hx hb dX1_lengthenTo_8 rfl (lv_at hl 0 rfl) ?_
        refine va_get (D := D) (ci := 1) (v := .ref w) (C := RX1) (T := TX1) (N := 4) (pc := 9) hx hb hts in_X1 hown hK hP 0 rfl rfl 0 (by decide) (hts _ kw_87) (fun _ h9 => h9) rfl dX1_lengthenTo_9 ?_
        refine lv_iconst (v := nI 0) (pc := 12) hx hb dX1_lengthenTo_12 kI_0 ?_
        refine x_Vv (pc := 13) (As := [.int (nI 0)]) (rest := []) (b := w) (wr := [(d, .inr (1, [.ref w, .int (nI t), .int g9, .int ct]))]) ⟨hx, hb, hml, hown, hts⟩ (w_append l D cI cL cC cB cZ cR H.size w wa (v * 10 ^ (t - s9)) 0 f hf (by decide)) ⟨callB_of 1 hts (x_good kw_264) rfl rfl rfl (hts _ kw_5) (hts _ kw_261) dc_X6_appendDigit ⟨Nat.le_of_ble_eq_true rfl, Nat.le_of_ble_eq_true rfl⟩, hts _ kw_262, hts _ kw_263⟩ (q0 := 1) rfl rfl rfl rfl hl.1 rfl (Nat.le_of_ble_eq_true rfl) dX1_lengthenTo_13 ⟨Nat.le_refl _, Nat.le_refl _⟩ hN hK hP hD hS hA [1, 2] [0] rfl rfl (by decide) (by decide) (by decide) (fun u13 H locs h1 hP hD hS => ?_)
        obtain ⟨f1, rfl⟩ : ∃ z, z = u13 := ⟨_, rfl⟩
        have hP : va_P D vwCl [(d, .inr (1, [.ref w, .int (nI t), .int g9, .int ct])), (w, .inr (6, [.ref wa])), (wa, .inl (cL, 6, .inr (.inl f1)))] H := hP
        have hD : va_D A [(d, .inr (1, [.ref w, .int (nI t), .int g9, .int ct])), (w, .inr (6, [.ref wa])), (wa, .inl (cL, 6, .inr (.inl f1)))] := hD
        refine lv_aload_n (pc := 16) hx hb dX1_lengthenTo_16 rfl (lv_at hl 0 rfl) ?_
        refine lv_dup (pc := 17) hx hb dX1_lengthenTo_17 rfl ?_
        refine va_get (D := D) (ci := 1) (v := .int (nI t)) (C := RX1) (T := TX1) (N := 4) (pc := 18) hx hb hts in_X1 hown hK hP 0 rfl rfl 1 (by decide) (hts _ kw_89) (fun _ h9 => h9) rfl dX1_lengthenTo_18 ?_
        refine lv_iconst (v := nI 1) (pc := 21) hx hb dX1_lengthenTo_21 kI_1 ?_
        refine lv_iadd (pc := 22) hx hb dX1_lengthenTo_22 ?_
        refine x_i (y := nI (t + 1)) (nI_add _ _) ?_
        refine va_put (D := D) (ci := 1) (v := .int (nI (t + 1))) (ty := .int) (C := RX1) (T := TX1) (N := 4) (pc := 23) hx hb hts in_X1 tyX1 ty_X1 nm_X1 hown hK hP hD hS 0 rfl rfl 1 (by decide) (hts _ kw_89) (fun _ h9 => h9) rfl (by decide +kernel) rfl rfl (Nat.le_of_ble_eq_true rfl) dX1_lengthenTo_23 (fun H locs hP hD hS => ?_)
        have hP : va_P D vwCl [(d, .inr (1, [.ref w, .int (nI (t + 1)), .int g9, .int ct])), (w, .inr (6, [.ref wa])), (wa, .inl (cL, 6, .inr (.inl f1)))] H := hP
        have hD : va_D A [(d, .inr (1, [.ref w, .int (nI (t + 1)), .int g9, .int ct])), (w, .inr (6, [.ref wa])), (wa, .inl (cL, 6, .inr (.inl f1)))] := hD
        refine lv_goto (tgt := 0) (pc := 26) hx hb dX1_lengthenTo_26 (by decide) ?_
        exact ih0 (t + 1) f1 H locs ls (by omega) (by omega) (by omega) (wR_of h1 (by rw [show t + 1 - s9 = (t - s9) + 1 by omega]; exact pw_s _ _)) hP hD hS hl
  exact L0 _ s9 f _ _ ls (Nat.lt_succ_self _) (by omega) (by omega) (wR_of hf (by rw [Nat.sub_self, Nat.pow_zero, Nat.mul_one])) hP hD hS hl
abbrev rm_d_100 : Room := { frames := 1, cells := 0, slots := 0, locals := 26 }
set_option maxHeartbeats 4000000 in
set_option maxRecDepth 100000 in
theorem d_100 (l : Launch) (D : va_G) (cI cL cC cB cZ cR : ClassId) (sz : Nat) (d w wa v : Nat) (s9 g9 ct : Int32) (f : Nat → Int64) (hf : wR f v) : Met l yX1_timesHundred wsX1_timesHundred rm_d_100 (xPc D vwCl (tyAll cI cL cC cB cZ cR) [.ref d] [(d, .inr (1, [.ref w, .int s9, .int g9, .int ct])), (w, .inr (6, [.ref wa])), (wa, .inl (cL, 6, .inr (.inl f)))] sz) (va_Qv (fun u : Nat → Int64 => wR u (100 * v)) (xB D vwCl (tyAll cI cL cC cB cZ cR) (va_A [(d, .inr (1, [.ref w, .int s9, .int g9, .int ct])), (w, .inr (6, [.ref wa])), (wa, .inl (cL, 6, .inr (.inl f)))] sz) (fun u : (Nat → Int64) => [(d, .inr (1, [.ref w, .int s9, .int g9, .int ct])), (w, .inr (6, [.ref wa])), (wa, .inl (cL, 6, .inr (.inl u)))])) (va_A [(d, .inr (1, [.ref w, .int s9, .int g9, .int ct])), (w, .inr (6, [.ref wa])), (wa, .inl (cL, 6, .inr (.inl f)))] sz)) 0 0 (va_A [(d, .inr (1, [.ref w, .int s9, .int g9, .int ct])), (w, .inr (6, [.ref wa])), (wa, .inl (cL, 6, .inr (.inl f)))] sz) := by
  refine x_of (Qc := fun A => va_Qv (fun u : Nat → Int64 => wR u (100 * v)) (xB D vwCl (tyAll cI cL cC cB cZ cR) A (fun u : (Nat → Int64) => [(d, .inr (1, [.ref w, .int s9, .int g9, .int ct])), (w, .inr (6, [.ref wa])), (wa, .inl (cL, 6, .inr (.inl u)))])) A) (by decide) rfl (Nat.le_of_ble_eq_true rfl) ?_
  intro p e s m args below meth c A H locs ls hx hb hr hts0 hown hlk hml hnm hP hK hD hN hA hS hl
  have hts : ∀ w ∈ wsA, w.before args s = true := fun w h => hts0 w (List.mem_cons_of_mem _ h)
  have hown : s.vm.findClass "WideDecimalDesk$Draft" = some m.cls := hown
  have hl : lv_has ls 1 [(0, .ref d)] := hl
  refine lv_aload_n (pc := 0) hx hb dX1_timesHundred_0 rfl (lv_at hl 0 rfl) ?_
  refine va_get (D := D) (ci := 1) (v := .ref w) (C := RX1) (T := TX1) (N := 4) (pc := 1) hx hb hts in_X1 hown hK hP 0 rfl rfl 0 (by decide) (hts _ kw_87) (fun _ h9 => h9) rfl dX1_timesHundred_1 ?_
  refine lv_iconst (v := nI 0) (pc := 4) hx hb dX1_timesHundred_4 kI_0 ?_
  refine x_Vv (pc := 5) (As := [.int (nI 0)]) (rest := []) (b := w) (wr := [(d, .inr (1, [.ref w, .int s9, .int g9, .int ct]))]) ⟨hx, hb, hml, hown, hts⟩ (w_append l D cI cL cC cB cZ cR H.size w wa v 0 f hf (by decide)) ⟨callB_of 1 hts (x_good kw_264) rfl rfl rfl (hts _ kw_5) (hts _ kw_261) dc_X6_appendDigit ⟨Nat.le_of_ble_eq_true rfl, Nat.le_of_ble_eq_true rfl⟩, hts _ kw_262, hts _ kw_263⟩ (q0 := 1) rfl rfl rfl rfl hl.1 rfl (Nat.le_of_ble_eq_true rfl) dX1_timesHundred_5 ⟨Nat.le_refl _, Nat.le_refl _⟩ hN hK hP hD hS hA [1, 2] [0] rfl rfl (by decide) (by decide) (by decide) (fun u5 H locs h1 hP hD hS => ?_)
  obtain ⟨f1, rfl⟩ : ∃ z, z = u5 := ⟨_, rfl⟩
  have hP : va_P D vwCl [(d, .inr (1, [.ref w, .int s9, .int g9, .int ct])), (w, .inr (6, [.ref wa])), (wa, .inl (cL, 6, .inr (.inl f1)))] H := hP
  have hD : va_D A [(d, .inr (1, [.ref w, .int s9, .int g9, .int ct])), (w, .inr (6, [.ref wa])), (wa, .inl (cL, 6, .inr (.inl f1)))] := hD
  refine lv_aload_n (pc := 8) hx hb dX1_timesHundred_8 rfl (lv_at hl 0 rfl) ?_
  refine va_get (D := D) (ci := 1) (v := .ref w) (C := RX1) (T := TX1) (N := 4) (pc := 9) hx hb hts in_X1 hown hK hP 0 rfl rfl 0 (by decide) (hts _ kw_87) (fun _ h9 => h9) rfl dX1_timesHundred_9 ?_
  refine lv_iconst (v := nI 0) (pc := 12) hx hb dX1_timesHundred_12 kI_0 ?_
  refine x_Vv (pc := 13) (As := [.int (nI 0)]) (rest := []) (b := w) (wr := [(d, .inr (1, [.ref w, .int s9, .int g9, .int ct]))]) ⟨hx, hb, hml, hown, hts⟩ (w_append l D cI cL cC cB cZ cR H.size w wa (10 * v + 0) 0 f1 h1 (by decide)) ⟨callB_of 1 hts (x_good kw_264) rfl rfl rfl (hts _ kw_5) (hts _ kw_261) dc_X6_appendDigit ⟨Nat.le_of_ble_eq_true rfl, Nat.le_of_ble_eq_true rfl⟩, hts _ kw_262, hts _ kw_263⟩ (q0 := 1) rfl rfl rfl rfl hl.1 rfl (Nat.le_of_ble_eq_true rfl) dX1_timesHundred_13 ⟨Nat.le_refl _, Nat.le_refl _⟩ hN hK hP hD hS hA [1, 2] [0] rfl rfl (by decide) (by decide) (by decide) (fun u13 H locs h2 hP hD hS => ?_)
  obtain ⟨f2, rfl⟩ : ∃ z, z = u13 := ⟨_, rfl⟩
  have hP : va_P D vwCl [(d, .inr (1, [.ref w, .int s9, .int g9, .int ct])), (w, .inr (6, [.ref wa])), (wa, .inl (cL, 6, .inr (.inl f2)))] H := hP
  have hD : va_D A [(d, .inr (1, [.ref w, .int s9, .int g9, .int ct])), (w, .inr (6, [.ref wa])), (wa, .inl (cL, 6, .inr (.inl f2)))] := hD
  exact x_retv (pc := 16) hx hb hr hlk f2 (wR_of h2 (by omega)) hP hK hD hS dX1_timesHundred_16
abbrev rm_d_cut : Room := { frames := 1, cells := 0, slots := 0, locals := 25 }
set_option maxHeartbeats 4000000 in
set_option maxRecDepth 100000 in
theorem d_cut (l : Launch) (D : va_G) (cI cL cC cB cZ cR : ClassId) (sz : Nat) (d w wa v ct : Nat) (s9 g9 : Int32) (f : Nat → Int64) (hf : wR f v) (hv : v < 4294967296 ^ 6) (hct : ct ≤ 3) : Met l yX1_cutDigit wsX1_cutDigit rm_d_cut (xPc D vwCl (tyAll cI cL cC cB cZ cR) [.ref d] [(d, .inr (1, [.ref w, .int s9, .int g9, .int (nI ct)])), (w, .inr (6, [.ref wa])), (wa, .inl (cL, 6, .inr (.inl f)))] sz) (va_Qv (fun u : Nat → Int64 => wR u (v / 10)) (xB D vwCl (tyAll cI cL cC cB cZ cR) (va_A [(d, .inr (1, [.ref w, .int s9, .int g9, .int (nI ct)])), (w, .inr (6, [.ref wa])), (wa, .inl (cL, 6, .inr (.inl f)))] sz) (fun u : (Nat → Int64) => [(d, .inr (1, [.ref w, .int s9, .int g9, .int (nI (cutf (v % 10) ct))])), (w, .inr (6, [.ref wa])), (wa, .inl (cL, 6, .inr (.inl u)))])) (va_A [(d, .inr (1, [.ref w, .int s9, .int g9, .int (nI ct)])), (w, .inr (6, [.ref wa])), (wa, .inl (cL, 6, .inr (.inl f)))] sz)) 0 0 (va_A [(d, .inr (1, [.ref w, .int s9, .int g9, .int (nI ct)])), (w, .inr (6, [.ref wa])), (wa, .inl (cL, 6, .inr (.inl f)))] sz) := by
  refine x_of (Qc := fun A => va_Qv (fun u : Nat → Int64 => wR u (v / 10)) (xB D vwCl (tyAll cI cL cC cB cZ cR) A (fun u : (Nat → Int64) => [(d, .inr (1, [.ref w, .int s9, .int g9, .int (nI (cutf (v % 10) ct))])), (w, .inr (6, [.ref wa])), (wa, .inl (cL, 6, .inr (.inl u)))])) A) (by decide) rfl (Nat.le_of_ble_eq_true rfl) ?_
  intro p e s m args below meth c A H locs ls hx hb hr hts0 hown hlk hml hnm hP hK hD hN hA hS hl
  have hts : ∀ w ∈ wsA, w.before args s = true := fun w h => hts0 w (List.mem_cons_of_mem _ h)
  have hown : s.vm.findClass "WideDecimalDesk$Draft" = some m.cls := hown
  have hl : lv_has ls 2 [(0, .ref d)] := hl
  have L62 : ∀ (f1 : (Nat → Int64)) (H : Heap) (locs : List Loc) (ls : Array Slot) (h1 : wR f1 (v / 10)) (hP : va_P D vwCl [(d, .inr (1, [.ref w, .int s9, .int g9, .int (nI (cutf (v % 10) ct))])), (w, .inr (6, [.ref wa])), (wa, .inl (cL, 6, .inr (.inl f1)))] H) (hD : va_D A [(d, .inr (1, [.ref w, .int s9, .int g9, .int (nI (cutf (v % 10) ct))])), (w, .inr (6, [.ref wa])), (wa, .inl (cL, 6, .inr (.inl f1)))]) (hS : va_S A s.heap H locs) (hl : lv_has ls 2 [(0, .ref d)]), W p l e rm_d_cut s m args below meth c H locs 0 0 (MQ below (va_Qv (fun u : Nat → Int64 => wR u (v / 10)) (xB D vwCl (tyAll cI cL cC cB cZ cR) A (fun u : (Nat → Int64) => [(d, .inr (1, [.ref w, .int s9, .int g9, .int (nI (cutf (v % 10) ct))])), (w, .inr (6, [.ref wa])), (wa, .inl (cL, 6, .inr (.inl u)))])) A) args s 0 0 A) (F0 m 62 ls []) := by
    intro f1 H locs ls h1 hP hD hS hl
    exact x_retv (pc := 62) hx hb hr hlk f1 h1 hP hK hD hS dX1_cutDigit_62
  refine lv_aload_n (pc := 0) hx hb dX1_cutDigit_0 rfl (lv_at hl 0 rfl) ?_
  refine va_get (D := D) (ci := 1) (v := .ref w) (C := RX1) (T := TX1) (N := 4) (pc := 1) hx hb hts in_X1 hown hK hP 0 rfl rfl 0 (by decide) (hts _ kw_87) (fun _ h9 => h9) rfl dX1_cutDigit_1 ?_
  refine x_Vi (pc := 4) (As := []) (rest := []) (b := w) (wr := [(d, .inr (1, [.ref w, .int s9, .int g9, .int (nI ct)]))]) ⟨hx, hb, hml, hown, hts⟩ (w_drop l D cI cL cC cB cZ cR H.size w wa v f hf hv) ⟨callB_of 0 hts (x_good kw_314) rfl rfl rfl (hts _ kw_5) (hts _ kw_311) dc_X6_dropDigit ⟨Nat.le_of_ble_eq_true rfl, Nat.le_of_ble_eq_true rfl⟩, hts _ kw_312, hts _ kw_313⟩ (q0 := 1) rfl rfl rfl rfl hl.1 rfl (Nat.le_of_ble_eq_true rfl) dX1_cutDigit_4 ⟨Nat.le_refl _, Nat.le_refl _⟩ hN hK hP hD hS hA [1, 2] [0] rfl rfl (by decide) (by decide) (by decide) (fun r4 u4 H locs q4 hP hD hS => ?_)
  obtain ⟨f1, rfl⟩ : ∃ z, z = u4 := ⟨_, rfl⟩
  have hP : va_P D vwCl [(d, .inr (1, [.ref w, .int s9, .int g9, .int (nI ct)])), (w, .inr (6, [.ref wa])), (wa, .inl (cL, 6, .inr (.inl f1)))] H := hP
  have hD : va_D A [(d, .inr (1, [.ref w, .int s9, .int g9, .int (nI ct)])), (w, .inr (6, [.ref wa])), (wa, .inl (cL, 6, .inr (.inl f1)))] := hD
  obtain ⟨rfl, h1⟩ := q4
  have hcf := cutf_sp (v % 10) ct
  refine lv_istore_n (pc := 7) (lv' := [(1, .int (nI (v % 10))), (0, .ref d)]) hx hb dX1_cutDigit_7 rfl hl (by decide) rfl (fun ls hl => ?_)
  refine lv_iload_n (pc := 8) hx hb dX1_cutDigit_8 rfl (lv_at hl 0 rfl) ?_
  refine lv_iconst (v := nI 5) (pc := 9) hx hb dX1_cutDigit_9 kI_5 ?_
  refine x_icmp_gt (tgt := 25) (pc := 10) hx hb (by omega) (by omega) dX1_cutDigit_10 (by decide) (fun k1 => ?_) (fun k1 => ?_)
  · refine lv_aload_n (pc := 25) hx hb dX1_cutDigit_25 rfl (lv_at hl 1 rfl) ?_
    refine lv_iconst (v := nI 3) (pc := 26) hx hb dX1_cutDigit_26 kI_3 ?_
    refine x_i (y := nI (cutf (v % 10) ct)) (congrArg nI (by omega)) ?_
    refine va_put (D := D) (ci := 1) (v := .int (nI (cutf (v % 10) ct))) (ty := .int) (C := RX1) (T := TX1) (N := 4) (pc := 27) hx hb hts in_X1 tyX1 ty_X1 nm_X1 hown hK hP hD hS 0 rfl rfl 3 (by decide) (hts _ kw_93) (fun _ h9 => h9) rfl (by decide +kernel) rfl rfl (Nat.le_of_ble_eq_true rfl) dX1_cutDigit_27 (fun H locs hP hD hS => ?_)
    have hP : va_P D vwCl [(d, .inr (1, [.ref w, .int s9, .int g9, .int (nI (cutf (v % 10) ct))])), (w, .inr (6, [.ref wa])), (wa, .inl (cL, 6, .inr (.inl f1)))] H := hP
    have hD : va_D A [(d, .inr (1, [.ref w, .int s9, .int g9, .int (nI (cutf (v % 10) ct))])), (w, .inr (6, [.ref wa])), (wa, .inl (cL, 6, .inr (.inl f1)))] := hD
    refine lv_goto (tgt := 62) (pc := 30) hx hb dX1_cutDigit_30 (by decide) ?_
    have hl := lv_sub (l' := [(0, .ref d)]) hl [1] rfl
    exact L62 f1 _ _ ls h1 hP hD hS hl
  · refine lv_iload_n (pc := 13) hx hb dX1_cutDigit_13 rfl (lv_at hl 0 rfl) ?_
    refine lv_iconst (v := nI 5) (pc := 14) hx hb dX1_cutDigit_14 kI_5 ?_
    refine x_icmp_ne (tgt := 33) (pc := 15) hx hb (by omega) (by omega) dX1_cutDigit_15 (by decide) (fun k2 => ?_) (fun k2 => ?_)
    · refine lv_iload_n (pc := 33) hx hb dX1_cutDigit_33 rfl (lv_at hl 0 rfl) ?_
      refine lv_iconst (v := nI 5) (pc := 34) hx hb dX1_cutDigit_34 kI_5 ?_
      refine x_icmp_ne (tgt := 46) (pc := 35) hx hb (by omega) (by omega) dX1_cutDigit_35 (by decide) (fun k4 => ?_) (fun k4 => ?_)
      · refine lv_iload_n (pc := 46) hx hb dX1_cutDigit_46 rfl (lv_at hl 0 rfl) ?_
        refine x_if_gt (tgt := 57) (pc := 47) hx hb (by omega) dX1_cutDigit_47 (by decide) (fun k5 => ?_) (fun k5 => ?_)
        · refine lv_aload_n (pc := 57) hx hb dX1_cutDigit_57 rfl (lv_at hl 1 rfl) ?_
          refine lv_iconst (v := nI 1) (pc := 58) hx hb dX1_cutDigit_58 kI_1 ?_
          refine x_i (y := nI (cutf (v % 10) ct)) (congrArg nI (by omega)) ?_
          refine va_put (D := D) (ci := 1) (v := .int (nI (cutf (v % 10) ct))) (ty := .int) (C := RX1) (T := TX1) (N := 4) (pc := 59) hx hb hts in_X1 tyX1 ty_X1 nm_X1 hown hK hP hD hS 0 rfl rfl 3 (by decide) (hts _ kw_93) (fun _ h9 => h9) rfl (by decide +kernel) rfl rfl (Nat.le_of_ble_eq_true rfl) dX1_cutDigit_59 (fun H locs hP hD hS => ?_)
          have hP : va_P D vwCl [(d, .inr (1, [.ref w, .int s9, .int g9, .int (nI (cutf (v % 10) ct))])), (w, .inr (6, [.ref wa])), (wa, .inl (cL, 6, .inr (.inl f1)))] H := hP
          have hD : va_D A [(d, .inr (1, [.ref w, .int s9, .int g9, .int (nI (cutf (v % 10) ct))])), (w, .inr (6, [.ref wa])), (wa, .inl (cL, 6, .inr (.inl f1)))] := hD
          have hl := lv_sub (l' := [(0, .ref d)]) hl [1] rfl
          exact L62 f1 _ _ ls h1 hP hD hS hl
        · refine lv_aload_n (pc := 50) hx hb dX1_cutDigit_50 rfl (lv_at hl 1 rfl) ?_
          refine va_get (D := D) (ci := 1) (v := .int (nI ct)) (C := RX1) (T := TX1) (N := 4) (pc := 51) hx hb hts in_X1 hown hK hP 0 rfl rfl 3 (by decide) (hts _ kw_93) (fun _ h9 => h9) rfl dX1_cutDigit_51 ?_
          refine x_if_eq (tgt := 62) (pc := 54) hx hb (by omega) dX1_cutDigit_54 (by decide) (fun k6 => ?_) (fun k6 => ?_)
          · have e9 : ct = cutf (v % 10) ct := by omega
            have hP := (congrArg (fun z => va_P D vwCl [(d, .inr (1, [.ref w, .int s9, .int g9, .int (nI z)])), (w, .inr (6, [.ref wa])), (wa, .inl (cL, 6, .inr (.inl f1)))] H) e9).mp hP
            have hD := (congrArg (fun z => va_D A [(d, .inr (1, [.ref w, .int s9, .int g9, .int (nI z)])), (w, .inr (6, [.ref wa])), (wa, .inl (cL, 6, .inr (.inl f1)))]) e9).mp hD
            have hl := lv_sub (l' := [(0, .ref d)]) hl [1] rfl
            exact L62 f1 _ _ ls h1 hP hD hS hl
          · refine lv_aload_n (pc := 57) hx hb dX1_cutDigit_57 rfl (lv_at hl 1 rfl) ?_
            refine lv_iconst (v := nI 1) (pc := 58) hx hb dX1_cutDigit_58 kI_1 ?_
            refine x_i (y := nI (cutf (v % 10) ct)) (congrArg nI (by omega)) ?_
            refine va_put (D := D) (ci := 1) (v := .int (nI (cutf (v % 10) ct))) (ty := .int) (C := RX1) (T := TX1) (N := 4) (pc := 59) hx hb hts in_X1 tyX1 ty_X1 nm_X1 hown hK hP hD hS 0 rfl rfl 3 (by decide) (hts _ kw_93) (fun _ h9 => h9) rfl (by decide +kernel) rfl rfl (Nat.le_of_ble_eq_true rfl) dX1_cutDigit_59 (fun H locs hP hD hS => ?_)
            have hP : va_P D vwCl [(d, .inr (1, [.ref w, .int s9, .int g9, .int (nI (cutf (v % 10) ct))])), (w, .inr (6, [.ref wa])), (wa, .inl (cL, 6, .inr (.inl f1)))] H := hP
            have hD : va_D A [(d, .inr (1, [.ref w, .int s9, .int g9, .int (nI (cutf (v % 10) ct))])), (w, .inr (6, [.ref wa])), (wa, .inl (cL, 6, .inr (.inl f1)))] := hD
            have hl := lv_sub (l' := [(0, .ref d)]) hl [1] rfl
            exact L62 f1 _ _ ls h1 hP hD hS hl
      · refine lv_aload_n (pc := 38) hx hb dX1_cutDigit_38 rfl (lv_at hl 1 rfl) ?_
        refine lv_iconst (v := nI 2) (pc := 39) hx hb dX1_cutDigit_39 kI_2 ?_
        refine x_i (y := nI (cutf (v % 10) ct)) (congrArg nI (by omega)) ?_
        refine va_put (D := D) (ci := 1) (v := .int (nI (cutf (v % 10) ct))) (ty := .int) (C := RX1) (T := TX1) (N := 4) (pc := 40) hx hb hts in_X1 tyX1 ty_X1 nm_X1 hown hK hP hD hS 0 rfl rfl 3 (by decide) (hts _ kw_93) (fun _ h9 => h9) rfl (by decide +kernel) rfl rfl (Nat.le_of_ble_eq_true rfl) dX1_cutDigit_40 (fun H locs hP hD hS => ?_)
        have hP : va_P D vwCl [(d, .inr (1, [.ref w, .int s9, .int g9, .int (nI (cutf (v % 10) ct))])), (w, .inr (6, [.ref wa])), (wa, .inl (cL, 6, .inr (.inl f1)))] H := hP
        have hD : va_D A [(d, .inr (1, [.ref w, .int s9, .int g9, .int (nI (cutf (v % 10) ct))])), (w, .inr (6, [.ref wa])), (wa, .inl (cL, 6, .inr (.inl f1)))] := hD
        refine lv_goto (tgt := 62) (pc := 43) hx hb dX1_cutDigit_43 (by decide) ?_
        have hl := lv_sub (l' := [(0, .ref d)]) hl [1] rfl
        exact L62 f1 _ _ ls h1 hP hD hS hl
    · refine lv_aload_n (pc := 18) hx hb dX1_cutDigit_18 rfl (lv_at hl 1 rfl) ?_
      refine va_get (D := D) (ci := 1) (v := .int (nI ct)) (C := RX1) (T := TX1) (N := 4) (pc := 19) hx hb hts in_X1 hown hK hP 0 rfl rfl 3 (by decide) (hts _ kw_93) (fun _ h9 => h9) rfl dX1_cutDigit_19 ?_
      refine x_if_eq (tgt := 33) (pc := 22) hx hb (by omega) dX1_cutDigit_22 (by decide) (fun k3 => ?_) (fun k3 => ?_)
      · refine lv_iload_n (pc := 33) hx hb dX1_cutDigit_33 rfl (lv_at hl 0 rfl) ?_
        refine lv_iconst (v := nI 5) (pc := 34) hx hb dX1_cutDigit_34 kI_5 ?_
        refine x_icmp_ne (tgt := 46) (pc := 35) hx hb (by omega) (by omega) dX1_cutDigit_35 (by decide) (fun k4 => ?_) (fun k4 => ?_)
        · refine lv_iload_n (pc := 46) hx hb dX1_cutDigit_46 rfl (lv_at hl 0 rfl) ?_
          refine x_if_gt (tgt := 57) (pc := 47) hx hb (by omega) dX1_cutDigit_47 (by decide) (fun k5 => ?_) (fun k5 => ?_)
          · refine lv_aload_n (pc := 57) hx hb dX1_cutDigit_57 rfl (lv_at hl 1 rfl) ?_
            refine lv_iconst (v := nI 1) (pc := 58) hx hb dX1_cutDigit_58 kI_1 ?_
            refine x_i (y := nI (cutf (v % 10) ct)) (congrArg nI (by omega)) ?_
            refine va_put (D := D) (ci := 1) (v := .int (nI (cutf (v % 10) ct))) (ty := .int) (C := RX1) (T := TX1) (N := 4) (pc := 59) hx hb hts in_X1 tyX1 ty_X1 nm_X1 hown hK hP hD hS 0 rfl rfl 3 (by decide) (hts _ kw_93) (fun _ h9 => h9) rfl (by decide +kernel) rfl rfl (Nat.le_of_ble_eq_true rfl) dX1_cutDigit_59 (fun H locs hP hD hS => ?_)
            have hP : va_P D vwCl [(d, .inr (1, [.ref w, .int s9, .int g9, .int (nI (cutf (v % 10) ct))])), (w, .inr (6, [.ref wa])), (wa, .inl (cL, 6, .inr (.inl f1)))] H := hP
            have hD : va_D A [(d, .inr (1, [.ref w, .int s9, .int g9, .int (nI (cutf (v % 10) ct))])), (w, .inr (6, [.ref wa])), (wa, .inl (cL, 6, .inr (.inl f1)))] := hD
            have hl := lv_sub (l' := [(0, .ref d)]) hl [1] rfl
            exact L62 f1 _ _ ls h1 hP hD hS hl
          · refine lv_aload_n (pc := 50) hx hb dX1_cutDigit_50 rfl (lv_at hl 1 rfl) ?_
            refine va_get (D := D) (ci := 1) (v := .int (nI ct)) (C := RX1) (T := TX1) (N := 4) (pc := 51) hx hb hts in_X1 hown hK hP 0 rfl rfl 3 (by decide) (hts _ kw_93) (fun _ h9 => h9) rfl dX1_cutDigit_51 ?_
            refine x_if_eq (tgt := 62) (pc := 54) hx hb (by omega) dX1_cutDigit_54 (by decide) (fun k6 => ?_) (fun k6 => ?_)
            · have e9 : ct = cutf (v % 10) ct := by omega
              have hP := (congrArg (fun z => va_P D vwCl [(d, .inr (1, [.ref w, .int s9, .int g9, .int (nI z)])), (w, .inr (6, [.ref wa])), (wa, .inl (cL, 6, .inr (.inl f1)))] H) e9).mp hP
              have hD := (congrArg (fun z => va_D A [(d, .inr (1, [.ref w, .int s9, .int g9, .int (nI z)])), (w, .inr (6, [.ref wa])), (wa, .inl (cL, 6, .inr (.inl f1)))]) e9).mp hD
              have hl := lv_sub (l' := [(0, .ref d)]) hl [1] rfl
              exact L62 f1 _ _ ls h1 hP hD hS hl
            · refine lv_aload_n (pc := 57) hx hb dX1_cutDigit_57 rfl (lv_at hl 1 rfl) ?_
              refine lv_iconst (v := nI 1) (pc := 58) hx hb dX1_cutDigit_58 kI_1 ?_
              refine x_i (y := nI (cutf (v % 10) ct)) (congrArg nI (by omega)) ?_
              refine va_put (D := D) (ci := 1) (v := .int (nI (cutf (v % 10) ct))) (ty := .int) (C := RX1) (T := TX1) (N := 4) (pc := 59) hx hb hts in_X1 tyX1 ty_X1 nm_X1 hown hK hP hD hS 0 rfl rfl 3 (by decide) (hts _ kw_93) (fun _ h9 => h9) rfl (by decide +kernel) rfl rfl (Nat.le_of_ble_eq_true rfl) dX1_cutDigit_59 (fun H locs hP hD hS => ?_)
              have hP : va_P D vwCl [(d, .inr (1, [.ref w, .int s9, .int g9, .int (nI (cutf (v % 10) ct))])), (w, .inr (6, [.ref wa])), (wa, .inl (cL, 6, .inr (.inl f1)))] H := hP
              have hD : va_D A [(d, .inr (1, [.ref w, .int s9, .int g9, .int (nI (cutf (v % 10) ct))])), (w, .inr (6, [.ref wa])), (wa, .inl (cL, 6, .inr (.inl f1)))] := hD
              have hl := lv_sub (l' := [(0, .ref d)]) hl [1] rfl
              exact L62 f1 _ _ ls h1 hP hD hS hl
        · refine lv_aload_n (pc := 38) hx hb dX1_cutDigit_38 rfl (lv_at hl 1 rfl) ?_
          refine lv_iconst (v := nI 2) (pc := 39) hx hb dX1_cutDigit_39 kI_2 ?_
          refine x_i (y := nI (cutf (v % 10) ct)) (congrArg nI (by omega)) ?_
          refine va_put (D := D) (ci := 1) (v := .int (nI (cutf (v % 10) ct))) (ty := .int) (C := RX1) (T := TX1) (N := 4) (pc := 40) hx hb hts in_X1 tyX1 ty_X1 nm_X1 hown hK hP hD hS 0 rfl rfl 3 (by decide) (hts _ kw_93) (fun _ h9 => h9) rfl (by decide +kernel) rfl rfl (Nat.le_of_ble_eq_true rfl) dX1_cutDigit_40 (fun H locs hP hD hS => ?_)
          have hP : va_P D vwCl [(d, .inr (1, [.ref w, .int s9, .int g9, .int (nI (cutf (v % 10) ct))])), (w, .inr (6, [.ref wa])), (wa, .inl (cL, 6, .inr (.inl f1)))] H := hP
          have hD : va_D A [(d, .inr (1, [.ref w, .int s9, .int g9, .int (nI (cutf (v % 10) ct))])), (w, .inr (6, [.ref wa])), (wa, .inl (cL, 6, .inr (.inl f1)))] := hD
          refine lv_goto (tgt := 62) (pc := 43) hx hb dX1_cutDigit_43 (by decide) ?_
          have hl := lv_sub (l' := [(0, .ref d)]) hl [1] rfl
          exact L62 f1 _ _ ls h1 hP hD hS hl
      · refine lv_aload_n (pc := 25) hx hb dX1_cutDigit_25 rfl (lv_at hl 1 rfl) ?_
        refine lv_iconst (v := nI 3) (pc := 26) hx hb dX1_cutDigit_26 kI_3 ?_
        refine x_i (y := nI (cutf (v % 10) ct)) (congrArg nI (by omega)) ?_
        refine va_put (D := D) (ci := 1) (v := .int (nI (cutf (v % 10) ct))) (ty := .int) (C := RX1) (T := TX1) (N := 4) (pc := 27) hx hb hts in_X1 tyX1 ty_X1 nm_X1 hown hK hP hD hS 0 rfl rfl 3 (by decide) (hts _ kw_93) (fun _ h9 => h9) rfl (by decide +kernel) rfl rfl (Nat.le_of_ble_eq_true rfl) dX1_cutDigit_27 (fun H locs hP hD hS => ?_)
        have hP : va_P D vwCl [(d, .inr (1, [.ref w, .int s9, .int g9, .int (nI (cutf (v % 10) ct))])), (w, .inr (6, [.ref wa])), (wa, .inl (cL, 6, .inr (.inl f1)))] H := hP
        have hD : va_D A [(d, .inr (1, [.ref w, .int s9, .int g9, .int (nI (cutf (v % 10) ct))])), (w, .inr (6, [.ref wa])), (wa, .inl (cL, 6, .inr (.inl f1)))] := hD
        refine lv_goto (tgt := 62) (pc := 30) hx hb dX1_cutDigit_30 (by decide) ?_
        have hl := lv_sub (l' := [(0, .ref d)]) hl [1] rfl
        exact L62 f1 _ _ ls h1 hP hD hS hl
