abbrev rm_d_goes : Room := { frames := 1, cells := 0, slots := 0, locals := 20 }
set_option maxHeartbeats 4000000 in
set_option maxRecDepth 100000 in
theorem d_goes (l : Launch) (D : va_G) (cI cL cC cB cZ cR : ClassId) (sz : Nat) (d w wa v md g9 ct : Nat) (s9 : Int32) (f : Nat → Int64) (hf : wR f v) (hmd : md ≤ 4) (hg9 : g9 ≤ 1) (hct : ct ≤ 3) : Met l yX1_goesAway wsX1_goesAway rm_d_goes (xPc D vwCl (tyAll cI cL cC cB cZ cR) [.ref d, .int (nI md)] [(d, .inr (1, [.ref w, .int s9, .int (nI g9), .int (nI ct)])), (w, .inr (6, [.ref wa])), (wa, .inl (cL, 6, .inr (.inl f)))] sz) (va_Qi (fun (z : Int32) (_ : Unit) => z = nI (gwN md g9 ct v)) (xB D vwCl (tyAll cI cL cC cB cZ cR) (va_A [(d, .inr (1, [.ref w, .int s9, .int (nI g9), .int (nI ct)])), (w, .inr (6, [.ref wa])), (wa, .inl (cL, 6, .inr (.inl f)))] sz) (fun u : Unit => [(d, .inr (1, [.ref w, .int s9, .int (nI g9), .int (nI ct)])), (w, .inr (6, [.ref wa])), (wa, .inl (cL, 6, .inr (.inl f)))])) (va_A [(d, .inr (1, [.ref w, .int s9, .int (nI g9), .int (nI ct)])), (w, .inr (6, [.ref wa])), (wa, .inl (cL, 6, .inr (.inl f)))] sz)) 0 0 (va_A [(d, .inr (1, [.ref w, .int s9, .int (nI g9), .int (nI ct)])), (w, .inr (6, [.ref wa])), (wa, .inl (cL, 6, .inr (.inl f)))] sz) := by
  refine x_of (Qc := fun A => va_Qi (fun (z : Int32) (_ : Unit) => z = nI (gwN md g9 ct v)) (xB D vwCl (tyAll cI cL cC cB cZ cR) A (fun u : Unit => [(d, .inr (1, [.ref w, .int s9, .int (nI g9), .int (nI ct)])), (w, .inr (6, [.ref wa])), (wa, .inl (cL, 6, .inr (.inl f)))])) A) (by decide) rfl (Nat.le_of_ble_eq_true rfl) ?_
  intro p e s m args below meth c A H locs ls hx hb hr hts0 hown hlk hml hnm hP hK hD hN hA hS hl
  have hts : ∀ w ∈ wsA, w.before args s = true := fun w h => hts0 w (List.mem_cons_of_mem _ h)
  have hown : s.vm.findClass "WideDecimalDesk$Draft" = some m.cls := hown
  have hl : lv_has ls 2 [(0, .ref d), (1, .int (nI md))] := hl
  refine lv_iload_n (pc := 0) hx hb dX1_goesAway_0 rfl (lv_at hl 1 rfl) ?_
  rcases (show md = 0 ∨ md = 1 ∨ md = 2 ∨ md = 3 ∨ md = 4 by omega) with rfl | rfl | rfl | rfl | rfl
  · refine lv_tableIn (x := nI 0) (off := 35) (tgt := 36) (pc := 1) hx hb dX1_goesAway_1 (by decide +kernel) (by decide +kernel) (by decide +kernel) (by decide) ?_
    refine lv_aload_n (pc := 36) hx hb dX1_goesAway_36 rfl (lv_at hl 0 rfl) ?_
    refine va_get (D := D) (ci := 1) (v := .int (nI ct)) (C := RX1) (T := TX1) (N := 4) (pc := 37) hx hb hts in_X1 hown hK hP 0 rfl rfl 3 (by decide) (hts _ kw_93) (fun _ h9 => h9) rfl dX1_goesAway_37 ?_
    refine lv_iconst (v := nI 3) (pc := 40) hx hb dX1_goesAway_40 kI_3 ?_
    refine x_icmp_eq (tgt := 62) (pc := 41) hx hb (by omega) (by omega) dX1_goesAway_41 (by decide) (fun k1 => ?_) (fun k1 => ?_)
    · refine lv_iconst (v := nI 1) (pc := 62) hx hb dX1_goesAway_62 kI_1 ?_
      refine lv_goto (tgt := 67) (pc := 63) hx hb dX1_goesAway_63 (by decide) ?_
      exact x_retz (pc := 67) rfl hx hb hr hlk () (congrArg nI (by first | exact gwN_y (by omega) | exact gwN_n (by omega))) hP hK hD hS dX1_goesAway_67
    · refine lv_aload_n (pc := 44) hx hb dX1_goesAway_44 rfl (lv_at hl 0 rfl) ?_
      refine va_get (D := D) (ci := 1) (v := .int (nI ct)) (C := RX1) (T := TX1) (N := 4) (pc := 45) hx hb hts in_X1 hown hK hP 0 rfl rfl 3 (by decide) (hts _ kw_93) (fun _ h9 => h9) rfl dX1_goesAway_45 ?_
      refine lv_iconst (v := nI 2) (pc := 48) hx hb dX1_goesAway_48 kI_2 ?_
      refine x_icmp_ne (tgt := 66) (pc := 49) hx hb (by omega) (by omega) dX1_goesAway_49 (by decide) (fun k2 => ?_) (fun k2 => ?_)
      · refine lv_iconst (v := nI 0) (pc := 66) hx hb dX1_goesAway_66 kI_0 ?_
        exact x_retz (pc := 67) rfl hx hb hr hlk () (congrArg nI (by first | exact gwN_y (by omega) | exact gwN_n (by omega))) hP hK hD hS dX1_goesAway_67
      · refine lv_aload_n (pc := 52) hx hb dX1_goesAway_52 rfl (lv_at hl 0 rfl) ?_
        refine va_get (D := D) (ci := 1) (v := .ref w) (C := RX1) (T := TX1) (N := 4) (pc := 53) hx hb hts in_X1 hown hK hP 0 rfl rfl 0 (by decide) (hts _ kw_87) (fun _ h9 => h9) rfl dX1_goesAway_53 ?_
        refine x_Vi (pc := 56) (As := []) (rest := []) (b := w) (wr := [(d, .inr (1, [.ref w, .int s9, .int (nI g9), .int (nI ct)]))]) ⟨hx, hb, hml, hown, hts⟩ (w_isOdd l D cI cL cC cB cZ cR H.size w wa v f hf) ⟨callB_of 0 hts (x_good kw_301) rfl rfl rfl (hts _ kw_5) (hts _ kw_298) dc_X6_isOdd ⟨Nat.le_of_ble_eq_true rfl, Nat.le_of_ble_eq_true rfl⟩, hts _ kw_299, hts _ kw_300⟩ (q0 := 1) rfl rfl rfl rfl hl.1 rfl (Nat.le_of_ble_eq_true rfl) dX1_goesAway_56 ⟨Nat.le_refl _, Nat.le_refl _⟩ hN hK hP hD hS hA [1, 2] [0] rfl rfl (by decide) (by decide) (by decide) (fun r56 u56 H locs q56 hP hD hS => ?_)
        have hP : va_P D vwCl [(d, .inr (1, [.ref w, .int s9, .int (nI g9), .int (nI ct)])), (w, .inr (6, [.ref wa])), (wa, .inl (cL, 6, .inr (.inl f)))] H := hP
        have hD : va_D A [(d, .inr (1, [.ref w, .int s9, .int (nI g9), .int (nI ct)])), (w, .inr (6, [.ref wa])), (wa, .inl (cL, 6, .inr (.inl f)))] := hD
        obtain rfl := q56
        refine x_if_eq (tgt := 66) (pc := 59) hx hb (by omega) dX1_goesAway_59 (by decide) (fun k3 => ?_) (fun k3 => ?_)
        · refine lv_iconst (v := nI 0) (pc := 66) hx hb dX1_goesAway_66 kI_0 ?_
          exact x_retz (pc := 67) rfl hx hb hr hlk () (congrArg nI (by first | exact gwN_y (by omega) | exact gwN_n (by omega))) hP hK hD hS dX1_goesAway_67
        · refine lv_iconst (v := nI 1) (pc := 62) hx hb dX1_goesAway_62 kI_1 ?_
          refine lv_goto (tgt := 67) (pc := 63) hx hb dX1_goesAway_63 (by decide) ?_
          exact x_retz (pc := 67) rfl hx hb hr hlk () (congrArg nI (by first | exact gwN_y (by omega) | exact gwN_n (by omega))) hP hK hD hS dX1_goesAway_67
  · refine lv_tableIn (x := nI 1) (off := 67) (tgt := 68) (pc := 1) hx hb dX1_goesAway_1 (by decide +kernel) (by decide +kernel) (by decide +kernel) (by decide) ?_
    refine lv_aload_n (pc := 68) hx hb dX1_goesAway_68 rfl (lv_at hl 0 rfl) ?_
    refine va_get (D := D) (ci := 1) (v := .int (nI ct)) (C := RX1) (T := TX1) (N := 4) (pc := 69) hx hb hts in_X1 hown hK hP 0 rfl rfl 3 (by decide) (hts _ kw_93) (fun _ h9 => h9) rfl dX1_goesAway_69 ?_
    refine lv_iconst (v := nI 2) (pc := 72) hx hb dX1_goesAway_72 kI_2 ?_
    refine x_icmp_lt (tgt := 80) (pc := 73) hx hb (by omega) (by omega) dX1_goesAway_73 (by decide) (fun k4 => ?_) (fun k4 => ?_)
    · refine lv_iconst (v := nI 0) (pc := 80) hx hb dX1_goesAway_80 kI_0 ?_
      exact x_retz (pc := 81) rfl hx hb hr hlk () (congrArg nI (by first | exact gwN_y (by omega) | exact gwN_n (by omega))) hP hK hD hS dX1_goesAway_81
    · refine lv_iconst (v := nI 1) (pc := 76) hx hb dX1_goesAway_76 kI_1 ?_
      refine lv_goto (tgt := 81) (pc := 77) hx hb dX1_goesAway_77 (by decide) ?_
      exact x_retz (pc := 81) rfl hx hb hr hlk () (congrArg nI (by first | exact gwN_y (by omega) | exact gwN_n (by omega))) hP hK hD hS dX1_goesAway_81
  · refine lv_tableIn (x := nI 2) (off := 121) (tgt := 122) (pc := 1) hx hb dX1_goesAway_1 (by decide +kernel) (by decide +kernel) (by decide +kernel) (by decide) ?_
    refine lv_iconst (v := nI 0) (pc := 122) hx hb dX1_goesAway_122 kI_0 ?_
    exact x_retz (pc := 123) rfl hx hb hr hlk () (congrArg nI (by first | exact gwN_y (by omega) | exact gwN_n (by omega))) hP hK hD hS dX1_goesAway_123
  · refine lv_tableIn (x := nI 3) (off := 81) (tgt := 82) (pc := 1) hx hb dX1_goesAway_1 (by decide +kernel) (by decide +kernel) (by decide +kernel) (by decide) ?_
    refine lv_aload_n (pc := 82) hx hb dX1_goesAway_82 rfl (lv_at hl 0 rfl) ?_
    refine va_get (D := D) (ci := 1) (v := .int (nI ct)) (C := RX1) (T := TX1) (N := 4) (pc := 83) hx hb hts in_X1 hown hK hP 0 rfl rfl 3 (by decide) (hts _ kw_93) (fun _ h9 => h9) rfl dX1_goesAway_83 ?_
    refine x_if_eq (tgt := 100) (pc := 86) hx hb (by omega) dX1_goesAway_86 (by decide) (fun k5 => ?_) (fun k5 => ?_)
    · refine lv_iconst (v := nI 0) (pc := 100) hx hb dX1_goesAway_100 kI_0 ?_
      exact x_retz (pc := 101) rfl hx hb hr hlk () (congrArg nI (by first | exact gwN_y (by omega) | exact gwN_n (by omega))) hP hK hD hS dX1_goesAway_101
    · refine lv_aload_n (pc := 89) hx hb dX1_goesAway_89 rfl (lv_at hl 0 rfl) ?_
      refine va_get (D := D) (ci := 1) (v := .int (nI g9)) (C := RX1) (T := TX1) (N := 4) (pc := 90) hx hb hts in_X1 hown hK hP 0 rfl rfl 2 (by decide) (hts _ kw_91) (fun _ h9 => h9) rfl dX1_goesAway_90 ?_
      refine x_if_eq (tgt := 100) (pc := 93) hx hb (by omega) dX1_goesAway_93 (by decide) (fun k6 => ?_) (fun k6 => ?_)
      · refine lv_iconst (v := nI 0) (pc := 100) hx hb dX1_goesAway_100 kI_0 ?_
        exact x_retz (pc := 101) rfl hx hb hr hlk () (congrArg nI (by first | exact gwN_y (by omega) | exact gwN_n (by omega))) hP hK hD hS dX1_goesAway_101
      · refine lv_iconst (v := nI 1) (pc := 96) hx hb dX1_goesAway_96 kI_1 ?_
        refine lv_goto (tgt := 101) (pc := 97) hx hb dX1_goesAway_97 (by decide) ?_
        exact x_retz (pc := 101) rfl hx hb hr hlk () (congrArg nI (by first | exact gwN_y (by omega) | exact gwN_n (by omega))) hP hK hD hS dX1_goesAway_101
  · refine lv_tableIn (x := nI 4) (off := 101) (tgt := 102) (pc := 1) hx hb dX1_goesAway_1 (by decide +kernel) (by decide +kernel) (by decide +kernel) (by decide) ?_
    refine lv_aload_n (pc := 102) hx hb dX1_goesAway_102 rfl (lv_at hl 0 rfl) ?_
    refine va_get (D := D) (ci := 1) (v := .int (nI ct)) (C := RX1) (T := TX1) (N := 4) (pc := 103) hx hb hts in_X1 hown hK hP 0 rfl rfl 3 (by decide) (hts _ kw_93) (fun _ h9 => h9) rfl dX1_goesAway_103 ?_
    refine x_if_eq (tgt := 120) (pc := 106) hx hb (by omega) dX1_goesAway_106 (by decide) (fun k7 => ?_) (fun k7 => ?_)
    · refine lv_iconst (v := nI 0) (pc := 120) hx hb dX1_goesAway_120 kI_0 ?_
      exact x_retz (pc := 121) rfl hx hb hr hlk () (congrArg nI (by first | exact gwN_y (by omega) | exact gwN_n (by omega))) hP hK hD hS dX1_goesAway_121
    · refine lv_aload_n (pc := 109) hx hb dX1_goesAway_109 rfl (lv_at hl 0 rfl) ?_
      refine va_get (D := D) (ci := 1) (v := .int (nI g9)) (C := RX1) (T := TX1) (N := 4) (pc := 110) hx hb hts in_X1 hown hK hP 0 rfl rfl 2 (by decide) (hts _ kw_91) (fun _ h9 => h9) rfl dX1_goesAway_110 ?_
      refine x_if_ne (tgt := 120) (pc := 113) hx hb (by omega) dX1_goesAway_113 (by decide) (fun k8 => ?_) (fun k8 => ?_)
      · refine lv_iconst (v := nI 0) (pc := 120) hx hb dX1_goesAway_120 kI_0 ?_
        exact x_retz (pc := 121) rfl hx hb hr hlk () (congrArg nI (by first | exact gwN_y (by omega) | exact gwN_n (by omega))) hP hK hD hS dX1_goesAway_121
      · refine lv_iconst (v := nI 1) (pc := 116) hx hb dX1_goesAway_116 kI_1 ?_
        refine lv_goto (tgt := 121) (pc := 117) hx hb dX1_goesAway_117 (by decide) ?_
        exact x_retz (pc := 121) rfl hx hb hr hlk () (congrArg nI (by first | exact gwN_y (by omega) | exact gwN_n (by omega))) hP hK hD hS dX1_goesAway_121
abbrev rm_d_fits : Room := { frames := 2, cells := 0, slots := 0, locals := 41 }
set_option maxHeartbeats 4000000 in
set_option maxRecDepth 100000 in
theorem d_fits (l : Launch) (D : va_G) (cI cL cC cB cZ cR : ClassId) (sz : Nat) (d w wa v g9 ct : Nat) (s9 : Int32) (f : Nat → Int64) (hf : wR f v) (hv : v < 4294967296 ^ 6) (hg9 : g9 ≤ 1) (hct : ct ≤ 3) : Met l yX1_fits wsX1_fits rm_d_fits (xPc D vwCl (tyAll cI cL cC cB cZ cR) [.ref d] [(d, .inr (1, [.ref w, .int s9, .int (nI g9), .int (nI ct)])), (w, .inr (6, [.ref wa])), (wa, .inl (cL, 6, .inr (.inl f)))] sz) (va_Qi (fun (z : Int32) (_ : Unit) => z = nI (fiN ct v)) (xB D vwCl (tyAll cI cL cC cB cZ cR) (va_A [(d, .inr (1, [.ref w, .int s9, .int (nI g9), .int (nI ct)])), (w, .inr (6, [.ref wa])), (wa, .inl (cL, 6, .inr (.inl f)))] sz) (fun u : Unit => [(d, .inr (1, [.ref w, .int s9, .int (nI g9), .int (nI ct)])), (w, .inr (6, [.ref wa])), (wa, .inl (cL, 6, .inr (.inl f)))])) (va_A [(d, .inr (1, [.ref w, .int s9, .int (nI g9), .int (nI ct)])), (w, .inr (6, [.ref wa])), (wa, .inl (cL, 6, .inr (.inl f)))] sz)) 0 0 (va_A [(d, .inr (1, [.ref w, .int s9, .int (nI g9), .int (nI ct)])), (w, .inr (6, [.ref wa])), (wa, .inl (cL, 6, .inr (.inl f)))] sz) := by
  refine x_of (Qc := fun A => va_Qi (fun (z : Int32) (_ : Unit) => z = nI (fiN ct v)) (xB D vwCl (tyAll cI cL cC cB cZ cR) A (fun u : Unit => [(d, .inr (1, [.ref w, .int s9, .int (nI g9), .int (nI ct)])), (w, .inr (6, [.ref wa])), (wa, .inl (cL, 6, .inr (.inl f)))])) A) (by decide) rfl (Nat.le_of_ble_eq_true rfl) ?_
  intro p e s m args below meth c A H locs ls hx hb hr hts0 hown hlk hml hnm hP hK hD hN hA hS hl
  have hts : ∀ w ∈ wsA, w.before args s = true := fun w h => hts0 w (List.mem_cons_of_mem _ h)
  have hown : s.vm.findClass "WideDecimalDesk$Draft" = some m.cls := hown
  have hl : lv_has ls 1 [(0, .ref d)] := hl
  refine lv_aload_n (pc := 0) hx hb dX1_fits_0 rfl (lv_at hl 0 rfl) ?_
  refine va_get (D := D) (ci := 1) (v := .ref w) (C := RX1) (T := TX1) (N := 4) (pc := 1) hx hb hts in_X1 hown hK hP 0 rfl rfl 0 (by decide) (hts _ kw_87) (fun _ h9 => h9) rfl dX1_fits_1 ?_
  refine x_Vi (pc := 4) (As := []) (rest := []) (b := w) (wr := [(d, .inr (1, [.ref w, .int s9, .int (nI g9), .int (nI ct)]))]) ⟨hx, hb, hml, hown, hts⟩ (w_isCoef l D cI cL cC cB cZ cR H.size w wa v f hf hv) ⟨callB_of 0 hts (x_good kw_293) rfl rfl rfl (hts _ kw_5) (hts _ kw_290) dc_X6_isCoefficient ⟨Nat.le_of_ble_eq_true rfl, Nat.le_of_ble_eq_true rfl⟩, hts _ kw_291, hts _ kw_292⟩ (q0 := 1) rfl rfl rfl rfl hl.1 rfl (Nat.le_of_ble_eq_true rfl) dX1_fits_4 ⟨Nat.le_refl _, Nat.le_refl _⟩ hN hK hP hD hS hA [1, 2] [0] rfl rfl (by decide) (by decide) (by decide) (fun r4 u4 H locs q4 hP hD hS => ?_)
  have hP : va_P D vwCl [(d, .inr (1, [.ref w, .int s9, .int (nI g9), .int (nI ct)])), (w, .inr (6, [.ref wa])), (wa, .inl (cL, 6, .inr (.inl f)))] H := hP
  have hD : va_D A [(d, .inr (1, [.ref w, .int s9, .int (nI g9), .int (nI ct)])), (w, .inr (6, [.ref wa])), (wa, .inl (cL, 6, .inr (.inl f)))] := hD
  obtain rfl := q4
  have a1 := cfN_sp v
  have a2 := gcN_sp v
  have a3 := gw0 g9 ct v
  have a4 := gwN_le 0 g9 ct v
  have a5 := fiN_sp ct v
  refine x_if_eq (tgt := 32) (pc := 7) hx hb (by omega) dX1_fits_7 (by decide) (fun k1 => ?_) (fun k1 => ?_)
  · refine lv_iconst (v := nI 0) (pc := 32) hx hb dX1_fits_32 kI_0 ?_
    exact x_retz (pc := 33) rfl hx hb hr hlk () (congrArg nI (by omega)) hP hK hD hS dX1_fits_33
  · refine lv_aload_n (pc := 10) hx hb dX1_fits_10 rfl (lv_at hl 0 rfl) ?_
    refine lv_iconst (v := nI 0) (pc := 11) hx hb dX1_fits_11 kI_0 ?_
    refine x_Vi (pc := 12) (As := [.int (nI 0)]) (rest := []) (b := d) (wr := []) ⟨hx, hb, hml, hown, hts⟩ (d_goes l D cI cL cC cB cZ cR H.size d w wa v 0 g9 ct s9 f hf (by omega) hg9 hct) ⟨callB_of 1 hts (x_good kw_297) rfl rfl rfl (hts _ kw_4) (hts _ kw_294) dc_X1_goesAway ⟨Nat.le_of_ble_eq_true rfl, Nat.le_of_ble_eq_true rfl⟩, hts _ kw_296, hts _ kp_4⟩ (q0 := 0) rfl rfl rfl rfl hl.1 rfl (Nat.le_of_ble_eq_true rfl) dX1_fits_12 ⟨Nat.le_refl _, Nat.le_refl _⟩ hN hK hP hD hS hA [0, 1, 2] [] rfl rfl (by decide) (by decide) (by decide) (fun r12 u12 H locs q12 hP hD hS => ?_)
    have hP : va_P D vwCl [(d, .inr (1, [.ref w, .int s9, .int (nI g9), .int (nI ct)])), (w, .inr (6, [.ref wa])), (wa, .inl (cL, 6, .inr (.inl f)))] H := hP
    have hD : va_D A [(d, .inr (1, [.ref w, .int s9, .int (nI g9), .int (nI ct)])), (w, .inr (6, [.ref wa])), (wa, .inl (cL, 6, .inr (.inl f)))] := hD
    obtain rfl := q12
    refine x_if_eq (tgt := 28) (pc := 15) hx hb (by omega) dX1_fits_15 (by decide) (fun k2 => ?_) (fun k2 => ?_)
    · refine lv_iconst (v := nI 1) (pc := 28) hx hb dX1_fits_28 kI_1 ?_
      refine lv_goto (tgt := 33) (pc := 29) hx hb dX1_fits_29 (by decide) ?_
      exact x_retz (pc := 33) rfl hx hb hr hlk () (congrArg nI (by omega)) hP hK hD hS dX1_fits_33
    · refine lv_aload_n (pc := 18) hx hb dX1_fits_18 rfl (lv_at hl 0 rfl) ?_
      refine va_get (D := D) (ci := 1) (v := .ref w) (C := RX1) (T := TX1) (N := 4) (pc := 19) hx hb hts in_X1 hown hK hP 0 rfl rfl 0 (by decide) (hts _ kw_87) (fun _ h9 => h9) rfl dX1_fits_19 ?_
      refine x_Vi (pc := 22) (As := []) (rest := []) (b := w) (wr := [(d, .inr (1, [.ref w, .int s9, .int (nI g9), .int (nI ct)]))]) ⟨hx, hb, hml, hown, hts⟩ (w_isGreat l D cI cL cC cB cZ cR H.size w wa v f hf hv) ⟨callB_of 0 hts (x_good kw_305) rfl rfl rfl (hts _ kw_5) (hts _ kw_302) dc_X6_isGreatestCoefficient ⟨Nat.le_of_ble_eq_true rfl, Nat.le_of_ble_eq_true rfl⟩, hts _ kw_303, hts _ kw_304⟩ (q0 := 1) rfl rfl rfl rfl hl.1 rfl (Nat.le_of_ble_eq_true rfl) dX1_fits_22 ⟨Nat.le_refl _, Nat.le_refl _⟩ hN hK hP hD hS hA [1, 2] [0] rfl rfl (by decide) (by decide) (by decide) (fun r22 u22 H locs q22 hP hD hS => ?_)
      have hP : va_P D vwCl [(d, .inr (1, [.ref w, .int s9, .int (nI g9), .int (nI ct)])), (w, .inr (6, [.ref wa])), (wa, .inl (cL, 6, .inr (.inl f)))] H := hP
      have hD : va_D A [(d, .inr (1, [.ref w, .int s9, .int (nI g9), .int (nI ct)])), (w, .inr (6, [.ref wa])), (wa, .inl (cL, 6, .inr (.inl f)))] := hD
      obtain rfl := q22
      refine x_if_ne (tgt := 32) (pc := 25) hx hb (by omega) dX1_fits_25 (by decide) (fun k3 => ?_) (fun k3 => ?_)
      · refine lv_iconst (v := nI 0) (pc := 32) hx hb dX1_fits_32 kI_0 ?_
        exact x_retz (pc := 33) rfl hx hb hr hlk () (congrArg nI (by omega)) hP hK hD hS dX1_fits_33
      · refine lv_iconst (v := nI 1) (pc := 28) hx hb dX1_fits_28 kI_1 ?_
        refine lv_goto (tgt := 33) (pc := 29) hx hb dX1_fits_29 (by decide) ?_
        exact x_retz (pc := 33) rfl hx hb hr hlk () (congrArg nI (by omega)) hP hK hD hS dX1_fits_33
abbrev rm_d_settle : Room := { frames := 2, cells := 0, slots := 0, locals := 41 }
set_option maxHeartbeats 4000000 in
set_option maxRecDepth 100000 in
theorem d_settle (l : Launch) (D : va_G) (cI cL cC cB cZ cR : ClassId) (sz : Nat) (d w wa v md g9 ct : Nat) (s9 : Int32) (f : Nat → Int64) (hf : wR f v) (hmd : md ≤ 4) (hg9 : g9 ≤ 1) (hct : ct ≤ 3) : Met l yX1_settle wsX1_settle rm_d_settle (xPc D vwCl (tyAll cI cL cC cB cZ cR) [.ref d, .int (nI md)] [(d, .inr (1, [.ref w, .int s9, .int (nI g9), .int (nI ct)])), (w, .inr (6, [.ref wa])), (wa, .inl (cL, 6, .inr (.inl f)))] sz) (va_Qv (fun u : Nat → Int64 => wR u (v + gwN md g9 ct v)) (xB D vwCl (tyAll cI cL cC cB cZ cR) (va_A [(d, .inr (1, [.ref w, .int s9, .int (nI g9), .int (nI ct)])), (w, .inr (6, [.ref wa])), (wa, .inl (cL, 6, .inr (.inl f)))] sz) (fun u : (Nat → Int64) => [(d, .inr (1, [.ref w, .int s9, .int (nI g9), .int (nI ct)])), (w, .inr (6, [.ref wa])), (wa, .inl (cL, 6, .inr (.inl u)))])) (va_A [(d, .inr (1, [.ref w, .int s9, .int (nI g9), .int (nI ct)])), (w, .inr (6, [.ref wa])), (wa, .inl (cL, 6, .inr (.inl f)))] sz)) 0 0 (va_A [(d, .inr (1, [.ref w, .int s9, .int (nI g9), .int (nI ct)])), (w, .inr (6, [.ref wa])), (wa, .inl (cL, 6, .inr (.inl f)))] sz) := by
  refine x_of (Qc := fun A => va_Qv (fun u : Nat → Int64 => wR u (v + gwN md g9 ct v)) (xB D vwCl (tyAll cI cL cC cB cZ cR) A (fun u : (Nat → Int64) => [(d, .inr (1, [.ref w, .int s9, .int (nI g9), .int (nI ct)])), (w, .inr (6, [.ref wa])), (wa, .inl (cL, 6, .inr (.inl u)))])) A) (by decide) rfl (Nat.le_of_ble_eq_true rfl) ?_
  intro p e s m args below meth c A H locs ls hx hb hr hts0 hown hlk hml hnm hP hK hD hN hA hS hl
  have hts : ∀ w ∈ wsA, w.before args s = true := fun w h => hts0 w (List.mem_cons_of_mem _ h)
  have hown : s.vm.findClass "WideDecimalDesk$Draft" = some m.cls := hown
  have hl : lv_has ls 2 [(0, .ref d), (1, .int (nI md))] := hl
  refine lv_aload_n (pc := 0) hx hb dX1_settle_0 rfl (lv_at hl 0 rfl) ?_
  refine lv_iload_n (pc := 1) hx hb dX1_settle_1 rfl (lv_at hl 1 rfl) ?_
  refine x_Vi (pc := 2) (As := [.int (nI md)]) (rest := []) (b := d) (wr := []) ⟨hx, hb, hml, hown, hts⟩ (d_goes l D cI cL cC cB cZ cR H.size d w wa v md g9 ct s9 f hf hmd hg9 hct) ⟨callB_of 1 hts (x_good kw_297) rfl rfl rfl (hts _ kw_4) (hts _ kw_294) dc_X1_goesAway ⟨Nat.le_of_ble_eq_true rfl, Nat.le_of_ble_eq_true rfl⟩, hts _ kw_296, hts _ kp_4⟩ (q0 := 0) rfl rfl rfl rfl hl.1 rfl (Nat.le_of_ble_eq_true rfl) dX1_settle_2 ⟨Nat.le_refl _, Nat.le_refl _⟩ hN hK hP hD hS hA [0, 1, 2] [] rfl rfl (by decide) (by decide) (by decide) (fun r2 u2 H locs q2 hP hD hS => ?_)
  have hP : va_P D vwCl [(d, .inr (1, [.ref w, .int s9, .int (nI g9), .int (nI ct)])), (w, .inr (6, [.ref wa])), (wa, .inl (cL, 6, .inr (.inl f)))] H := hP
  have hD : va_D A [(d, .inr (1, [.ref w, .int s9, .int (nI g9), .int (nI ct)])), (w, .inr (6, [.ref wa])), (wa, .inl (cL, 6, .inr (.inl f)))] := hD
  obtain rfl := q2
  have a4 := gwN_le md g9 ct v
  refine x_if_eq (tgt := 15) (pc := 5) hx hb (by omega) dX1_settle_5 (by decide) (fun k1 => ?_) (fun k1 => ?_)
  · exact x_retv (pc := 15) hx hb hr hlk f (by first | exact wR_of h1 (by omega) | exact wR_of hf (by omega)) hP hK hD hS dX1_settle_15
  · refine lv_aload_n (pc := 8) hx hb dX1_settle_8 rfl (lv_at hl 0 rfl) ?_
    refine va_get (D := D) (ci := 1) (v := .ref w) (C := RX1) (T := TX1) (N := 4) (pc := 9) hx hb hts in_X1 hown hK hP 0 rfl rfl 0 (by decide) (hts _ kw_87) (fun _ h9 => h9) rfl dX1_settle_9 ?_
    refine x_Vv (pc := 12) (As := []) (rest := []) (b := w) (wr := [(d, .inr (1, [.ref w, .int s9, .int (nI g9), .int (nI ct)]))]) ⟨hx, hb, hml, hown, hts⟩ (w_one l D cI cL cC cB cZ cR H.size w wa v f hf) ⟨callB_of 0 hts (x_good kw_322) rfl rfl rfl (hts _ kw_5) (hts _ kw_319) dc_X6_addOne ⟨Nat.le_of_ble_eq_true rfl, Nat.le_of_ble_eq_true rfl⟩, hts _ kw_320, hts _ kw_321⟩ (q0 := 1) rfl rfl rfl rfl hl.1 rfl (Nat.le_of_ble_eq_true rfl) dX1_settle_12 ⟨Nat.le_refl _, Nat.le_refl _⟩ hN hK hP hD hS hA [1, 2] [0] rfl rfl (by decide) (by decide) (by decide) (fun u12 H locs h1 hP hD hS => ?_)
    obtain ⟨f1, rfl⟩ : ∃ z, z = u12 := ⟨_, rfl⟩
    have hP : va_P D vwCl [(d, .inr (1, [.ref w, .int s9, .int (nI g9), .int (nI ct)])), (w, .inr (6, [.ref wa])), (wa, .inl (cL, 6, .inr (.inl f1)))] H := hP
    have hD : va_D A [(d, .inr (1, [.ref w, .int s9, .int (nI g9), .int (nI ct)])), (w, .inr (6, [.ref wa])), (wa, .inl (cL, 6, .inr (.inl f1)))] := hD
    exact x_retv (pc := 15) hx hb hr hlk f1 (by first | exact wR_of h1 (by omega) | exact wR_of hf (by omega)) hP hK hD hS dX1_settle_15
abbrev rm_d_place : Room := { frames := 3, cells := 0, slots := 0, locals := 62 }
set_option maxHeartbeats 4000000 in
set_option maxRecDepth 100000 in
theorem d_place (l : Launch) (D : va_G) (cI cL cC cB cZ cR : ClassId) (sz : Nat) (d w wa v num den s9 g9 ct : Nat) (f : Nat → Int64) (hf : wR f v) (hv : v < 4294967296 ^ 6) (hv0 : v = num * 10 ^ s9 / den) (hc0 : ct = cls (num * 10 ^ s9 % den) den) (hd0 : 0 < den) (hs9 : s9 < 1000) (hg9 : g9 ≤ 1) : Met l yX1_place wsX1_place rm_d_place (xPc D vwCl (tyAll cI cL cC cB cZ cR) [.ref d] [(d, .inr (1, [.ref w, .int (nI s9), .int (nI g9), .int (nI ct)])), (w, .inr (6, [.ref wa])), (wa, .inl (cL, 6, .inr (.inl f)))] sz) (va_Qi (fun (r : Int32) (u : (Nat × Nat × (Nat → Int64))) => dpP num den s9 g9 r u.1 u.2.2 ∧ u.2.1 ≤ 3) (xB D vwCl (tyAll cI cL cC cB cZ cR) (va_A [(d, .inr (1, [.ref w, .int (nI s9), .int (nI g9), .int (nI ct)])), (w, .inr (6, [.ref wa])), (wa, .inl (cL, 6, .inr (.inl f)))] sz) (fun u : (Nat × Nat × (Nat → Int64)) => [(d, .inr (1, [.ref w, .int (nI u.1), .int (nI g9), .int (nI u.2.1)])), (w, .inr (6, [.ref wa])), (wa, .inl (cL, 6, .inr (.inl u.2.2)))])) (va_A [(d, .inr (1, [.ref w, .int (nI s9), .int (nI g9), .int (nI ct)])), (w, .inr (6, [.ref wa])), (wa, .inl (cL, 6, .inr (.inl f)))] sz)) 0 0 (va_A [(d, .inr (1, [.ref w, .int (nI s9), .int (nI g9), .int (nI ct)])), (w, .inr (6, [.ref wa])), (wa, .inl (cL, 6, .inr (.inl f)))] sz) := by
  refine x_of (Qc := fun A => va_Qi (fun (r : Int32) (u : (Nat × Nat × (Nat → Int64))) => dpP num den s9 g9 r u.1 u.2.2 ∧ u.2.1 ≤ 3) (xB D vwCl (tyAll cI cL cC cB cZ cR) A (fun u : (Nat × Nat × (Nat → Int64)) => [(d, .inr (1, [.ref w, .int (nI u.1), .int (nI g9), .int (nI u.2.1)])), (w, .inr (6, [.ref wa])), (wa, .inl (cL, 6, .inr (.inl u.2.2)))])) A) (by decide) rfl (Nat.le_of_ble_eq_true rfl) ?_
  intro p e s m args below meth c A H locs ls hx hb hr hts0 hown hlk hml hnm hP hK hD hN hA hS hl
  have hts : ∀ w ∈ wsA, w.before args s = true := fun w h => hts0 w (List.mem_cons_of_mem _ h)
  have hown : s.vm.findClass "WideDecimalDesk$Draft" = some m.cls := hown
  have hl : lv_has ls 1 [(0, .ref d)] := hl
  have L40 : ∀ (t : Nat) (v : Nat) (ct : Nat) (f : (Nat → Int64)) (H : Heap) (locs : List Loc) (ls : Array Slot) (hv0 : v = num * 10 ^ t / den) (hc0 : ct = cls (num * 10 ^ t % den) den) (hf : wR f v) (hv : v < 4294967296 ^ 6) (hpl : plc num den (min s9 28) = plc num den (min t 28)) (ht9 : t < 1000) (hst : t = 0 ∨ (t ≤ 28 ∧ fiN ct v = 1)) (hP : va_P D vwCl [(d, .inr (1, [.ref w, .int (nI t), .int (nI g9), .int (nI ct)])), (w, .inr (6, [.ref wa])), (wa, .inl (cL, 6, .inr (.inl f)))] H) (hD : va_D A [(d, .inr (1, [.ref w, .int (nI t), .int (nI g9), .int (nI ct)])), (w, .inr (6, [.ref wa])), (wa, .inl (cL, 6, .inr (.inl f)))]) (hS : va_S A s.heap H locs) (hl : lv_has ls 1 [(0, .ref d)]), W p l e rm_d_place s m args below meth c H locs 0 0 (MQ below (va_Qi (fun (r : Int32) (u : (Nat × Nat × (Nat → Int64))) => dpP num den s9 g9 r u.1 u.2.2 ∧ u.2.1 ≤ 3) (xB D vwCl (tyAll cI cL cC cB cZ cR) A (fun u : (Nat × Nat × (Nat → Int64)) => [(d, .inr (1, [.ref w, .int (nI u.1), .int (nI g9), .int (nI u.2.1)])), (w, .inr (6, [.ref wa])), (wa, .inl (cL, 6, .inr (.inl u.2.2)))])) A) args s 0 0 A) (F0 m 40 ls []) := by
    intro t v ct f H locs ls hv0 hc0 hf hv hpl ht9 hst hP hD hS hl
    have hct : ct ≤ 3 := by rw [hc0]; exact cls_le _ _
    have hrn := rne_fi 0 hv0 hc0
    have hfi := fiN_sp ct v
    refine lv_aload_n (pc := 40) hx hb dX1_place_40 rfl (lv_at hl 0 rfl) ?_
    refine x_Vi (pc := 41) (As := []) (rest := []) (b := d) (wr := []) ⟨hx, hb, hml, hown, hts⟩ (d_fits l D cI cL cC cB cZ cR H.size d w wa v g9 ct (nI t) f hf hv hg9 hct) ⟨callB_of 0 hts (x_good kw_289) rfl rfl rfl (hts _ kw_4) (hts _ kw_286) dc_X1_fits ⟨Nat.le_of_ble_eq_true rfl, Nat.le_of_ble_eq_true rfl⟩, hts _ kw_288, hts _ kp_3⟩ (q0 := 0) rfl rfl rfl rfl hl.1 rfl (Nat.le_of_ble_eq_true rfl) dX1_place_41 ⟨Nat.le_refl _, Nat.le_refl _⟩ hN hK hP hD hS hA [0, 1, 2] [] rfl rfl (by decide) (by decide) (by decide) (fun r41 u41 H locs q41 hP hD hS => ?_)
    have hP : va_P D vwCl [(d, .inr (1, [.ref w, .int (nI t), .int (nI g9), .int (nI ct)])), (w, .inr (6, [.ref wa])), (wa, .inl (cL, 6, .inr (.inl f)))] H := hP
    have hD : va_D A [(d, .inr (1, [.ref w, .int (nI t), .int (nI g9), .int (nI ct)])), (w, .inr (6, [.ref wa])), (wa, .inl (cL, 6, .inr (.inl f)))] := hD
    obtain rfl := q41
    refine x_if_ne (tgt := 49) (pc := 44) hx hb (by omega) dX1_place_44 (by decide) (fun k4 => ?_) (fun k4 => ?_)
    · refine lv_aload_n (pc := 49) hx hb dX1_place_49 rfl (lv_at hl 0 rfl) ?_
      refine lv_iconst (v := nI 0) (pc := 50) hx hb dX1_place_50 kI_0 ?_
      refine x_Vv (pc := 51) (As := [.int (nI 0)]) (rest := []) (b := d) (wr := []) ⟨hx, hb, hml, hown, hts⟩ (d_settle l D cI cL cC cB cZ cR H.size d w wa v 0 g9 ct (nI t) f hf (by omega) hg9 hct) ⟨callB_of 1 hts (x_good kw_318) rfl rfl rfl (hts _ kw_4) (hts _ kw_315) dc_X1_settle ⟨Nat.le_of_ble_eq_true rfl, Nat.le_of_ble_eq_true rfl⟩, hts _ kw_317, hts _ kp_6⟩ (q0 := 0) rfl rfl rfl rfl hl.1 rfl (Nat.le_of_ble_eq_true rfl) dX1_place_51 ⟨Nat.le_refl _, Nat.le_refl _⟩ hN hK hP hD hS hA [0, 1, 2] [] rfl rfl (by decide) (by decide) (by decide) (fun u51 H locs h2 hP hD hS => ?_)
      obtain ⟨f2, rfl⟩ : ∃ z, z = u51 := ⟨_, rfl⟩
      have hP : va_P D vwCl [(d, .inr (1, [.ref w, .int (nI t), .int (nI g9), .int (nI ct)])), (w, .inr (6, [.ref wa])), (wa, .inl (cL, 6, .inr (.inl f2)))] H := hP
      have hD : va_D A [(d, .inr (1, [.ref w, .int (nI t), .int (nI g9), .int (nI ct)])), (w, .inr (6, [.ref wa])), (wa, .inl (cL, 6, .inr (.inl f2)))] := hD
      refine lv_iconst (v := nI 1) (pc := 54) hx hb dX1_place_54 kI_1 ?_
      exact x_retz (pc := 55) rfl hx hb hr hlk (t, ct, f2) (⟨dpP_y (t := t) (hpl.trans (by rw [show min t 28 = t by omega])) (by omega) (wR_of h2 (rne_fi g9 hv0 hc0)), hct⟩) hP hK hD hS dX1_place_55
    · refine lv_iconst (v := nI 0) (pc := 47) hx hb dX1_place_47 kI_0 ?_
      exact x_retz (pc := 48) rfl hx hb hr hlk (t, ct, f) (⟨dpP_n (hpl.trans (by have h0 : t = 0 := (by omega); rw [h0] at hrn ⊢; exact plc_0 (by omega))), hct⟩) hP hK hD hS dX1_place_48
  have L0 : ∀ (kk : Nat) (t : Nat) (v : Nat) (ct : Nat) (f : (Nat → Int64)) (H : Heap) (locs : List Loc) (ls : Array Slot) (hk0 : t < kk) (hv0 : v = num * 10 ^ t / den) (hc0 : ct = cls (num * 10 ^ t % den) den) (hf : wR f v) (hv : v < 4294967296 ^ 6) (hpl : plc num den (min s9 28) = plc num den (min t 28)) (ht9 : t < 1000) (hP : va_P D vwCl [(d, .inr (1, [.ref w, .int (nI t), .int (nI g9), .int (nI ct)])), (w, .inr (6, [.ref wa])), (wa, .inl (cL, 6, .inr (.inl f)))] H) (hD : va_D A [(d, .inr (1, [.ref w, .int (nI t), .int (nI g9), .int (nI ct)])), (w, .inr (6, [.ref wa])), (wa, .inl (cL, 6, .inr (.inl f)))]) (hS : va_S A s.heap H locs) (hl : lv_has ls 1 [(0, .ref d)]), W p l e rm_d_place s m args below meth c H locs 0 0 (MQ below (va_Qi (fun (r : Int32) (u : (Nat × Nat × (Nat → Int64))) => dpP num den s9 g9 r u.1 u.2.2 ∧ u.2.1 ≤ 3) (xB D vwCl (tyAll cI cL cC cB cZ cR) A (fun u : (Nat × Nat × (Nat → Int64)) => [(d, .inr (1, [.ref w, .int (nI u.1), .int (nI g9), .int (nI u.2.1)])), (w, .inr (6, [.ref wa])), (wa, .inl (cL, 6, .inr (.inl u.2.2)))])) A) args s 0 0 A) (F0 m 0 ls []) := by
    intro kk
    induction kk with
    | zero => intro t v ct f H locs ls hk; exact absurd hk (Nat.not_lt_zero _)
    | succ kk ih0 =>
      intro t v ct f H locs ls hk0 hv0 hc0 hf hv hpl ht9 hP hD hS hl
      have hct : ct ≤ 3 := by rw [hc0]; exact cls_le _ _
      have hrn := rne_fi 0 hv0 hc0
      have hfi := fiN_sp ct v
      have L23 : ∀  (H : Heap) (locs : List Loc) (ls : Array Slot) (h0t : 0 < t) (hgo : 28 < t ∨ (t ≤ 28 ∧ fiN ct v = 0)) (hP : va_P D vwCl [(d, .inr (1, [.ref w, .int (nI t), .int (nI g9), .int (nI ct)])), (w, .inr (6, [.ref wa])), (wa, .inl (cL, 6, .inr (.inl f)))] H) (hD : va_D A [(d, .inr (1, [.ref w, .int (nI t), .int (nI g9), .int (nI ct)])), (w, .inr (6, [.ref wa])), (wa, .inl (cL, 6, .inr (.inl f)))]) (hS : va_S A s.heap H locs) (hl : lv_has ls 1 [(0, .ref d)]), W p l e rm_d_place s m args below meth c H locs 0 0 (MQ below (va_Qi (fun (r : Int32) (u : (Nat × Nat × (Nat → Int64))) => dpP num den s9 g9 r u.1 u.2.2 ∧ u.2.1 ≤ 3) (xB D vwCl (tyAll cI cL cC cB cZ cR) A (fun u : (Nat × Nat × (Nat → Int64)) => [(d, .inr (1, [.ref w, .int (nI u.1), .int (nI g9), .int (nI u.2.1)])), (w, .inr (6, [.ref wa])), (wa, .inl (cL, 6, .inr (.inl u.2.2)))])) A) args s 0 0 A) (F0 m 23 ls []) := by
        intro  H locs ls h0t hgo hP hD hS hl
        obtain ⟨j, rfl⟩ : ∃ j, t = j + 1 := ⟨t - 1, by omega⟩
        obtain ⟨e1, e2⟩ := cutd_step (num := num) hd0 j
        rw [← hv0] at e1 e2
        rw [← hc0] at e2
        refine lv_aload_n (pc := 23) hx hb dX1_place_23 rfl (lv_at hl 0 rfl) ?_
        refine x_Vv (pc := 24) (As := []) (rest := []) (b := d) (wr := []) ⟨hx, hb, hml, hown, hts⟩ (d_cut l D cI cL cC cB cZ cR H.size d w wa v ct (nI (j + 1)) (nI g9) f hf hv hct) ⟨callB_of 0 hts (x_good kw_310) rfl rfl rfl (hts _ kw_4) (hts _ kw_307) dc_X1_cutDigit ⟨Nat.le_of_ble_eq_true rfl, Nat.le_of_ble_eq_true rfl⟩, hts _ kw_309, hts _ kp_5⟩ (q0 := 0) rfl rfl rfl rfl hl.1 rfl (Nat.le_of_ble_eq_true rfl) dX1_place_24 ⟨Nat.le_refl _, Nat.le_refl _⟩ hN hK hP hD hS hA [0, 1, 2] [] rfl rfl (by decide) (by decide) (by decide) (fun u24 H locs h1 hP hD hS => ?_)
        obtain ⟨f1, rfl⟩ : ∃ z, z = u24 := ⟨_, rfl⟩
        have hP : va_P D vwCl [(d, .inr (1, [.ref w, .int (nI (j + 1)), .int (nI g9), .int (nI (cutf (v % 10) ct))])), (w, .inr (6, [.ref wa])), (wa, .inl (cL, 6, .inr (.inl f1)))] H := hP
        have hD : va_D A [(d, .inr (1, [.ref w, .int (nI (j + 1)), .int (nI g9), .int (nI (cutf (v % 10) ct))])), (w, .inr (6, [.ref wa])), (wa, .inl (cL, 6, .inr (.inl f1)))] := hD
        refine lv_aload_n (pc := 27) hx hb dX1_place_27 rfl (lv_at hl 0 rfl) ?_
        refine lv_dup (pc := 28) hx hb dX1_place_28 rfl ?_
        refine va_get (D := D) (ci := 1) (v := .int (nI (j + 1))) (C := RX1) (T := TX1) (N := 4) (pc := 29) hx hb hts in_X1 hown hK hP 0 rfl rfl 1 (by decide) (hts _ kw_89) (fun _ h9 => h9) rfl dX1_place_29 ?_
        refine lv_iconst (v := nI 1) (pc := 32) hx hb dX1_place_32 kI_1 ?_
        refine lv_isub (pc := 33) hx hb dX1_place_33 ?_
        refine x_i (y := nI j) (pk_sub (by omega)) ?_
        refine va_put (D := D) (ci := 1) (v := .int (nI j)) (ty := .int) (C := RX1) (T := TX1) (N := 4) (pc := 34) hx hb hts in_X1 tyX1 ty_X1 nm_X1 hown hK hP hD hS 0 rfl rfl 1 (by decide) (hts _ kw_89) (fun _ h9 => h9) rfl (by decide +kernel) rfl rfl (Nat.le_of_ble_eq_true rfl) dX1_place_34 (fun H locs hP hD hS => ?_)
        have hP : va_P D vwCl [(d, .inr (1, [.ref w, .int (nI j), .int (nI g9), .int (nI (cutf (v % 10) ct))])), (w, .inr (6, [.ref wa])), (wa, .inl (cL, 6, .inr (.inl f1)))] H := hP
        have hD : va_D A [(d, .inr (1, [.ref w, .int (nI j), .int (nI g9), .int (nI (cutf (v % 10) ct))])), (w, .inr (6, [.ref wa])), (wa, .inl (cL, 6, .inr (.inl f1)))] := hD
        refine lv_goto (tgt := 0) (pc := 37) hx hb dX1_place_37 (by decide) ?_
        exact ih0 j (v / 10) (cutf (v % 10) ct) f1 H locs ls (by omega) e1 e2.symm h1 (Nat.lt_of_le_of_lt (Nat.div_le_self _ _) hv) (hpl.trans (pl_step hgo (fun h5 => by omega))) (by omega) hP hD hS hl
      refine lv_aload_n (pc := 0) hx hb dX1_place_0 rfl (lv_at hl 0 rfl) ?_
      refine va_get (D := D) (ci := 1) (v := .int (nI t)) (C := RX1) (T := TX1) (N := 4) (pc := 1) hx hb hts in_X1 hown hK hP 0 rfl rfl 1 (by decide) (hts _ kw_89) (fun _ h9 => h9) rfl dX1_place_1 ?_
      refine x_if_le (tgt := 40) (pc := 4) hx hb (by omega) dX1_place_4 (by decide) (fun k1 => ?_) (fun k1 => ?_)
      · exact L40 t v ct f _ _ ls hv0 hc0 hf hv hpl ht9 (by omega) hP hD hS hl
      · refine lv_aload_n (pc := 7) hx hb dX1_place_7 rfl (lv_at hl 0 rfl) ?_
        refine va_get (D := D) (ci := 1) (v := .int (nI t)) (C := RX1) (T := TX1) (N := 4) (pc := 8) hx hb hts in_X1 hown hK hP 0 rfl rfl 1 (by decide) (hts _ kw_89) (fun _ h9 => h9) rfl dX1_place_8 ?_
        refine lv_bipush (v := nI 28) (pc := 11) hx hb dX1_place_11 (by decide +kernel) ?_
        refine x_icmp_gt (tgt := 23) (pc := 13) hx hb (by omega) (by omega) dX1_place_13 (by decide) (fun k2 => ?_) (fun k2 => ?_)
        · exact L23  _ _ ls (by omega) (by omega) hP hD hS hl
        · refine lv_aload_n (pc := 16) hx hb dX1_place_16 rfl (lv_at hl 0 rfl) ?_
          refine x_Vi (pc := 17) (As := []) (rest := []) (b := d) (wr := []) ⟨hx, hb, hml, hown, hts⟩ (d_fits l D cI cL cC cB cZ cR H.size d w wa v g9 ct (nI t) f hf hv hg9 hct) ⟨callB_of 0 hts (x_good kw_289) rfl rfl rfl (hts _ kw_4) (hts _ kw_286) dc_X1_fits ⟨Nat.le_of_ble_eq_true rfl, Nat.le_of_ble_eq_true rfl⟩, hts _ kw_288, hts _ kp_3⟩ (q0 := 0) rfl rfl rfl rfl hl.1 rfl (Nat.le_of_ble_eq_true rfl) dX1_place_17 ⟨Nat.le_refl _, Nat.le_refl _⟩ hN hK hP hD hS hA [0, 1, 2] [] rfl rfl (by decide) (by decide) (by decide) (fun r17 u17 H locs q17 hP hD hS => ?_)
          have hP : va_P D vwCl [(d, .inr (1, [.ref w, .int (nI t), .int (nI g9), .int (nI ct)])), (w, .inr (6, [.ref wa])), (wa, .inl (cL, 6, .inr (.inl f)))] H := hP
          have hD : va_D A [(d, .inr (1, [.ref w, .int (nI t), .int (nI g9), .int (nI ct)])), (w, .inr (6, [.ref wa])), (wa, .inl (cL, 6, .inr (.inl f)))] := hD
          obtain rfl := q17
          refine x_if_ne (tgt := 40) (pc := 20) hx hb (by omega) dX1_place_20 (by decide) (fun k3 => ?_) (fun k3 => ?_)
          · exact L40 t v ct f _ _ ls hv0 hc0 hf hv hpl ht9 (by omega) hP hD hS hl
          · exact L23  _ _ ls (by omega) (by omega) hP hD hS hl
  exact L0 _ s9 v ct f _ _ ls (Nat.lt_succ_self _) hv0 hc0 hf hv rfl hs9 hP hD hS hl
abbrev rm_d_short : Room := { frames := 3, cells := 0, slots := 0, locals := 62 }
set_option maxHeartbeats 4000000 in
set_option maxRecDepth 100000 in
theorem d_short (l : Launch) (D : va_G) (cI cL cC cB cZ cR : ClassId) (sz : Nat) (d w wa v0 s9 n9 md g9 : Nat) (f : Nat → Int64) (hf : wR f v0) (hv : v0 < 4294967296 ^ 6) (hs9 : s9 < 1000) (hn9 : n9 < 1000) (hg9 : g9 ≤ 1) (hmd : md ≤ 4) : Met l yX1_shortenTo wsX1_shortenTo rm_d_short (xPc D vwCl (tyAll cI cL cC cB cZ cR) [.ref d, .int (nI n9), .int (nI md)] [(d, .inr (1, [.ref w, .int (nI s9), .int (nI g9), .int (nI 0)])), (w, .inr (6, [.ref wa])), (wa, .inl (cL, 6, .inr (.inl f)))] sz) (va_Qv (fun u : Nat × (Nat → Int64) => wR u.2 (rdC md g9 v0 s9 n9) ∧ u.1 ≤ 3) (xB D vwCl (tyAll cI cL cC cB cZ cR) (va_A [(d, .inr (1, [.ref w, .int (nI s9), .int (nI g9), .int (nI 0)])), (w, .inr (6, [.ref wa])), (wa, .inl (cL, 6, .inr (.inl f)))] sz) (fun u : (Nat × (Nat → Int64)) => [(d, .inr (1, [.ref w, .int (nI (rdS s9 n9)), .int (nI g9), .int (nI u.1)])), (w, .inr (6, [.ref wa])), (wa, .inl (cL, 6, .inr (.inl u.2)))])) (va_A [(d, .inr (1, [.ref w, .int (nI s9), .int (nI g9), .int (nI 0)])), (w, .inr (6, [.ref wa])), (wa, .inl (cL, 6, .inr (.inl f)))] sz)) 0 0 (va_A [(d, .inr (1, [.ref w, .int (nI s9), .int (nI g9), .int (nI 0)])), (w, .inr (6, [.ref wa])), (wa, .inl (cL, 6, .inr (.inl f)))] sz) := by
  refine x_of (Qc := fun A => va_Qv (fun u : Nat × (Nat → Int64) => wR u.2 (rdC md g9 v0 s9 n9) ∧ u.1 ≤ 3) (xB D vwCl (tyAll cI cL cC cB cZ cR) A (fun u : (Nat × (Nat → Int64)) => [(d, .inr (1, [.ref w, .int (nI (rdS s9 n9)), .int (nI g9), .int (nI u.1)])), (w, .inr (6, [.ref wa])), (wa, .inl (cL, 6, .inr (.inl u.2)))])) A) (by decide) rfl (Nat.le_of_ble_eq_true rfl) ?_
  intro p e s m args below meth c A H locs ls hx hb hr hts0 hown hlk hml hnm hP hK hD hN hA hS hl
  have hts : ∀ w ∈ wsA, w.before args s = true := fun w h => hts0 w (List.mem_cons_of_mem _ h)
  have hown : s.vm.findClass "WideDecimalDesk$Draft" = some m.cls := hown
  have hl : lv_has ls 3 [(0, .ref d), (1, .int (nI n9)), (2, .int (nI md))] := hl
  have L0 : ∀ (kk : Nat) (t : Nat) (v : Nat) (ct : Nat) (f : (Nat → Int64)) (H : Heap) (locs : List Loc) (ls : Array Slot) (hk0 : t < kk) (hv0 : v = v0 / 10 ^ (s9 - t)) (hc0 : ct = cls (v0 % 10 ^ (s9 - t)) (10 ^ (s9 - t))) (hf : wR f v) (hv : v < 4294967296 ^ 6) (ht1 : t ≤ s9) (ht2 : t = s9 ∨ n9 ≤ t) (hP : va_P D vwCl [(d, .inr (1, [.ref w, .int (nI t), .int (nI g9), .int (nI ct)])), (w, .inr (6, [.ref wa])), (wa, .inl (cL, 6, .inr (.inl f)))] H) (hD : va_D A [(d, .inr (1, [.ref w, .int (nI t), .int (nI g9), .int (nI ct)])), (w, .inr (6, [.ref wa])), (wa, .inl (cL, 6, .inr (.inl f)))]) (hS : va_S A s.heap H locs) (hl : lv_has ls 3 [(0, .ref d), (1, .int (nI n9)), (2, .int (nI md))]), W p l e rm_d_short s m args below meth c H locs 0 0 (MQ below (va_Qv (fun u : Nat × (Nat → Int64) => wR u.2 (rdC md g9 v0 s9 n9) ∧ u.1 ≤ 3) (xB D vwCl (tyAll cI cL cC cB cZ cR) A (fun u : (Nat × (Nat → Int64)) => [(d, .inr (1, [.ref w, .int (nI (rdS s9 n9)), .int (nI g9), .int (nI u.1)])), (w, .inr (6, [.ref wa])), (wa, .inl (cL, 6, .inr (.inl u.2)))])) A) args s 0 0 A) (F0 m 0 ls []) := by
    intro kk
    induction kk with
    | zero => intro t v ct f H locs ls hk; exact absurd hk (Nat.not_lt_zero _)
    | succ kk ih0 =>
      intro t v ct f H locs ls hk0 hv0 hc0 hf hv ht1 ht2 hP hD hS hl
      have hct : ct ≤ 3 := by rw [hc0]; exact cls_le _ _
      refine lv_aload_n (pc := 0) hx hb dX1_shortenTo_0 rfl (lv_at hl 0 rfl) ?_
      refine va_get (D := D) (ci := 1) (v := .int (nI t)) (C := RX1) (T := TX1) (N := 4) (pc := 1) hx hb hts in_X1 hown hK hP 0 rfl rfl 1 (by decide) (hts _ kw_89) (fun _ h9 => h9) rfl dX1_shortenTo_1 ?_
      refine lv_iload_n (pc := 4) hx hb dX1_shortenTo_4 rfl (lv_at hl 1 rfl) ?_
      refine x_icmp_le (tgt := 25) (pc := 5) hx hb (by omega) (by omega) dX1_shortenTo_5 (by decide) (fun k1 => ?_) (fun k1 => ?_)
      · refine lv_aload_n (pc := 25) hx hb dX1_shortenTo_25 rfl (lv_at hl 0 rfl) ?_
        refine lv_iload_n (pc := 26) hx hb dX1_shortenTo_26 rfl (lv_at hl 2 rfl) ?_
        refine x_Vv (pc := 27) (As := [.int (nI md)]) (rest := []) (b := d) (wr := []) ⟨hx, hb, hml, hown, hts⟩ (d_settle l D cI cL cC cB cZ cR H.size d w wa v md g9 ct (nI t) f hf hmd hg9 hct) ⟨callB_of 1 hts (x_good kw_318) rfl rfl rfl (hts _ kw_4) (hts _ kw_315) dc_X1_settle ⟨Nat.le_of_ble_eq_true rfl, Nat.le_of_ble_eq_true rfl⟩, hts _ kw_317, hts _ kp_6⟩ (q0 := 0) rfl rfl rfl rfl hl.1 rfl (Nat.le_of_ble_eq_true rfl) dX1_shortenTo_27 ⟨Nat.le_refl _, Nat.le_refl _⟩ hN hK hP hD hS hA [0, 1, 2] [] rfl rfl (by decide) (by decide) (by decide) (fun u27 H locs h2 hP hD hS => ?_)
        obtain ⟨f2, rfl⟩ : ∃ z, z = u27 := ⟨_, rfl⟩
        have hP : va_P D vwCl [(d, .inr (1, [.ref w, .int (nI t), .int (nI g9), .int (nI ct)])), (w, .inr (6, [.ref wa])), (wa, .inl (cL, 6, .inr (.inl f2)))] H := hP
        have hD : va_D A [(d, .inr (1, [.ref w, .int (nI t), .int (nI g9), .int (nI ct)])), (w, .inr (6, [.ref wa])), (wa, .inl (cL, 6, .inr (.inl f2)))] := hD
        have e9 : t = rdS s9 n9 ∧ v + gwN md g9 ct v = rdC md g9 v0 s9 n9 := sh_end hv0 hc0 ht1 ht2 k1
        rw [e9.1] at hP hD
        exact x_retv (pc := 30) hx hb hr hlk (ct, f2) (⟨wR_of h2 e9.2, hct⟩) hP hK hD hS dX1_shortenTo_30
      · obtain ⟨j, rfl⟩ : ∃ j, t = j + 1 := ⟨t - 1, by omega⟩
        refine lv_aload_n (pc := 8) hx hb dX1_shortenTo_8 rfl (lv_at hl 0 rfl) ?_
        refine x_Vv (pc := 9) (As := []) (rest := []) (b := d) (wr := []) ⟨hx, hb, hml, hown, hts⟩ (d_cut l D cI cL cC cB cZ cR H.size d w wa v ct (nI (j + 1)) (nI g9) f hf hv hct) ⟨callB_of 0 hts (x_good kw_310) rfl rfl rfl (hts _ kw_4) (hts _ kw_307) dc_X1_cutDigit ⟨Nat.le_of_ble_eq_true rfl, Nat.le_of_ble_eq_true rfl⟩, hts _ kw_309, hts _ kp_5⟩ (q0 := 0) rfl rfl rfl rfl hl.1 rfl (Nat.le_of_ble_eq_true rfl) dX1_shortenTo_9 ⟨Nat.le_refl _, Nat.le_refl _⟩ hN hK hP hD hS hA [0, 1, 2] [] rfl rfl (by decide) (by decide) (by decide) (fun u9 H locs h1 hP hD hS => ?_)
        obtain ⟨f1, rfl⟩ : ∃ z, z = u9 := ⟨_, rfl⟩
        have hP : va_P D vwCl [(d, .inr (1, [.ref w, .int (nI (j + 1)), .int (nI g9), .int (nI (cutf (v % 10) ct))])), (w, .inr (6, [.ref wa])), (wa, .inl (cL, 6, .inr (.inl f1)))] H := hP
        have hD : va_D A [(d, .inr (1, [.ref w, .int (nI (j + 1)), .int (nI g9), .int (nI (cutf (v % 10) ct))])), (w, .inr (6, [.ref wa])), (wa, .inl (cL, 6, .inr (.inl f1)))] := hD
        refine lv_aload_n (pc := 12) hx hb dX1_shortenTo_12 rfl (lv_at hl 0 rfl) ?_
        refine lv_dup (pc := 13) hx hb dX1_shortenTo_13 rfl ?_
        refine va_get (D := D) (ci := 1) (v := .int (nI (j + 1))) (C := RX1) (T := TX1) (N := 4) (pc := 14) hx hb hts in_X1 hown hK hP 0 rfl rfl 1 (by decide) (hts _ kw_89) (fun _ h9 => h9) rfl dX1_shortenTo_14 ?_
        refine lv_iconst (v := nI 1) (pc := 17) hx hb dX1_shortenTo_17 kI_1 ?_
        refine lv_isub (pc := 18) hx hb dX1_shortenTo_18 ?_
        refine x_i (y := nI j) (pk_sub (by omega)) ?_
        refine va_put (D := D) (ci := 1) (v := .int (nI j)) (ty := .int) (C := RX1) (T := TX1) (N := 4) (pc := 19) hx hb hts in_X1 tyX1 ty_X1 nm_X1 hown hK hP hD hS 0 rfl rfl 1 (by decide) (hts _ kw_89) (fun _ h9 => h9) rfl (by decide +kernel) rfl rfl (Nat.le_of_ble_eq_true rfl) dX1_shortenTo_19 (fun H locs hP hD hS => ?_)
        have hP : va_P D vwCl [(d, .inr (1, [.ref w, .int (nI j), .int (nI g9), .int (nI (cutf (v % 10) ct))])), (w, .inr (6, [.ref wa])), (wa, .inl (cL, 6, .inr (.inl f1)))] H := hP
        have hD : va_D A [(d, .inr (1, [.ref w, .int (nI j), .int (nI g9), .int (nI (cutf (v % 10) ct))])), (w, .inr (6, [.ref wa])), (wa, .inl (cL, 6, .inr (.inl f1)))] := hD
        refine lv_goto (tgt := 0) (pc := 22) hx hb dX1_shortenTo_22 (by decide) ?_
        exact ih0 j (v / 10) (cutf (v % 10) ct) f1 H locs ls (by omega) (by rw [hv0, show s9 - j = (s9 - (j + 1)) + 1 by omega]; exact sh_div _ _) (by rw [hv0, hc0, show s9 - j = (s9 - (j + 1)) + 1 by omega]; exact sh_cls _ _) h1 (Nat.lt_of_le_of_lt (Nat.div_le_self _ _) hv) (by omega) (by omega) hP hD hS hl
  exact L0 _ s9 v0 0 f _ _ ls (Nat.lt_succ_self _) (by rw [Nat.sub_self, Nat.pow_zero, Nat.div_one]) (by rw [Nat.sub_self, Nat.pow_zero, Nat.mod_one]; rfl) hf hv (by omega) (by omega) hP hD hS hl
abbrev rm_d_drop0 : Room := { frames := 1, cells := 0, slots := 0, locals := 26 }
set_option maxHeartbeats 4000000 in
set_option maxRecDepth 100000 in
theorem d_drop0 (l : Launch) (D : va_G) (cI cL cC cB cZ cR : ClassId) (sz : Nat) (d w wa v0 s9 : Nat) (g9 ct : Int32) (f : Nat → Int64) (hf : wR f v0) (hv : v0 < 4294967296 ^ 6) (hs9 : s9 < 1000) : Met l yX1_dropZeros wsX1_dropZeros rm_d_drop0 (xPc D vwCl (tyAll cI cL cC cB cZ cR) [.ref d] [(d, .inr (1, [.ref w, .int (nI s9), .int g9, .int ct])), (w, .inr (6, [.ref wa])), (wa, .inl (cL, 6, .inr (.inl f)))] sz) (va_Qv (fun u : Nat → Int64 => wR u (trm v0 s9).1) (xB D vwCl (tyAll cI cL cC cB cZ cR) (va_A [(d, .inr (1, [.ref w, .int (nI s9), .int g9, .int ct])), (w, .inr (6, [.ref wa])), (wa, .inl (cL, 6, .inr (.inl f)))] sz) (fun u : (Nat → Int64) => [(d, .inr (1, [.ref w, .int (nI ((trm v0 s9).2)), .int g9, .int ct])), (w, .inr (6, [.ref wa])), (wa, .inl (cL, 6, .inr (.inl u)))])) (va_A [(d, .inr (1, [.ref w, .int (nI s9), .int g9, .int ct])), (w, .inr (6, [.ref wa])), (wa, .inl (cL, 6, .inr (.inl f)))] sz)) 0 0 (va_A [(d, .inr (1, [.ref w, .int (nI s9), .int g9, .int ct])), (w, .inr (6, [.ref wa])), (wa, .inl (cL, 6, .inr (.inl f)))] sz) := by
  refine x_of (Qc := fun A => va_Qv (fun u : Nat → Int64 => wR u (trm v0 s9).1) (xB D vwCl (tyAll cI cL cC cB cZ cR) A (fun u : (Nat → Int64) => [(d, .inr (1, [.ref w, .int (nI ((trm v0 s9).2)), .int g9, .int ct])), (w, .inr (6, [.ref wa])), (wa, .inl (cL, 6, .inr (.inl u)))])) A) (by decide) rfl (Nat.le_of_ble_eq_true rfl) ?_
  intro p e s m args below meth c A H locs ls hx hb hr hts0 hown hlk hml hnm hP hK hD hN hA hS hl
  have hts : ∀ w ∈ wsA, w.before args s = true := fun w h => hts0 w (List.mem_cons_of_mem _ h)
  have hown : s.vm.findClass "WideDecimalDesk$Draft" = some m.cls := hown
  have hl : lv_has ls 2 [(0, .ref d)] := hl
  have L0 : ∀ (kk : Nat) (t : Nat) (v : Nat) (f : (Nat → Int64)) (H : Heap) (locs : List Loc) (ls : Array Slot) (hk0 : t < kk) (htr : trm v0 s9 = trm v t) (hf : wR f v) (hv : v < 4294967296 ^ 6) (ht9 : t < 1000) (hP : va_P D vwCl [(d, .inr (1, [.ref w, .int (nI t), .int g9, .int ct])), (w, .inr (6, [.ref wa])), (wa, .inl (cL, 6, .inr (.inl f)))] H) (hD : va_D A [(d, .inr (1, [.ref w, .int (nI t), .int g9, .int ct])), (w, .inr (6, [.ref wa])), (wa, .inl (cL, 6, .inr (.inl f)))]) (hS : va_S A s.heap H locs) (hl : lv_has ls 2 [(0, .ref d)]), W p l e rm_d_drop0 s m args below meth c H locs 0 0 (MQ below (va_Qv (fun u : Nat → Int64 => wR u (trm v0 s9).1) (xB D vwCl (tyAll cI cL cC cB cZ cR) A (fun u : (Nat → Int64) => [(d, .inr (1, [.ref w, .int (nI ((trm v0 s9).2)), .int g9, .int ct])), (w, .inr (6, [.ref wa])), (wa, .inl (cL, 6, .inr (.inl u)))])) A) args s 0 0 A) (F0 m 0 ls []) := by
    intro kk
    induction kk with
    | zero => intro t v f H locs ls hk; exact absurd hk (Nat.not_lt_zero _)
    | succ kk ih0 =>
      intro t v f H locs ls hk0 htr hf hv ht9 hP hD hS hl
      refine lv_aload_n (pc := 0) hx hb dX1_dropZeros_0 rfl (lv_at hl 0 rfl) ?_
      refine va_get (D := D) (ci := 1) (v := .int (nI t)) (C := RX1) (T := TX1) (N := 4) (pc := 1) hx hb hts in_X1 hown hK hP 0 rfl rfl 1 (by decide) (hts _ kw_89) (fun _ h9 => h9) rfl dX1_dropZeros_1 ?_
      refine x_if_le (tgt := 41) (pc := 4) hx hb (by omega) dX1_dropZeros_4 (by decide) (fun k1 => ?_) (fun k1 => ?_)
      · have e9 : trm v0 s9 = (v, t) := htr.trans (trm_e (by omega))
        have e8 : t = (trm v0 s9).2 := by rw [e9]
        rw [e8] at hP hD
        exact x_retv (pc := 41) hx hb hr hlk f (wR_of hf (by rw [e9])) hP hK hD hS dX1_dropZeros_41
      · refine lv_aload_n (pc := 7) hx hb dX1_dropZeros_7 rfl (lv_at hl 0 rfl) ?_
        refine va_get (D := D) (ci := 1) (v := .ref w) (C := RX1) (T := TX1) (N := 4) (pc := 8) hx hb hts in_X1 hown hK hP 0 rfl rfl 0 (by decide) (hts _ kw_87) (fun _ h9 => h9) rfl dX1_dropZeros_8 ?_
        refine x_Vi (pc := 11) (As := []) (rest := []) (b := w) (wr := [(d, .inr (1, [.ref w, .int (nI t), .int g9, .int ct]))]) ⟨hx, hb, hml, hown, hts⟩ (w_drop l D cI cL cC cB cZ cR H.size w wa v f hf hv) ⟨callB_of 0 hts (x_good kw_314) rfl rfl rfl (hts _ kw_5) (hts _ kw_311) dc_X6_dropDigit ⟨Nat.le_of_ble_eq_true rfl, Nat.le_of_ble_eq_true rfl⟩, hts _ kw_312, hts _ kw_313⟩ (q0 := 1) rfl rfl rfl rfl hl.1 rfl (Nat.le_of_ble_eq_true rfl) dX1_dropZeros_11 ⟨Nat.le_refl _, Nat.le_refl _⟩ hN hK hP hD hS hA [1, 2] [0] rfl rfl (by decide) (by decide) (by decide) (fun r11 u11 H locs q11 hP hD hS => ?_)
        obtain ⟨f1, rfl⟩ : ∃ z, z = u11 := ⟨_, rfl⟩
        have hP : va_P D vwCl [(d, .inr (1, [.ref w, .int (nI t), .int g9, .int ct])), (w, .inr (6, [.ref wa])), (wa, .inl (cL, 6, .inr (.inl f1)))] H := hP
        have hD : va_D A [(d, .inr (1, [.ref w, .int (nI t), .int g9, .int ct])), (w, .inr (6, [.ref wa])), (wa, .inl (cL, 6, .inr (.inl f1)))] := hD
        obtain ⟨rfl, h1⟩ := q11
        refine lv_istore_n (pc := 14) (lv' := [(1, .int (nI (v % 10))), (0, .ref d)]) hx hb dX1_dropZeros_14 rfl hl (by decide) rfl (fun ls hl => ?_)
        refine lv_iload_n (pc := 15) hx hb dX1_dropZeros_15 rfl (lv_at hl 0 rfl) ?_
        refine x_if_eq (tgt := 28) (pc := 16) hx hb (by omega) dX1_dropZeros_16 (by decide) (fun k2 => ?_) (fun k2 => ?_)
        · refine lv_aload_n (pc := 28) hx hb dX1_dropZeros_28 rfl (lv_at hl 1 rfl) ?_
          refine lv_dup (pc := 29) hx hb dX1_dropZeros_29 rfl ?_
          refine va_get (D := D) (ci := 1) (v := .int (nI t)) (C := RX1) (T := TX1) (N := 4) (pc := 30) hx hb hts in_X1 hown hK hP 0 rfl rfl 1 (by decide) (hts _ kw_89) (fun _ h9 => h9) rfl dX1_dropZeros_30 ?_
          refine lv_iconst (v := nI 1) (pc := 33) hx hb dX1_dropZeros_33 kI_1 ?_
          refine lv_isub (pc := 34) hx hb dX1_dropZeros_34 ?_
          refine x_i (y := nI (t - 1)) (pk_sub (by omega)) ?_
          refine va_put (D := D) (ci := 1) (v := .int (nI (t - 1))) (ty := .int) (C := RX1) (T := TX1) (N := 4) (pc := 35) hx hb hts in_X1 tyX1 ty_X1 nm_X1 hown hK hP hD hS 0 rfl rfl 1 (by decide) (hts _ kw_89) (fun _ h9 => h9) rfl (by decide +kernel) rfl rfl (Nat.le_of_ble_eq_true rfl) dX1_dropZeros_35 (fun H locs hP hD hS => ?_)
          have hP : va_P D vwCl [(d, .inr (1, [.ref w, .int (nI (t - 1)), .int g9, .int ct])), (w, .inr (6, [.ref wa])), (wa, .inl (cL, 6, .inr (.inl f1)))] H := hP
          have hD : va_D A [(d, .inr (1, [.ref w, .int (nI (t - 1)), .int g9, .int ct])), (w, .inr (6, [.ref wa])), (wa, .inl (cL, 6, .inr (.inl f1)))] := hD
          refine lv_goto (tgt := 0) (pc := 38) hx hb dX1_dropZeros_38 (by decide) ?_
          have hl := lv_sub (l' := [(0, .ref d)]) hl [1] rfl
          exact ih0 (t - 1) (v / 10) f1 H locs ls (by omega) (htr.trans (trm_s k1 k2)) h1 (Nat.lt_of_le_of_lt (Nat.div_le_self _ _) hv) (by omega) hP hD hS hl
        · refine lv_aload_n (pc := 19) hx hb dX1_dropZeros_19 rfl (lv_at hl 1 rfl) ?_
          refine va_get (D := D) (ci := 1) (v := .ref w) (C := RX1) (T := TX1) (N := 4) (pc := 20) hx hb hts in_X1 hown hK hP 0 rfl rfl 0 (by decide) (hts _ kw_87) (fun _ h9 => h9) rfl dX1_dropZeros_20 ?_
          refine lv_iload_n (pc := 23) hx hb dX1_dropZeros_23 rfl (lv_at hl 0 rfl) ?_
          refine x_Vv (pc := 24) (As := [.int (nI (v % 10))]) (rest := []) (b := w) (wr := [(d, .inr (1, [.ref w, .int (nI t), .int g9, .int ct]))]) ⟨hx, hb, hml, hown, hts⟩ (w_append l D cI cL cC cB cZ cR H.size w wa (v / 10) (v % 10) f1 h1 (by omega)) ⟨callB_of 1 hts (x_good kw_264) rfl rfl rfl (hts _ kw_5) (hts _ kw_261) dc_X6_appendDigit ⟨Nat.le_of_ble_eq_true rfl, Nat.le_of_ble_eq_true rfl⟩, hts _ kw_262, hts _ kw_263⟩ (q0 := 1) rfl rfl rfl rfl hl.1 rfl (Nat.le_of_ble_eq_true rfl) dX1_dropZeros_24 ⟨Nat.le_refl _, Nat.le_refl _⟩ hN hK hP hD hS hA [1, 2] [0] rfl rfl (by decide) (by decide) (by decide) (fun u24 H locs h2 hP hD hS => ?_)
          obtain ⟨f2, rfl⟩ : ∃ z, z = u24 := ⟨_, rfl⟩
          have hP : va_P D vwCl [(d, .inr (1, [.ref w, .int (nI t), .int g9, .int ct])), (w, .inr (6, [.ref wa])), (wa, .inl (cL, 6, .inr (.inl f2)))] H := hP
          have hD : va_D A [(d, .inr (1, [.ref w, .int (nI t), .int g9, .int ct])), (w, .inr (6, [.ref wa])), (wa, .inl (cL, 6, .inr (.inl f2)))] := hD
          have e9 : trm v0 s9 = (v, t) := htr.trans (trm_e (by omega))
          have e8 : t = (trm v0 s9).2 := by rw [e9]
          rw [e8] at hP hD
          exact x_retv (pc := 27) hx hb hr hlk f2 (wR_of h2 (by rw [e9]; omega)) hP hK hD hS dX1_dropZeros_27
  exact L0 _ s9 v0 f _ _ ls (Nat.lt_succ_self _) rfl hf hv hs9 hP hD hS hl
