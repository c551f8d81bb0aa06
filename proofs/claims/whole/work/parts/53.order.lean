abbrev rm_k_order : Room := { frames := 1, cells := 0, slots := 0, locals := 20 }
set_option maxHeartbeats 4000000 in
set_option maxRecDepth 100000 in
theorem k_order (l : Launch) (D : va_G) (cI cL cC cB cZ cR : ClassId) (sz : Nat) (op to a b : Int32)  : Met l yX7_isOrder wsX7_isOrder rm_k_order (xPc D vwCl (tyAll cI cL cC cB cZ cR) [.int op, .int to, .int a, .int b] [] sz) (va_Qi (fun (z : Int32) (_ : Unit) => z = nI (okR op to a b)) (xB D vwCl (tyAll cI cL cC cB cZ cR) (va_A [] sz) (fun u : Unit => [])) (va_A [] sz)) 0 0 (va_A [] sz) := by
  refine x_of (Qc := fun A => va_Qi (fun (z : Int32) (_ : Unit) => z = nI (okR op to a b)) (xB D vwCl (tyAll cI cL cC cB cZ cR) A (fun u : Unit => [])) A) (by decide) rfl (Nat.le_of_ble_eq_true rfl) ?_
  intro p e s m args below meth c A H locs ls hx hb hr hts0 hown hlk hml hnm hP hK hD hN hA hS hl
  have hts : ∀ w ∈ wsA, w.before args s = true := fun w h => hts0 w (List.mem_cons_of_mem _ h)
  have hown : s.vm.findClass "WideDecimalDesk" = some m.cls := hown
  have hl : lv_has ls 4 [(0, .int op), (1, .int to), (2, .int a), (3, .int b)] := hl
  refine lv_iload_n (pc := 0) hx hb dX7_isOrder_0 rfl (lv_at hl 0 rfl) ?_
  refine lv_if_lt (tgt := 34) (pc := 1) hx hb dX7_isOrder_1 (by decide) (fun h1 => ?_) (fun h1 => ?_)
  · refine lv_iconst (v := nI 0) (pc := 34) hx hb dX7_isOrder_34 kI_0 ?_
    exact x_retz (pc := 35) rfl hx hb hr hlk () (congrArg nI (by first | exact (okR_y (inR_y h1 (fun z => h2 ((inR_gt (by decide)).mpr z))) (by omega) (by omega) (by omega)).symm | exact (okR_n (Or.inr (Or.inr (Or.inr h5)))).symm | exact (okR_n (Or.inr (Or.inr (Or.inl h4)))).symm | exact (okR_n (Or.inr (Or.inl h3))).symm | exact (okR_n (Or.inl (inR_n (Or.inr ((inR_gt (by decide)).mp h2))))).symm | exact (okR_n (Or.inl (inR_n (Or.inl h1)))).symm)) hP hK hD hS dX7_isOrder_35
  · refine lv_iload_n (pc := 4) hx hb dX7_isOrder_4 rfl (lv_at hl 0 rfl) ?_
    refine lv_iconst (v := nI 4) (pc := 5) hx hb dX7_isOrder_5 kI_4 ?_
    refine lv_icmp_gt (tgt := 34) (pc := 6) hx hb dX7_isOrder_6 (by decide) (fun h2 => ?_) (fun h2 => ?_)
    · refine lv_iconst (v := nI 0) (pc := 34) hx hb dX7_isOrder_34 kI_0 ?_
      exact x_retz (pc := 35) rfl hx hb hr hlk () (congrArg nI (by first | exact (okR_y (inR_y h1 (fun z => h2 ((inR_gt (by decide)).mpr z))) (by omega) (by omega) (by omega)).symm | exact (okR_n (Or.inr (Or.inr (Or.inr h5)))).symm | exact (okR_n (Or.inr (Or.inr (Or.inl h4)))).symm | exact (okR_n (Or.inr (Or.inl h3))).symm | exact (okR_n (Or.inl (inR_n (Or.inr ((inR_gt (by decide)).mp h2))))).symm | exact (okR_n (Or.inl (inR_n (Or.inl h1)))).symm)) hP hK hD hS dX7_isOrder_35
    · refine lv_iload_n (pc := 9) hx hb dX7_isOrder_9 rfl (lv_at hl 1 rfl) ?_
      refine x_Si (pc := 10) (As := [.int to]) (rest := []) (wr := []) ⟨hx, hb, hml, hown, hts⟩ (k_isReg l D cI cL cC cB cZ cR H.size to ) ⟨callB_of 1 hts (x_good kw_207) rfl rfl rfl (hts _ kw_1) (hts _ kw_205) dc_X7_isRegister ⟨Nat.le_of_ble_eq_true rfl, Nat.le_of_ble_eq_true rfl⟩, hts _ kw_206⟩ rfl hl.1 rfl (Nat.le_of_ble_eq_true rfl) dX7_isOrder_10 ⟨Nat.le_refl _, Nat.le_refl _⟩ hN hK hP hD hS hA [] [] rfl rfl (by decide) (by decide) (by decide) (fun r10 u10 H locs q10 hP hD hS => ?_)
      have hP : va_P D vwCl [] H := hP
      have hD : va_D A [] := hD
      obtain rfl := q10
      have i1 := inR_le 6 to
      refine x_if_eq (tgt := 34) (pc := 13) hx hb (by omega) dX7_isOrder_13 (by decide) (fun h3 => ?_) (fun h3 => ?_)
      · refine lv_iconst (v := nI 0) (pc := 34) hx hb dX7_isOrder_34 kI_0 ?_
        exact x_retz (pc := 35) rfl hx hb hr hlk () (congrArg nI (by first | exact (okR_y (inR_y h1 (fun z => h2 ((inR_gt (by decide)).mpr z))) (by omega) (by omega) (by omega)).symm | exact (okR_n (Or.inr (Or.inr (Or.inr h5)))).symm | exact (okR_n (Or.inr (Or.inr (Or.inl h4)))).symm | exact (okR_n (Or.inr (Or.inl h3))).symm | exact (okR_n (Or.inl (inR_n (Or.inr ((inR_gt (by decide)).mp h2))))).symm | exact (okR_n (Or.inl (inR_n (Or.inl h1)))).symm)) hP hK hD hS dX7_isOrder_35
      · refine lv_iload_n (pc := 16) hx hb dX7_isOrder_16 rfl (lv_at hl 2 rfl) ?_
        refine x_Si (pc := 17) (As := [.int a]) (rest := []) (wr := []) ⟨hx, hb, hml, hown, hts⟩ (k_isReg l D cI cL cC cB cZ cR H.size a ) ⟨callB_of 1 hts (x_good kw_207) rfl rfl rfl (hts _ kw_1) (hts _ kw_205) dc_X7_isRegister ⟨Nat.le_of_ble_eq_true rfl, Nat.le_of_ble_eq_true rfl⟩, hts _ kw_206⟩ rfl hl.1 rfl (Nat.le_of_ble_eq_true rfl) dX7_isOrder_17 ⟨Nat.le_refl _, Nat.le_refl _⟩ hN hK hP hD hS hA [] [] rfl rfl (by decide) (by decide) (by decide) (fun r17 u17 H locs q17 hP hD hS => ?_)
        have hP : va_P D vwCl [] H := hP
        have hD : va_D A [] := hD
        obtain rfl := q17
        have i2 := inR_le 6 a
        refine x_if_eq (tgt := 34) (pc := 20) hx hb (by omega) dX7_isOrder_20 (by decide) (fun h4 => ?_) (fun h4 => ?_)
        · refine lv_iconst (v := nI 0) (pc := 34) hx hb dX7_isOrder_34 kI_0 ?_
          exact x_retz (pc := 35) rfl hx hb hr hlk () (congrArg nI (by first | exact (okR_y (inR_y h1 (fun z => h2 ((inR_gt (by decide)).mpr z))) (by omega) (by omega) (by omega)).symm | exact (okR_n (Or.inr (Or.inr (Or.inr h5)))).symm | exact (okR_n (Or.inr (Or.inr (Or.inl h4)))).symm | exact (okR_n (Or.inr (Or.inl h3))).symm | exact (okR_n (Or.inl (inR_n (Or.inr ((inR_gt (by decide)).mp h2))))).symm | exact (okR_n (Or.inl (inR_n (Or.inl h1)))).symm)) hP hK hD hS dX7_isOrder_35
        · refine lv_iload_n (pc := 23) hx hb dX7_isOrder_23 rfl (lv_at hl 3 rfl) ?_
          refine x_Si (pc := 24) (As := [.int b]) (rest := []) (wr := []) ⟨hx, hb, hml, hown, hts⟩ (k_isReg l D cI cL cC cB cZ cR H.size b ) ⟨callB_of 1 hts (x_good kw_207) rfl rfl rfl (hts _ kw_1) (hts _ kw_205) dc_X7_isRegister ⟨Nat.le_of_ble_eq_true rfl, Nat.le_of_ble_eq_true rfl⟩, hts _ kw_206⟩ rfl hl.1 rfl (Nat.le_of_ble_eq_true rfl) dX7_isOrder_24 ⟨Nat.le_refl _, Nat.le_refl _⟩ hN hK hP hD hS hA [] [] rfl rfl (by decide) (by decide) (by decide) (fun r24 u24 H locs q24 hP hD hS => ?_)
          have hP : va_P D vwCl [] H := hP
          have hD : va_D A [] := hD
          obtain rfl := q24
          have i3 := inR_le 6 b
          refine x_if_eq (tgt := 34) (pc := 27) hx hb (by omega) dX7_isOrder_27 (by decide) (fun h5 => ?_) (fun h5 => ?_)
          · refine lv_iconst (v := nI 0) (pc := 34) hx hb dX7_isOrder_34 kI_0 ?_
            exact x_retz (pc := 35) rfl hx hb hr hlk () (congrArg nI (by first | exact (okR_y (inR_y h1 (fun z => h2 ((inR_gt (by decide)).mpr z))) (by omega) (by omega) (by omega)).symm | exact (okR_n (Or.inr (Or.inr (Or.inr h5)))).symm | exact (okR_n (Or.inr (Or.inr (Or.inl h4)))).symm | exact (okR_n (Or.inr (Or.inl h3))).symm | exact (okR_n (Or.inl (inR_n (Or.inr ((inR_gt (by decide)).mp h2))))).symm | exact (okR_n (Or.inl (inR_n (Or.inl h1)))).symm)) hP hK hD hS dX7_isOrder_35
          · refine lv_iconst (v := nI 1) (pc := 30) hx hb dX7_isOrder_30 kI_1 ?_
            refine lv_goto (tgt := 35) (pc := 31) hx hb dX7_isOrder_31 (by decide) ?_
            exact x_retz (pc := 35) rfl hx hb hr hlk () (congrArg nI (by first | exact (okR_y (inR_y h1 (fun z => h2 ((inR_gt (by decide)).mpr z))) (by omega) (by omega) (by omega)).symm | exact (okR_n (Or.inr (Or.inr (Or.inr h5)))).symm | exact (okR_n (Or.inr (Or.inr (Or.inl h4)))).symm | exact (okR_n (Or.inr (Or.inl h3))).symm | exact (okR_n (Or.inl (inR_n (Or.inr ((inR_gt (by decide)).mp h2))))).symm | exact (okR_n (Or.inl (inR_n (Or.inl h1)))).symm)) hP hK hD hS dX7_isOrder_35
