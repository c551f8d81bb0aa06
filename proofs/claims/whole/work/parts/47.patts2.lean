abbrev rm_t_place : Room := { frames := 0, cells := 0, slots := 0, locals := 0 }
set_option maxHeartbeats 4000000 in
set_option maxRecDepth 100000 in
theorem t_place (l : Launch) (D : va_G) (cI cL cC cB cZ cR : ClassId) (sz : Nat) (c9 : Nat) (hc9 : c9 < 65536) : Met l yX4_isPlace wsX4_isPlace rm_t_place (xPc D vwCl (tyAll cI cL cC cB cZ cR) [.int (nI c9)] [] sz) (va_Qi (fun (z : Int32) (_ : Unit) => z = nI (slotN c9)) (xB D vwCl (tyAll cI cL cC cB cZ cR) (va_A [] sz) (fun u : Unit => [])) (va_A [] sz)) 0 0 (va_A [] sz) := by
  refine x_of (Qc := fun A => va_Qi (fun (z : Int32) (_ : Unit) => z = nI (slotN c9)) (xB D vwCl (tyAll cI cL cC cB cZ cR) A (fun u : Unit => [])) A) (by decide) rfl (Nat.le_of_ble_eq_true rfl) ?_
  intro p e s m args below meth c A H locs ls hx hb hr hts0 hown hlk hml hnm hP hK hD hN hA hS hl
  have hts : ∀ w ∈ wsA, w.before args s = true := fun w h => hts0 w (List.mem_cons_of_mem _ h)
  have hown : s.vm.findClass "WideDecimalDesk$Pattern" = some m.cls := hown
  have hl : lv_has ls 1 [(0, .int (nI c9))] := hl
  refine lv_iload_n (pc := 0) hx hb dX4_isPlace_0 rfl (lv_at hl 0 rfl) ?_
  refine lv_bipush (v := nI 48) (pc := 1) hx hb dX4_isPlace_1 (by decide +kernel) ?_
  refine x_icmp_eq (tgt := 12) (pc := 3) hx hb (by omega) (by omega) dX4_isPlace_3 (by decide) (fun h1 => ?_) (fun h1 => ?_)
  · refine lv_iconst (v := nI 1) (pc := 12) hx hb dX4_isPlace_12 kI_1 ?_
    refine lv_goto (tgt := 17) (pc := 13) hx hb dX4_isPlace_13 (by decide) ?_
    exact x_retz (pc := 17) rfl hx hb hr hlk () (congrArg nI (by have h9 := slotN_sp c9; omega)) hP hK hD hS dX4_isPlace_17
  · refine lv_iload_n (pc := 6) hx hb dX4_isPlace_6 rfl (lv_at hl 0 rfl) ?_
    refine lv_bipush (v := nI 35) (pc := 7) hx hb dX4_isPlace_7 (by decide +kernel) ?_
    refine x_icmp_ne (tgt := 16) (pc := 9) hx hb (by omega) (by omega) dX4_isPlace_9 (by decide) (fun h2 => ?_) (fun h2 => ?_)
    · refine lv_iconst (v := nI 0) (pc := 16) hx hb dX4_isPlace_16 kI_0 ?_
      exact x_retz (pc := 17) rfl hx hb hr hlk () (congrArg nI (by have h9 := slotN_sp c9; omega)) hP hK hD hS dX4_isPlace_17
    · refine lv_iconst (v := nI 1) (pc := 12) hx hb dX4_isPlace_12 kI_1 ?_
      refine lv_goto (tgt := 17) (pc := 13) hx hb dX4_isPlace_13 (by decide) ?_
      exact x_retz (pc := 17) rfl hx hb hr hlk () (congrArg nI (by have h9 := slotN_sp c9; omega)) hP hK hD hS dX4_isPlace_17
abbrev rm_t_front : Room := { frames := 1, cells := 0, slots := 0, locals := 20 }
set_option maxHeartbeats 4000000 in
set_option maxRecDepth 100000 in
theorem t_front (l : Launch) (D : va_G) (cI cL cC cB cZ cR : ClassId) (sz : Nat) (c9 : Nat) (hc9 : c9 < 65536) : Met l yX4_isFrontMark wsX4_isFrontMark rm_t_front (xPc D vwCl (tyAll cI cL cC cB cZ cR) [.int (nI c9)] [] sz) (va_Qi (fun (z : Int32) (_ : Unit) => z = nI (frN c9)) (xB D vwCl (tyAll cI cL cC cB cZ cR) (va_A [] sz) (fun u : Unit => [])) (va_A [] sz)) 0 0 (va_A [] sz) := by
  refine x_of (Qc := fun A => va_Qi (fun (z : Int32) (_ : Unit) => z = nI (frN c9)) (xB D vwCl (tyAll cI cL cC cB cZ cR) A (fun u : Unit => [])) A) (by decide) rfl (Nat.le_of_ble_eq_true rfl) ?_
  intro p e s m args below meth c A H locs ls hx hb hr hts0 hown hlk hml hnm hP hK hD hN hA hS hl
  have hts : ∀ w ∈ wsA, w.before args s = true := fun w h => hts0 w (List.mem_cons_of_mem _ h)
  have hown : s.vm.findClass "WideDecimalDesk$Pattern" = some m.cls := hown
  have hl : lv_has ls 1 [(0, .int (nI c9))] := hl
  refine lv_iload_n (pc := 0) hx hb dX4_isFrontMark_0 rfl (lv_at hl 0 rfl) ?_
  refine x_Si (pc := 1) (As := [.int (nI c9)]) (rest := []) (wr := []) ⟨hx, hb, hml, hown, hts⟩ (t_place l D cI cL cC cB cZ cR H.size c9 hc9) ⟨callB_of 1 hts (x_good kw_667) rfl rfl rfl (hts _ kw_8) (hts _ kw_665) dc_X4_isPlace ⟨Nat.le_of_ble_eq_true rfl, Nat.le_of_ble_eq_true rfl⟩, hts _ kw_666⟩ rfl hl.1 rfl (Nat.le_of_ble_eq_true rfl) dX4_isFrontMark_1 ⟨Nat.le_refl _, Nat.le_refl _⟩ hN hK hP hD hS hA [] [] rfl rfl (by decide) (by decide) (by decide) (fun r1 u1 H locs q1 hP hD hS => ?_)
  have hP : va_P D vwCl [] H := hP
  have hD : va_D A [] := hD
  obtain rfl := q1
  have hs := slotN_sp c9
  refine x_if_ne (tgt := 13) (pc := 4) hx hb (by omega) dX4_isFrontMark_4 (by decide) (fun h1 => ?_) (fun h1 => ?_)
  · refine lv_iconst (v := nI 1) (pc := 13) hx hb dX4_isFrontMark_13 kI_1 ?_
    refine lv_goto (tgt := 18) (pc := 14) hx hb dX4_isFrontMark_14 (by decide) ?_
    exact x_retz (pc := 18) rfl hx hb hr hlk () (congrArg nI (by have h9 := frN_sp c9; omega)) hP hK hD hS dX4_isFrontMark_18
  · refine lv_iload_n (pc := 7) hx hb dX4_isFrontMark_7 rfl (lv_at hl 0 rfl) ?_
    refine lv_bipush (v := nI 44) (pc := 8) hx hb dX4_isFrontMark_8 (by decide +kernel) ?_
    refine x_icmp_ne (tgt := 17) (pc := 10) hx hb (by omega) (by omega) dX4_isFrontMark_10 (by decide) (fun h2 => ?_) (fun h2 => ?_)
    · refine lv_iconst (v := nI 0) (pc := 17) hx hb dX4_isFrontMark_17 kI_0 ?_
      exact x_retz (pc := 18) rfl hx hb hr hlk () (congrArg nI (by have h9 := frN_sp c9; omega)) hP hK hD hS dX4_isFrontMark_18
    · refine lv_iconst (v := nI 1) (pc := 13) hx hb dX4_isFrontMark_13 kI_1 ?_
      refine lv_goto (tgt := 18) (pc := 14) hx hb dX4_isFrontMark_14 (by decide) ?_
      exact x_retz (pc := 18) rfl hx hb hr hlk () (congrArg nI (by have h9 := frN_sp c9; omega)) hP hK hD hS dX4_isFrontMark_18
abbrev rm_p_front : Room := { frames := 2, cells := 0, slots := 0, locals := 40 }
set_option maxHeartbeats 4000000 in
set_option maxRecDepth 100000 in
theorem p_front (l : Launch) (D : va_G) (cI cL cC cB cZ cR : ClassId) (sz : Nat) (t9 x ra nn : Nat) (L : List Nat) (g : Nat → Int32) (h0 f0 g0 b0 l0 p0 : Int32) (hg : oR g L) (hL : L.length ≤ nn) (hn40 : nn ≤ 40) (hch : ∀ y ∈ L, y < 128) : Met l yX4_readFront wsX4_readFront rm_p_front (xPc D vwCl (tyAll cI cL cC cB cZ cR) [.ref t9, .ref x] [(t9, .inr (4, [.int h0, .int f0, .int g0, .int b0, .int l0, .int p0])), (x, .inr (2, [.ref ra, .int (nI L.length)])), (ra, .inl (cC, nn, .inl g))] sz) (va_Qi (fun (z : Int32) (u : (Nat × Nat × Nat)) => z = nI (ptP L) ∧ u.1 = hpN (anyF L (ptP L)) ∧ u.2.1 = fdF L (ptP L) ∧ u.2.2 = gpF L (ptP L)) (xB D vwCl (tyAll cI cL cC cB cZ cR) (va_A [(t9, .inr (4, [.int h0, .int f0, .int g0, .int b0, .int l0, .int p0])), (x, .inr (2, [.ref ra, .int (nI L.length)])), (ra, .inl (cC, nn, .inl g))] sz) (fun u : (Nat × Nat × Nat) => [(t9, .inr (4, [.int (nI u.1), .int (nI u.2.1), .int (nI u.2.2), .int b0, .int l0, .int p0])), (x, .inr (2, [.ref ra, .int (nI L.length)])), (ra, .inl (cC, nn, .inl g))])) (va_A [(t9, .inr (4, [.int h0, .int f0, .int g0, .int b0, .int l0, .int p0])), (x, .inr (2, [.ref ra, .int (nI L.length)])), (ra, .inl (cC, nn, .inl g))] sz)) 0 0 (va_A [(t9, .inr (4, [.int h0, .int f0, .int g0, .int b0, .int l0, .int p0])), (x, .inr (2, [.ref ra, .int (nI L.length)])), (ra, .inl (cC, nn, .inl g))] sz) := by
  refine x_of (Qc := fun A => va_Qi (fun (z : Int32) (u : (Nat × Nat × Nat)) => z = nI (ptP L) ∧ u.1 = hpN (anyF L (ptP L)) ∧ u.2.1 = fdF L (ptP L) ∧ u.2.2 = gpF L (ptP L)) (xB D vwCl (tyAll cI cL cC cB cZ cR) A (fun u : (Nat × Nat × Nat) => [(t9, .inr (4, [.int (nI u.1), .int (nI u.2.1), .int (nI u.2.2), .int b0, .int l0, .int p0])), (x, .inr (2, [.ref ra, .int (nI L.length)])), (ra, .inl (cC, nn, .inl g))])) A) (by decide) rfl (Nat.le_of_ble_eq_true rfl) ?_
  intro p e s m args below meth c A H locs ls hx hb hr hts0 hown hlk hml hnm hP hK hD hN hA hS hl
  have hts : ∀ w ∈ wsA, w.before args s = true := fun w h => hts0 w (List.mem_cons_of_mem _ h)
  have hown : s.vm.findClass "WideDecimalDesk$Pattern" = some m.cls := hown
  have hl : lv_has ls 5 [(0, .ref t9), (1, .ref x)] := hl
  have L19 : ∀ (kk : Nat) (k : Nat) (h9 : Nat) (f9 : Nat) (g9 : Nat) (cb : Nat) (H : Heap) (locs : List Loc) (ls : Array Slot) (hk19 : L.length - k < kk) (hk : k ≤ L.length) (hpp : ptP L = scn frN L k (41 - k)) (hh : h9 = hpN (anyF L k)) (hf9 : f9 = fdF L k) (hg9 : g9 = gpF L k) (hcb : cb = cbF L k) (hP : va_P D vwCl [(t9, .inr (4, [.int (nI h9), .int (nI f9), .int (nI g9), .int b0, .int l0, .int p0])), (x, .inr (2, [.ref ra, .int (nI L.length)])), (ra, .inl (cC, nn, .inl g))] H) (hD : va_D A [(t9, .inr (4, [.int (nI h9), .int (nI f9), .int (nI g9), .int b0, .int l0, .int p0])), (x, .inr (2, [.ref ra, .int (nI L.length)])), (ra, .inl (cC, nn, .inl g))]) (hS : va_S A s.heap H locs) (hl : lv_has ls 5 [(3, .int (nI k)), (2, .int (nI cb)), (0, .ref t9), (1, .ref x)]), W p l e rm_p_front s m args below meth c H locs 0 0 (MQ below (va_Qi (fun (z : Int32) (u : (Nat × Nat × Nat)) => z = nI (ptP L) ∧ u.1 = hpN (anyF L (ptP L)) ∧ u.2.1 = fdF L (ptP L) ∧ u.2.2 = gpF L (ptP L)) (xB D vwCl (tyAll cI cL cC cB cZ cR) A (fun u : (Nat × Nat × Nat) => [(t9, .inr (4, [.int (nI u.1), .int (nI u.2.1), .int (nI u.2.2), .int b0, .int l0, .int p0])), (x, .inr (2, [.ref ra, .int (nI L.length)])), (ra, .inl (cC, nn, .inl g))])) A) args s 0 0 A) (F0 m 19 ls []) := by
    intro kk
    induction kk with
    | zero => intro k h9 f9 g9 cb H locs ls hk; exact absurd hk (Nat.not_lt_zero _)
    | succ kk ih19 =>
      intro k h9 f9 g9 cb H locs ls hk19 hk hpp hh hf9 hg9 hcb hP hD hS hl
      have z_1 := any_st L k
      have z_2 := hpN_sp (anyF L k)
      have z_3 := hpN_sp (anyF L (k + 1))
      have z_4 := fd_st L k
      have z_5 := cb_st L k
      have z_6 := gp_st L k
      have z_7 := fdF_le L k
      have z_8 := cbF_le L k
      have hsl := slotN_sp (L.getD k 0)
      have hfr := frN_sp (L.getD k 0)
      have hck := getD_lt (by decide) hch k
      refine lv_iload_n (pc := 19) hx hb dX4_readFront_19 rfl (lv_at hl 0 rfl) ?_
      refine lv_aload_n (pc := 20) hx hb dX4_readFront_20 rfl (lv_at hl 3 rfl) ?_
      refine va_getN (D := D) (ci := 2) (v := .int (nI L.length)) (C := RX2) (T := TX2) (N := 2) (pc := 21) hx hb hts in_X2 hown hK hP 1 rfl rfl 1 (by decide) (va_Nw.use rfl (hN _ kn_61)) (fun _ h9 => h9) rfl dX4_readFront_21 ?_
      refine x_icmp_ge (tgt := 104) (pc := 24) hx hb (by omega) (by omega) dX4_readFront_24 (by decide) (fun hc => ?_) (fun hc => ?_)
      · refine lv_iload_n (pc := 104) hx hb dX4_readFront_104 rfl (lv_at hl 0 rfl) ?_
        have e9 : k = ptP L := (hpp.trans (scn_e (by omega))).symm
        exact x_reti (pc := 105) hx hb hr hlk (h9, f9, g9) (⟨congrArg nI e9, e9 ▸ hh, e9 ▸ hf9, e9 ▸ hg9⟩) hP hK hD hS dX4_readFront_105
      · refine lv_aload_n (pc := 27) hx hb dX4_readFront_27 rfl (lv_at hl 3 rfl) ?_
        refine lv_iload_n (pc := 28) hx hb dX4_readFront_28 rfl (lv_at hl 0 rfl) ?_
        refine x_Vi (pc := 29) (As := [.int (nI k)]) (rest := []) (b := x) (wr := [(t9, .inr (4, [.int (nI h9), .int (nI f9), .int (nI g9), .int b0, .int l0, .int p0]))]) ⟨hx, hb, hml, hown, hts⟩ (l_at l D cI cL cC cB cZ cR H.size x ra nn L g k hg hL (by omega) hc) ⟨callB_of 1 hts (x_good kw_439) rfl rfl rfl (hts _ kw_3) (hts _ kw_661) dc_X2_codeAt ⟨Nat.le_of_ble_eq_true rfl, Nat.le_of_ble_eq_true rfl⟩, hts _ kw_437, hts _ kw_438⟩ (q0 := 1) rfl rfl rfl rfl hl.1 rfl (Nat.le_of_ble_eq_true rfl) dX4_readFront_29 ⟨Nat.le_refl _, Nat.le_refl _⟩ hN hK hP hD hS hA [1, 2] [0] rfl rfl (by decide) (by decide) (by decide) (fun r29 u29 H locs q29 hP hD hS => ?_)
        have hP : va_P D vwCl [(t9, .inr (4, [.int (nI h9), .int (nI f9), .int (nI g9), .int b0, .int l0, .int p0])), (x, .inr (2, [.ref ra, .int (nI L.length)])), (ra, .inl (cC, nn, .inl g))] H := hP
        have hD : va_D A [(t9, .inr (4, [.int (nI h9), .int (nI f9), .int (nI g9), .int b0, .int l0, .int p0])), (x, .inr (2, [.ref ra, .int (nI L.length)])), (ra, .inl (cC, nn, .inl g))] := hD
        obtain rfl := q29
        refine x_Si (pc := 32) (As := [.int (nI (L.getD k 0))]) (rest := []) (wr := [(t9, .inr (4, [.int (nI h9), .int (nI f9), .int (nI g9), .int b0, .int l0, .int p0])), (x, .inr (2, [.ref ra, .int (nI L.length)])), (ra, .inl (cC, nn, .inl g))]) ⟨hx, hb, hml, hown, hts⟩ (t_front l D cI cL cC cB cZ cR H.size (L.getD k 0) (by omega)) ⟨callB_of 1 hts (x_good kw_664) rfl rfl rfl (hts _ kw_8) (hts _ kw_662) dc_X4_isFrontMark ⟨Nat.le_of_ble_eq_true rfl, Nat.le_of_ble_eq_true rfl⟩, hts _ kw_663⟩ rfl hl.1 rfl (Nat.le_of_ble_eq_true rfl) dX4_readFront_32 ⟨Nat.le_refl _, Nat.le_refl _⟩ hN hK hP hD hS hA [] [0, 1, 2] rfl rfl (by decide) (by decide) (by decide) (fun r32 u32 H locs q32 hP hD hS => ?_)
        have hP : va_P D vwCl [(t9, .inr (4, [.int (nI h9), .int (nI f9), .int (nI g9), .int b0, .int l0, .int p0])), (x, .inr (2, [.ref ra, .int (nI L.length)])), (ra, .inl (cC, nn, .inl g))] H := hP
        have hD : va_D A [(t9, .inr (4, [.int (nI h9), .int (nI f9), .int (nI g9), .int b0, .int l0, .int p0])), (x, .inr (2, [.ref ra, .int (nI L.length)])), (ra, .inl (cC, nn, .inl g))] := hD
        obtain rfl := q32
        refine x_if_eq (tgt := 104) (pc := 35) hx hb (by omega) dX4_readFront_35 (by decide) (fun h4 => ?_) (fun h4 => ?_)
        · refine lv_iload_n (pc := 104) hx hb dX4_readFront_104 rfl (lv_at hl 0 rfl) ?_
          have e9 : k = ptP L := (hpp.trans (scn_e (by omega))).symm
          exact x_reti (pc := 105) hx hb hr hlk (h9, f9, g9) (⟨congrArg nI e9, e9 ▸ hh, e9 ▸ hf9, e9 ▸ hg9⟩) hP hK hD hS dX4_readFront_105
        · refine lv_aload_n (pc := 38) hx hb dX4_readFront_38 rfl (lv_at hl 3 rfl) ?_
          refine lv_iload_n (pc := 39) hx hb dX4_readFront_39 rfl (lv_at hl 0 rfl) ?_
          refine x_Vi (pc := 40) (As := [.int (nI k)]) (rest := []) (b := x) (wr := [(t9, .inr (4, [.int (nI h9), .int (nI f9), .int (nI g9), .int b0, .int l0, .int p0]))]) ⟨hx, hb, hml, hown, hts⟩ (l_at l D cI cL cC cB cZ cR H.size x ra nn L g k hg hL (by omega) hc) ⟨callB_of 1 hts (x_good kw_439) rfl rfl rfl (hts _ kw_3) (hts _ kw_661) dc_X2_codeAt ⟨Nat.le_of_ble_eq_true rfl, Nat.le_of_ble_eq_true rfl⟩, hts _ kw_437, hts _ kw_438⟩ (q0 := 1) rfl rfl rfl rfl hl.1 rfl (Nat.le_of_ble_eq_true rfl) dX4_readFront_40 ⟨Nat.le_refl _, Nat.le_refl _⟩ hN hK hP hD hS hA [1, 2] [0] rfl rfl (by decide) (by decide) (by decide) (fun r40 u40 H locs q40 hP hD hS => ?_)
          have hP : va_P D vwCl [(t9, .inr (4, [.int (nI h9), .int (nI f9), .int (nI g9), .int b0, .int l0, .int p0])), (x, .inr (2, [.ref ra, .int (nI L.length)])), (ra, .inl (cC, nn, .inl g))] H := hP
          have hD : va_D A [(t9, .inr (4, [.int (nI h9), .int (nI f9), .int (nI g9), .int b0, .int l0, .int p0])), (x, .inr (2, [.ref ra, .int (nI L.length)])), (ra, .inl (cC, nn, .inl g))] := hD
          obtain rfl := q40
          refine lv_istore (pc := 43) (lv' := [(4, .int (nI (L.getD k 0))), (3, .int (nI k)), (2, .int (nI cb)), (0, .ref t9), (1, .ref x)]) hx hb dX4_readFront_43 hl (by decide) rfl (fun ls hl => ?_)
          refine lv_iload (pc := 45) hx hb dX4_readFront_45 (lv_at hl 0 rfl) ?_
          refine lv_bipush (v := nI 44) (pc := 47) hx hb dX4_readFront_47 (by decide +kernel) ?_
          refine x_icmp_ne (tgt := 60) (pc := 49) hx hb (by omega) (by omega) dX4_readFront_49 (by decide) (fun h5 => ?_) (fun h5 => ?_)
          · refine lv_aload_n (pc := 60) hx hb dX4_readFront_60 rfl (lv_at hl 3 rfl) ?_
            refine lv_dup (pc := 61) hx hb dX4_readFront_61 rfl ?_
            refine va_get (D := D) (ci := 4) (v := .int (nI f9)) (C := RX4) (T := TX4) (N := 6) (pc := 62) hx hb hts in_X4 hown hK hP 0 rfl rfl 1 (by decide) (hts _ kw_150) (fun _ h9 => h9) rfl dX4_readFront_62 ?_
            refine lv_iload (pc := 65) hx hb dX4_readFront_65 (lv_at hl 0 rfl) ?_
            refine lv_bipush (v := nI 48) (pc := 67) hx hb dX4_readFront_67 (by decide +kernel) ?_
            refine x_icmp_eq (tgt := 79) (pc := 69) hx hb (by omega) (by omega) dX4_readFront_69 (by decide) (fun h6 => ?_) (fun h6 => ?_)
            · refine lv_iconst (v := nI 1) (pc := 79) hx hb dX4_readFront_79 kI_1 ?_
              refine lv_goto (tgt := 84) (pc := 80) hx hb dX4_readFront_80 (by decide) ?_
              refine lv_iadd (pc := 84) hx hb dX4_readFront_84 ?_
              refine x_i (y := nI (f9 + 1)) (nI_add _ _) ?_
              refine va_put (D := D) (ci := 4) (v := .int (nI (f9 + 1))) (ty := .int) (C := RX4) (T := TX4) (N := 6) (pc := 85) hx hb hts in_X4 tyX4 ty_X4 nm_X4 hown hK hP hD hS 0 rfl rfl 1 (by decide) (hts _ kw_150) (fun _ h9 => h9) rfl (by decide +kernel) rfl rfl (Nat.le_of_ble_eq_true rfl) dX4_readFront_85 (fun H locs hP hD hS => ?_)
              have hP : va_P D vwCl [(t9, .inr (4, [.int (nI h9), .int (nI (f9 + 1)), .int (nI g9), .int b0, .int l0, .int p0])), (x, .inr (2, [.ref ra, .int (nI L.length)])), (ra, .inl (cC, nn, .inl g))] H := hP
              have hD : va_D A [(t9, .inr (4, [.int (nI h9), .int (nI (f9 + 1)), .int (nI g9), .int b0, .int l0, .int p0])), (x, .inr (2, [.ref ra, .int (nI L.length)])), (ra, .inl (cC, nn, .inl g))] := hD
              refine lv_aload_n (pc := 88) hx hb dX4_readFront_88 rfl (lv_at hl 3 rfl) ?_
              refine lv_iload_n (pc := 89) hx hb dX4_readFront_89 rfl (lv_at hl 2 rfl) ?_
              refine va_put (D := D) (ci := 4) (v := .int (nI cb)) (ty := .boolean) (C := RX4) (T := TX4) (N := 6) (pc := 90) hx hb hts in_X4 tyX4 ty_X4 nm_X4 hown hK hP hD hS 0 rfl rfl 2 (by decide) (hts _ kw_152) (fun _ h9 => h9) rfl (by decide +kernel) (x_nz (by omega)) (x_fz (by omega)) (Nat.le_of_ble_eq_true rfl) dX4_readFront_90 (fun H locs hP hD hS => ?_)
              have hP : va_P D vwCl [(t9, .inr (4, [.int (nI h9), .int (nI (f9 + 1)), .int (nI cb), .int b0, .int l0, .int p0])), (x, .inr (2, [.ref ra, .int (nI L.length)])), (ra, .inl (cC, nn, .inl g))] H := hP
              have hD : va_D A [(t9, .inr (4, [.int (nI h9), .int (nI (f9 + 1)), .int (nI cb), .int b0, .int l0, .int p0])), (x, .inr (2, [.ref ra, .int (nI L.length)])), (ra, .inl (cC, nn, .inl g))] := hD
              refine lv_aload_n (pc := 93) hx hb dX4_readFront_93 rfl (lv_at hl 3 rfl) ?_
              refine lv_iconst (v := nI 1) (pc := 94) hx hb dX4_readFront_94 kI_1 ?_
              refine va_put (D := D) (ci := 4) (v := .int (nI 1)) (ty := .boolean) (C := RX4) (T := TX4) (N := 6) (pc := 95) hx hb hts in_X4 tyX4 ty_X4 nm_X4 hown hK hP hD hS 0 rfl rfl 0 (by decide) (hts _ kw_149) (fun _ h9 => h9) rfl (by decide +kernel) rfl rfl (Nat.le_of_ble_eq_true rfl) dX4_readFront_95 (fun H locs hP hD hS => ?_)
              have hP : va_P D vwCl [(t9, .inr (4, [.int (nI 1), .int (nI (f9 + 1)), .int (nI cb), .int b0, .int l0, .int p0])), (x, .inr (2, [.ref ra, .int (nI L.length)])), (ra, .inl (cC, nn, .inl g))] H := hP
              have hD : va_D A [(t9, .inr (4, [.int (nI 1), .int (nI (f9 + 1)), .int (nI cb), .int b0, .int l0, .int p0])), (x, .inr (2, [.ref ra, .int (nI L.length)])), (ra, .inl (cC, nn, .inl g))] := hD
              refine lv_iinc (k := 1) (v := nI (k + 1)) (pc := 98) (lv' := [(3, .int (nI (k + 1))), (4, .int (nI (L.getD k 0))), (2, .int (nI cb)), (0, .ref t9), (1, .ref x)]) hx hb dX4_readFront_98 hl rfl (x_inc k) (by decide) rfl (fun ls hl => ?_)
              refine lv_goto (tgt := 19) (pc := 101) hx hb dX4_readFront_101 (by decide) ?_
              have hl := lv_sub (l' := [(3, .int (nI (k + 1))), (2, .int (nI cb)), (0, .ref t9), (1, .ref x)]) hl [0, 2, 3, 4] rfl
              exact ih19 (k + 1) 1 (f9 + 1) cb cb H locs ls (by omega) (by omega) (hpp.trans (scn_s hc (by omega) (by omega))) (by omega) (by omega) (by omega) (by omega) hP hD hS hl
            · refine lv_aload_n (pc := 72) hx hb dX4_readFront_72 rfl (lv_at hl 3 rfl) ?_
              refine va_get (D := D) (ci := 4) (v := .int (nI f9)) (C := RX4) (T := TX4) (N := 6) (pc := 73) hx hb hts in_X4 hown hK hP 0 rfl rfl 1 (by decide) (hts _ kw_150) (fun _ h9 => h9) rfl dX4_readFront_73 ?_
              refine x_if_le (tgt := 83) (pc := 76) hx hb (by omega) dX4_readFront_76 (by decide) (fun h7 => ?_) (fun h7 => ?_)
              · refine lv_iconst (v := nI 0) (pc := 83) hx hb dX4_readFront_83 kI_0 ?_
                refine lv_iadd (pc := 84) hx hb dX4_readFront_84 ?_
                refine x_i (y := nI (f9 + 0)) (nI_add _ _) ?_
                refine va_put (D := D) (ci := 4) (v := .int (nI (f9 + 0))) (ty := .int) (C := RX4) (T := TX4) (N := 6) (pc := 85) hx hb hts in_X4 tyX4 ty_X4 nm_X4 hown hK hP hD hS 0 rfl rfl 1 (by decide) (hts _ kw_150) (fun _ h9 => h9) rfl (by decide +kernel) rfl rfl (Nat.le_of_ble_eq_true rfl) dX4_readFront_85 (fun H locs hP hD hS => ?_)
                have hP : va_P D vwCl [(t9, .inr (4, [.int (nI h9), .int (nI (f9 + 0)), .int (nI g9), .int b0, .int l0, .int p0])), (x, .inr (2, [.ref ra, .int (nI L.length)])), (ra, .inl (cC, nn, .inl g))] H := hP
                have hD : va_D A [(t9, .inr (4, [.int (nI h9), .int (nI (f9 + 0)), .int (nI g9), .int b0, .int l0, .int p0])), (x, .inr (2, [.ref ra, .int (nI L.length)])), (ra, .inl (cC, nn, .inl g))] := hD
                refine lv_aload_n (pc := 88) hx hb dX4_readFront_88 rfl (lv_at hl 3 rfl) ?_
                refine lv_iload_n (pc := 89) hx hb dX4_readFront_89 rfl (lv_at hl 2 rfl) ?_
                refine va_put (D := D) (ci := 4) (v := .int (nI cb)) (ty := .boolean) (C := RX4) (T := TX4) (N := 6) (pc := 90) hx hb hts in_X4 tyX4 ty_X4 nm_X4 hown hK hP hD hS 0 rfl rfl 2 (by decide) (hts _ kw_152) (fun _ h9 => h9) rfl (by decide +kernel) (x_nz (by omega)) (x_fz (by omega)) (Nat.le_of_ble_eq_true rfl) dX4_readFront_90 (fun H locs hP hD hS => ?_)
                have hP : va_P D vwCl [(t9, .inr (4, [.int (nI h9), .int (nI (f9 + 0)), .int (nI cb), .int b0, .int l0, .int p0])), (x, .inr (2, [.ref ra, .int (nI L.length)])), (ra, .inl (cC, nn, .inl g))] H := hP
                have hD : va_D A [(t9, .inr (4, [.int (nI h9), .int (nI (f9 + 0)), .int (nI cb), .int b0, .int l0, .int p0])), (x, .inr (2, [.ref ra, .int (nI L.length)])), (ra, .inl (cC, nn, .inl g))] := hD
                refine lv_aload_n (pc := 93) hx hb dX4_readFront_93 rfl (lv_at hl 3 rfl) ?_
                refine lv_iconst (v := nI 1) (pc := 94) hx hb dX4_readFront_94 kI_1 ?_
                refine va_put (D := D) (ci := 4) (v := .int (nI 1)) (ty := .boolean) (C := RX4) (T := TX4) (N := 6) (pc := 95) hx hb hts in_X4 tyX4 ty_X4 nm_X4 hown hK hP hD hS 0 rfl rfl 0 (by decide) (hts _ kw_149) (fun _ h9 => h9) rfl (by decide +kernel) rfl rfl (Nat.le_of_ble_eq_true rfl) dX4_readFront_95 (fun H locs hP hD hS => ?_)
                have hP : va_P D vwCl [(t9, .inr (4, [.int (nI 1), .int (nI (f9 + 0)), .int (nI cb), .int b0, .int l0, .int p0])), (x, .inr (2, [.ref ra, .int (nI L.length)])), (ra, .inl (cC, nn, .inl g))] H := hP
                have hD : va_D A [(t9, .inr (4, [.int (nI 1), .int (nI (f9 + 0)), .int (nI cb), .int b0, .int l0, .int p0])), (x, .inr (2, [.ref ra, .int (nI L.length)])), (ra, .inl (cC, nn, .inl g))] := hD
                refine lv_iinc (k := 1) (v := nI (k + 1)) (pc := 98) (lv' := [(3, .int (nI (k + 1))), (4, .int (nI (L.getD k 0))), (2, .int (nI cb)), (0, .ref t9), (1, .ref x)]) hx hb dX4_readFront_98 hl rfl (x_inc k) (by decide) rfl (fun ls hl => ?_)
                refine lv_goto (tgt := 19) (pc := 101) hx hb dX4_readFront_101 (by decide) ?_
                have hl := lv_sub (l' := [(3, .int (nI (k + 1))), (2, .int (nI cb)), (0, .ref t9), (1, .ref x)]) hl [0, 2, 3, 4] rfl
                exact ih19 (k + 1) 1 (f9 + 0) cb cb H locs ls (by omega) (by omega) (hpp.trans (scn_s hc (by omega) (by omega))) (by omega) (by omega) (by omega) (by omega) hP hD hS hl
              · refine lv_iconst (v := nI 1) (pc := 79) hx hb dX4_readFront_79 kI_1 ?_
                refine lv_goto (tgt := 84) (pc := 80) hx hb dX4_readFront_80 (by decide) ?_
                refine lv_iadd (pc := 84) hx hb dX4_readFront_84 ?_
                refine x_i (y := nI (f9 + 1)) (nI_add _ _) ?_
                refine va_put (D := D) (ci := 4) (v := .int (nI (f9 + 1))) (ty := .int) (C := RX4) (T := TX4) (N := 6) (pc := 85) hx hb hts in_X4 tyX4 ty_X4 nm_X4 hown hK hP hD hS 0 rfl rfl 1 (by decide) (hts _ kw_150) (fun _ h9 => h9) rfl (by decide +kernel) rfl rfl (Nat.le_of_ble_eq_true rfl) dX4_readFront_85 (fun H locs hP hD hS => ?_)
                have hP : va_P D vwCl [(t9, .inr (4, [.int (nI h9), .int (nI (f9 + 1)), .int (nI g9), .int b0, .int l0, .int p0])), (x, .inr (2, [.ref ra, .int (nI L.length)])), (ra, .inl (cC, nn, .inl g))] H := hP
                have hD : va_D A [(t9, .inr (4, [.int (nI h9), .int (nI (f9 + 1)), .int (nI g9), .int b0, .int l0, .int p0])), (x, .inr (2, [.ref ra, .int (nI L.length)])), (ra, .inl (cC, nn, .inl g))] := hD
                refine lv_aload_n (pc := 88) hx hb dX4_readFront_88 rfl (lv_at hl 3 rfl) ?_
                refine lv_iload_n (pc := 89) hx hb dX4_readFront_89 rfl (lv_at hl 2 rfl) ?_
                refine va_put (D := D) (ci := 4) (v := .int (nI cb)) (ty := .boolean) (C := RX4) (T := TX4) (N := 6) (pc := 90) hx hb hts in_X4 tyX4 ty_X4 nm_X4 hown hK hP hD hS 0 rfl rfl 2 (by decide) (hts _ kw_152) (fun _ h9 => h9) rfl (by decide +kernel) (x_nz (by omega)) (x_fz (by omega)) (Nat.le_of_ble_eq_true rfl) dX4_readFront_90 (fun H locs hP hD hS => ?_)
                have hP : va_P D vwCl [(t9, .inr (4, [.int (nI h9), .int (nI (f9 + 1)), .int (nI cb), .int b0, .int l0, .int p0])), (x, .inr (2, [.ref ra, .int (nI L.length)])), (ra, .inl (cC, nn, .inl g))] H := hP
                have hD : va_D A [(t9, .inr (4, [.int (nI h9), .int (nI (f9 + 1)), .int (nI cb), .int b0, .int l0, .int p0])), (x, .inr (2, [.ref ra, .int (nI L.length)])), (ra, .inl (cC, nn, .inl g))] := hD
                refine lv_aload_n (pc := 93) hx hb dX4_readFront_93 rfl (lv_at hl 3 rfl) ?_
                refine lv_iconst (v := nI 1) (pc := 94) hx hb dX4_readFront_94 kI_1 ?_
                refine va_put (D := D) (ci := 4) (v := .int (nI 1)) (ty := .boolean) (C := RX4) (T := TX4) (N := 6) (pc := 95) hx hb hts in_X4 tyX4 ty_X4 nm_X4 hown hK hP hD hS 0 rfl rfl 0 (by decide) (hts _ kw_149) (fun _ h9 => h9) rfl (by decide +kernel) rfl rfl (Nat.le_of_ble_eq_true rfl) dX4_readFront_95 (fun H locs hP hD hS => ?_)
                have hP : va_P D vwCl [(t9, .inr (4, [.int (nI 1), .int (nI (f9 + 1)), .int (nI cb), .int b0, .int l0, .int p0])), (x, .inr (2, [.ref ra, .int (nI L.length)])), (ra, .inl (cC, nn, .inl g))] H := hP
                have hD : va_D A [(t9, .inr (4, [.int (nI 1), .int (nI (f9 + 1)), .int (nI cb), .int b0, .int l0, .int p0])), (x, .inr (2, [.ref ra, .int (nI L.length)])), (ra, .inl (cC, nn, .inl g))] := hD
                refine lv_iinc (k := 1) (v := nI (k + 1)) (pc := 98) (lv' := [(3, .int (nI (k + 1))), (4, .int (nI (L.getD k 0))), (2, .int (nI cb)), (0, .ref t9), (1, .ref x)]) hx hb dX4_readFront_98 hl rfl (x_inc k) (by decide) rfl (fun ls hl => ?_)
                refine lv_goto (tgt := 19) (pc := 101) hx hb dX4_readFront_101 (by decide) ?_
                have hl := lv_sub (l' := [(3, .int (nI (k + 1))), (2, .int (nI cb)), (0, .ref t9), (1, .ref x)]) hl [0, 2, 3, 4] rfl
                exact ih19 (k + 1) 1 (f9 + 1) cb cb H locs ls (by omega) (by omega) (hpp.trans (scn_s hc (by omega) (by omega))) (by omega) (by omega) (by omega) (by omega) hP hD hS hl
          · refine lv_aload_n (pc := 52) hx hb dX4_readFront_52 rfl (lv_at hl 3 rfl) ?_
            refine va_get (D := D) (ci := 4) (v := .int (nI h9)) (C := RX4) (T := TX4) (N := 6) (pc := 53) hx hb hts in_X4 hown hK hP 0 rfl rfl 0 (by decide) (hts _ kw_149) (fun _ h9 => h9) rfl dX4_readFront_53 ?_
            refine lv_istore_n (pc := 56) (lv' := [(2, .int (nI h9)), (4, .int (nI (L.getD k 0))), (3, .int (nI k)), (0, .ref t9), (1, .ref x)]) hx hb dX4_readFront_56 rfl hl (by decide) rfl (fun ls hl => ?_)
            refine lv_goto (tgt := 98) (pc := 57) hx hb dX4_readFront_57 (by decide) ?_
            refine lv_iinc (k := 2) (v := nI (k + 1)) (pc := 98) (lv' := [(3, .int (nI (k + 1))), (2, .int (nI h9)), (4, .int (nI (L.getD k 0))), (0, .ref t9), (1, .ref x)]) hx hb dX4_readFront_98 hl rfl (x_inc k) (by decide) rfl (fun ls hl => ?_)
            refine lv_goto (tgt := 19) (pc := 101) hx hb dX4_readFront_101 (by decide) ?_
            have hl := lv_sub (l' := [(3, .int (nI (k + 1))), (2, .int (nI h9)), (0, .ref t9), (1, .ref x)]) hl [0, 1, 3, 4] rfl
            exact ih19 (k + 1) h9 f9 g9 h9 H locs ls (by omega) (by omega) (hpp.trans (scn_s hc (by omega) (by omega))) (by omega) (by omega) (by omega) (by omega) hP hD hS hl
  refine lv_aload_n (pc := 0) hx hb dX4_readFront_0 rfl (lv_at hl 0 rfl) ?_
  refine lv_iconst (v := nI 0) (pc := 1) hx hb dX4_readFront_1 kI_0 ?_
  refine va_put (D := D) (ci := 4) (v := .int (nI 0)) (ty := .boolean) (C := RX4) (T := TX4) (N := 6) (pc := 2) hx hb hts in_X4 tyX4 ty_X4 nm_X4 hown hK hP hD hS 0 rfl rfl 0 (by decide) (hts _ kw_149) (fun _ h9 => h9) rfl (by decide +kernel) rfl rfl (Nat.le_of_ble_eq_true rfl) dX4_readFront_2 (fun H locs hP hD hS => ?_)
  have hP : va_P D vwCl [(t9, .inr (4, [.int (nI 0), .int f0, .int g0, .int b0, .int l0, .int p0])), (x, .inr (2, [.ref ra, .int (nI L.length)])), (ra, .inl (cC, nn, .inl g))] H := hP
  have hD : va_D A [(t9, .inr (4, [.int (nI 0), .int f0, .int g0, .int b0, .int l0, .int p0])), (x, .inr (2, [.ref ra, .int (nI L.length)])), (ra, .inl (cC, nn, .inl g))] := hD
  refine lv_aload_n (pc := 5) hx hb dX4_readFront_5 rfl (lv_at hl 0 rfl) ?_
  refine lv_iconst (v := nI 0) (pc := 6) hx hb dX4_readFront_6 kI_0 ?_
  refine va_put (D := D) (ci := 4) (v := .int (nI 0)) (ty := .int) (C := RX4) (T := TX4) (N := 6) (pc := 7) hx hb hts in_X4 tyX4 ty_X4 nm_X4 hown hK hP hD hS 0 rfl rfl 1 (by decide) (hts _ kw_150) (fun _ h9 => h9) rfl (by decide +kernel) rfl rfl (Nat.le_of_ble_eq_true rfl) dX4_readFront_7 (fun H locs hP hD hS => ?_)
  have hP : va_P D vwCl [(t9, .inr (4, [.int (nI 0), .int (nI 0), .int g0, .int b0, .int l0, .int p0])), (x, .inr (2, [.ref ra, .int (nI L.length)])), (ra, .inl (cC, nn, .inl g))] H := hP
  have hD : va_D A [(t9, .inr (4, [.int (nI 0), .int (nI 0), .int g0, .int b0, .int l0, .int p0])), (x, .inr (2, [.ref ra, .int (nI L.length)])), (ra, .inl (cC, nn, .inl g))] := hD
  refine lv_aload_n (pc := 10) hx hb dX4_readFront_10 rfl (lv_at hl 0 rfl) ?_
  refine lv_iconst (v := nI 0) (pc := 11) hx hb dX4_readFront_11 kI_0 ?_
  refine va_put (D := D) (ci := 4) (v := .int (nI 0)) (ty := .boolean) (C := RX4) (T := TX4) (N := 6) (pc := 12) hx hb hts in_X4 tyX4 ty_X4 nm_X4 hown hK hP hD hS 0 rfl rfl 2 (by decide) (hts _ kw_152) (fun _ h9 => h9) rfl (by decide +kernel) rfl rfl (Nat.le_of_ble_eq_true rfl) dX4_readFront_12 (fun H locs hP hD hS => ?_)
  have hP : va_P D vwCl [(t9, .inr (4, [.int (nI 0), .int (nI 0), .int (nI 0), .int b0, .int l0, .int p0])), (x, .inr (2, [.ref ra, .int (nI L.length)])), (ra, .inl (cC, nn, .inl g))] H := hP
  have hD : va_D A [(t9, .inr (4, [.int (nI 0), .int (nI 0), .int (nI 0), .int b0, .int l0, .int p0])), (x, .inr (2, [.ref ra, .int (nI L.length)])), (ra, .inl (cC, nn, .inl g))] := hD
  refine lv_iconst (v := nI 0) (pc := 15) hx hb dX4_readFront_15 kI_0 ?_
  refine lv_istore_n (pc := 16) (lv' := [(2, .int (nI 0)), (0, .ref t9), (1, .ref x)]) hx hb dX4_readFront_16 rfl hl (by decide) rfl (fun ls hl => ?_)
  refine lv_iconst (v := nI 0) (pc := 17) hx hb dX4_readFront_17 kI_0 ?_
  refine lv_istore_n (pc := 18) (lv' := [(3, .int (nI 0)), (2, .int (nI 0)), (0, .ref t9), (1, .ref x)]) hx hb dX4_readFront_18 rfl hl (by decide) rfl (fun ls hl => ?_)
  exact L19 _ 0 0 0 0 0 _ _ ls (Nat.lt_succ_self _) (by omega) rfl rfl rfl rfl rfl hP hD hS hl
abbrev rm_p_back : Room := { frames := 1, cells := 0, slots := 0, locals := 21 }
set_option maxHeartbeats 4000000 in
set_option maxRecDepth 100000 in
theorem p_back (l : Launch) (D : va_G) (cI cL cC cB cZ cR : ClassId) (sz : Nat) (t9 x ra nn : Nat) (L : List Nat) (g : Nat → Int32) (h0 f0 g0 b0 l0 p0 : Int32) (hg : oR g L) (hL : L.length ≤ nn) (hn40 : nn ≤ 40) (hch : ∀ y ∈ L, y < 128) : Met l yX4_readBack wsX4_readBack rm_p_back (xPc D vwCl (tyAll cI cL cC cB cZ cR) [.ref t9, .ref x, .int (nI (ptP L))] [(t9, .inr (4, [.int h0, .int f0, .int g0, .int b0, .int l0, .int p0])), (x, .inr (2, [.ref ra, .int (nI L.length)])), (ra, .inl (cC, nn, .inl g))] sz) (va_Qi (fun (z : Int32) (u : (Nat × Nat)) => z = nI (ptE L) ∧ u.1 = ptK L ∧ u.2 = kpF L (ptB L) (ptK L)) (xB D vwCl (tyAll cI cL cC cB cZ cR) (va_A [(t9, .inr (4, [.int h0, .int f0, .int g0, .int b0, .int l0, .int p0])), (x, .inr (2, [.ref ra, .int (nI L.length)])), (ra, .inl (cC, nn, .inl g))] sz) (fun u : (Nat × Nat) => [(t9, .inr (4, [.int h0, .int f0, .int g0, .int (nI u.1), .int (nI u.2), .int p0])), (x, .inr (2, [.ref ra, .int (nI L.length)])), (ra, .inl (cC, nn, .inl g))])) (va_A [(t9, .inr (4, [.int h0, .int f0, .int g0, .int b0, .int l0, .int p0])), (x, .inr (2, [.ref ra, .int (nI L.length)])), (ra, .inl (cC, nn, .inl g))] sz)) 0 0 (va_A [(t9, .inr (4, [.int h0, .int f0, .int g0, .int b0, .int l0, .int p0])), (x, .inr (2, [.ref ra, .int (nI L.length)])), (ra, .inl (cC, nn, .inl g))] sz) := by
  refine x_of (Qc := fun A => va_Qi (fun (z : Int32) (u : (Nat × Nat)) => z = nI (ptE L) ∧ u.1 = ptK L ∧ u.2 = kpF L (ptB L) (ptK L)) (xB D vwCl (tyAll cI cL cC cB cZ cR) A (fun u : (Nat × Nat) => [(t9, .inr (4, [.int h0, .int f0, .int g0, .int (nI u.1), .int (nI u.2), .int p0])), (x, .inr (2, [.ref ra, .int (nI L.length)])), (ra, .inl (cC, nn, .inl g))])) A) (by decide) rfl (Nat.le_of_ble_eq_true rfl) ?_
  intro p e s m args below meth c A H locs ls hx hb hr hts0 hown hlk hml hnm hP hK hD hN hA hS hl
  have hts : ∀ w ∈ wsA, w.before args s = true := fun w h => hts0 w (List.mem_cons_of_mem _ h)
  have hown : s.vm.findClass "WideDecimalDesk$Pattern" = some m.cls := hown
  have hl : lv_has ls 4 [(0, .ref t9), (1, .ref x), (2, .int (nI (ptP L)))] := hl
  have L26 : ∀ (kk : Nat) (j : Nat) (l9 : Nat) (H : Heap) (locs : List Loc) (ls : Array Slot) (hk26 : L.length - (ptB L + j) < kk) (hj : ptB L + j ≤ L.length) (he : ptE L = scn slotN L (ptB L + j) (41 - j)) (hl9 : l9 = kpF L (ptB L) j) (h46 : txF L (ptP L) = 46) (hP : va_P D vwCl [(t9, .inr (4, [.int h0, .int f0, .int g0, .int (nI j), .int (nI l9), .int p0])), (x, .inr (2, [.ref ra, .int (nI L.length)])), (ra, .inl (cC, nn, .inl g))] H) (hD : va_D A [(t9, .inr (4, [.int h0, .int f0, .int g0, .int (nI j), .int (nI l9), .int p0])), (x, .inr (2, [.ref ra, .int (nI L.length)])), (ra, .inl (cC, nn, .inl g))]) (hS : va_S A s.heap H locs) (hl : lv_has ls 4 [(3, .int (nI (ptB L + j))), (2, .int (nI (ptP L))), (0, .ref t9), (1, .ref x)]), W p l e rm_p_back s m args below meth c H locs 0 0 (MQ below (va_Qi (fun (z : Int32) (u : (Nat × Nat)) => z = nI (ptE L) ∧ u.1 = ptK L ∧ u.2 = kpF L (ptB L) (ptK L)) (xB D vwCl (tyAll cI cL cC cB cZ cR) A (fun u : (Nat × Nat) => [(t9, .inr (4, [.int h0, .int f0, .int g0, .int (nI u.1), .int (nI u.2), .int p0])), (x, .inr (2, [.ref ra, .int (nI L.length)])), (ra, .inl (cC, nn, .inl g))])) A) args s 0 0 A) (F0 m 26 ls []) := by
    intro kk
    induction kk with
    | zero => intro j l9 H locs ls hk; exact absurd hk (Nat.not_lt_zero _)
    | succ kk ih26 =>
      intro j l9 H locs ls hk26 hj he hl9 h46 hP hD hS hl
      have hck := getD_lt (by decide) hch (ptB L + j)
      have hsl := slotN_sp (L.getD (ptB L + j) 0)
      refine lv_iload_n (pc := 26) hx hb dX4_readBack_26 rfl (lv_at hl 0 rfl) ?_
      refine lv_aload_n (pc := 27) hx hb dX4_readBack_27 rfl (lv_at hl 3 rfl) ?_
      refine va_getN (D := D) (ci := 2) (v := .int (nI L.length)) (C := RX2) (T := TX2) (N := 2) (pc := 28) hx hb hts in_X2 hown hK hP 1 rfl rfl 1 (by decide) (va_Nw.use rfl (hN _ kn_61)) (fun _ h9 => h9) rfl dX4_readBack_28 ?_
      refine x_icmp_ge (tgt := 79) (pc := 31) hx hb (by omega) (by omega) dX4_readBack_31 (by decide) (fun hc => ?_) (fun hc => ?_)
      · refine lv_iload_n (pc := 79) hx hb dX4_readBack_79 rfl (lv_at hl 0 rfl) ?_
        have e9 : ptB L + j = ptE L := (he.trans (scn_e (by omega))).symm
        have e8 : j = ptK L := by have := ptK_y h46; omega
        exact x_reti (pc := 80) hx hb hr hlk (j, l9) (⟨congrArg nI e9, e8, e8 ▸ hl9⟩) hP hK hD hS dX4_readBack_80
      · refine lv_aload_n (pc := 34) hx hb dX4_readBack_34 rfl (lv_at hl 3 rfl) ?_
        refine lv_iload_n (pc := 35) hx hb dX4_readBack_35 rfl (lv_at hl 0 rfl) ?_
        refine x_Vi (pc := 36) (As := [.int (nI (ptB L + j))]) (rest := []) (b := x) (wr := [(t9, .inr (4, [.int h0, .int f0, .int g0, .int (nI j), .int (nI l9), .int p0]))]) ⟨hx, hb, hml, hown, hts⟩ (l_at l D cI cL cC cB cZ cR H.size x ra nn L g (ptB L + j) hg hL (by omega) hc) ⟨callB_of 1 hts (x_good kw_439) rfl rfl rfl (hts _ kw_3) (hts _ kw_661) dc_X2_codeAt ⟨Nat.le_of_ble_eq_true rfl, Nat.le_of_ble_eq_true rfl⟩, hts _ kw_437, hts _ kw_438⟩ (q0 := 1) rfl rfl rfl rfl hl.1 rfl (Nat.le_of_ble_eq_true rfl) dX4_readBack_36 ⟨Nat.le_refl _, Nat.le_refl _⟩ hN hK hP hD hS hA [1, 2] [0] rfl rfl (by decide) (by decide) (by decide) (fun r36 u36 H locs q36 hP hD hS => ?_)
        have hP : va_P D vwCl [(t9, .inr (4, [.int h0, .int f0, .int g0, .int (nI j), .int (nI l9), .int p0])), (x, .inr (2, [.ref ra, .int (nI L.length)])), (ra, .inl (cC, nn, .inl g))] H := hP
        have hD : va_D A [(t9, .inr (4, [.int h0, .int f0, .int g0, .int (nI j), .int (nI l9), .int p0])), (x, .inr (2, [.ref ra, .int (nI L.length)])), (ra, .inl (cC, nn, .inl g))] := hD
        obtain rfl := q36
        refine x_Si (pc := 39) (As := [.int (nI (L.getD (ptB L + j) 0))]) (rest := []) (wr := [(t9, .inr (4, [.int h0, .int f0, .int g0, .int (nI j), .int (nI l9), .int p0])), (x, .inr (2, [.ref ra, .int (nI L.length)])), (ra, .inl (cC, nn, .inl g))]) ⟨hx, hb, hml, hown, hts⟩ (t_place l D cI cL cC cB cZ cR H.size (L.getD (ptB L + j) 0) (by omega)) ⟨callB_of 1 hts (x_good kw_667) rfl rfl rfl (hts _ kw_8) (hts _ kw_665) dc_X4_isPlace ⟨Nat.le_of_ble_eq_true rfl, Nat.le_of_ble_eq_true rfl⟩, hts _ kw_666⟩ rfl hl.1 rfl (Nat.le_of_ble_eq_true rfl) dX4_readBack_39 ⟨Nat.le_refl _, Nat.le_refl _⟩ hN hK hP hD hS hA [] [0, 1, 2] rfl rfl (by decide) (by decide) (by decide) (fun r39 u39 H locs q39 hP hD hS => ?_)
        have hP : va_P D vwCl [(t9, .inr (4, [.int h0, .int f0, .int g0, .int (nI j), .int (nI l9), .int p0])), (x, .inr (2, [.ref ra, .int (nI L.length)])), (ra, .inl (cC, nn, .inl g))] H := hP
        have hD : va_D A [(t9, .inr (4, [.int h0, .int f0, .int g0, .int (nI j), .int (nI l9), .int p0])), (x, .inr (2, [.ref ra, .int (nI L.length)])), (ra, .inl (cC, nn, .inl g))] := hD
        obtain rfl := q39
        refine x_if_eq (tgt := 79) (pc := 42) hx hb (by omega) dX4_readBack_42 (by decide) (fun h4 => ?_) (fun h4 => ?_)
        · refine lv_iload_n (pc := 79) hx hb dX4_readBack_79 rfl (lv_at hl 0 rfl) ?_
          have e9 : ptB L + j = ptE L := (he.trans (scn_e (by omega))).symm
          have e8 : j = ptK L := by have := ptK_y h46; omega
          exact x_reti (pc := 80) hx hb hr hlk (j, l9) (⟨congrArg nI e9, e8, e8 ▸ hl9⟩) hP hK hD hS dX4_readBack_80
        · refine lv_aload_n (pc := 45) hx hb dX4_readBack_45 rfl (lv_at hl 2 rfl) ?_
          refine lv_dup (pc := 46) hx hb dX4_readBack_46 rfl ?_
          refine va_get (D := D) (ci := 4) (v := .int (nI j)) (C := RX4) (T := TX4) (N := 6) (pc := 47) hx hb hts in_X4 hown hK hP 0 rfl rfl 3 (by decide) (hts _ kw_154) (fun _ h9 => h9) rfl dX4_readBack_47 ?_
          refine lv_iconst (v := nI 1) (pc := 50) hx hb dX4_readBack_50 kI_1 ?_
          refine lv_iadd (pc := 51) hx hb dX4_readBack_51 ?_
          refine x_i (y := nI (j + 1)) (nI_add _ _) ?_
          refine va_put (D := D) (ci := 4) (v := .int (nI (j + 1))) (ty := .int) (C := RX4) (T := TX4) (N := 6) (pc := 52) hx hb hts in_X4 tyX4 ty_X4 nm_X4 hown hK hP hD hS 0 rfl rfl 3 (by decide) (hts _ kw_154) (fun _ h9 => h9) rfl (by decide +kernel) rfl rfl (Nat.le_of_ble_eq_true rfl) dX4_readBack_52 (fun H locs hP hD hS => ?_)
          have hP : va_P D vwCl [(t9, .inr (4, [.int h0, .int f0, .int g0, .int (nI (j + 1)), .int (nI l9), .int p0])), (x, .inr (2, [.ref ra, .int (nI L.length)])), (ra, .inl (cC, nn, .inl g))] H := hP
          have hD : va_D A [(t9, .inr (4, [.int h0, .int f0, .int g0, .int (nI (j + 1)), .int (nI l9), .int p0])), (x, .inr (2, [.ref ra, .int (nI L.length)])), (ra, .inl (cC, nn, .inl g))] := hD
          refine lv_aload_n (pc := 55) hx hb dX4_readBack_55 rfl (lv_at hl 3 rfl) ?_
          refine lv_iload_n (pc := 56) hx hb dX4_readBack_56 rfl (lv_at hl 0 rfl) ?_
          refine x_Vi (pc := 57) (As := [.int (nI (ptB L + j))]) (rest := []) (b := x) (wr := [(t9, .inr (4, [.int h0, .int f0, .int g0, .int (nI (j + 1)), .int (nI l9), .int p0]))]) ⟨hx, hb, hml, hown, hts⟩ (l_at l D cI cL cC cB cZ cR H.size x ra nn L g (ptB L + j) hg hL (by omega) hc) ⟨callB_of 1 hts (x_good kw_439) rfl rfl rfl (hts _ kw_3) (hts _ kw_661) dc_X2_codeAt ⟨Nat.le_of_ble_eq_true rfl, Nat.le_of_ble_eq_true rfl⟩, hts _ kw_437, hts _ kw_438⟩ (q0 := 1) rfl rfl rfl rfl hl.1 rfl (Nat.le_of_ble_eq_true rfl) dX4_readBack_57 ⟨Nat.le_refl _, Nat.le_refl _⟩ hN hK hP hD hS hA [1, 2] [0] rfl rfl (by decide) (by decide) (by decide) (fun r57 u57 H locs q57 hP hD hS => ?_)
          have hP : va_P D vwCl [(t9, .inr (4, [.int h0, .int f0, .int g0, .int (nI (j + 1)), .int (nI l9), .int p0])), (x, .inr (2, [.ref ra, .int (nI L.length)])), (ra, .inl (cC, nn, .inl g))] H := hP
          have hD : va_D A [(t9, .inr (4, [.int h0, .int f0, .int g0, .int (nI (j + 1)), .int (nI l9), .int p0])), (x, .inr (2, [.ref ra, .int (nI L.length)])), (ra, .inl (cC, nn, .inl g))] := hD
          obtain rfl := q57
          refine lv_bipush (v := nI 48) (pc := 60) hx hb dX4_readBack_60 (by decide +kernel) ?_
          refine x_icmp_ne (tgt := 73) (pc := 62) hx hb (by omega) (by omega) dX4_readBack_62 (by decide) (fun h5 => ?_) (fun h5 => ?_)
          · refine lv_iinc (k := 0) (v := nI (ptB L + j + 1)) (pc := 73) (lv' := [(3, .int (nI (ptB L + j + 1))), (2, .int (nI (ptP L))), (0, .ref t9), (1, .ref x)]) hx hb dX4_readBack_73 hl rfl (x_inc (ptB L + j)) (by decide) rfl (fun ls hl => ?_)
            refine lv_goto (tgt := 26) (pc := 76) hx hb dX4_readBack_76 (by decide) ?_
            exact ih26 (j + 1) l9 H locs ls (by omega) (by omega) (he.trans (scn_s hc (by omega) (by omega))) (by first | exact kpF_y h5 | exact hl9.trans (kpF_n h5)) h46 hP hD hS hl
          · refine lv_aload_n (pc := 65) hx hb dX4_readBack_65 rfl (lv_at hl 2 rfl) ?_
            refine lv_aload_n (pc := 66) hx hb dX4_readBack_66 rfl (lv_at hl 2 rfl) ?_
            refine va_get (D := D) (ci := 4) (v := .int (nI (j + 1))) (C := RX4) (T := TX4) (N := 6) (pc := 67) hx hb hts in_X4 hown hK hP 0 rfl rfl 3 (by decide) (hts _ kw_154) (fun _ h9 => h9) rfl dX4_readBack_67 ?_
            refine va_put (D := D) (ci := 4) (v := .int (nI (j + 1))) (ty := .int) (C := RX4) (T := TX4) (N := 6) (pc := 70) hx hb hts in_X4 tyX4 ty_X4 nm_X4 hown hK hP hD hS 0 rfl rfl 4 (by decide) (hts _ kw_156) (fun _ h9 => h9) rfl (by decide +kernel) rfl rfl (Nat.le_of_ble_eq_true rfl) dX4_readBack_70 (fun H locs hP hD hS => ?_)
            have hP : va_P D vwCl [(t9, .inr (4, [.int h0, .int f0, .int g0, .int (nI (j + 1)), .int (nI (j + 1)), .int p0])), (x, .inr (2, [.ref ra, .int (nI L.length)])), (ra, .inl (cC, nn, .inl g))] H := hP
            have hD : va_D A [(t9, .inr (4, [.int h0, .int f0, .int g0, .int (nI (j + 1)), .int (nI (j + 1)), .int p0])), (x, .inr (2, [.ref ra, .int (nI L.length)])), (ra, .inl (cC, nn, .inl g))] := hD
            refine lv_iinc (k := 0) (v := nI (ptB L + j + 1)) (pc := 73) (lv' := [(3, .int (nI (ptB L + j + 1))), (2, .int (nI (ptP L))), (0, .ref t9), (1, .ref x)]) hx hb dX4_readBack_73 hl rfl (x_inc (ptB L + j)) (by decide) rfl (fun ls hl => ?_)
            refine lv_goto (tgt := 26) (pc := 76) hx hb dX4_readBack_76 (by decide) ?_
            exact ih26 (j + 1) (j + 1) H locs ls (by omega) (by omega) (he.trans (scn_s hc (by omega) (by omega))) (by first | exact kpF_y h5 | exact hl9.trans (kpF_n h5)) h46 hP hD hS hl
  refine lv_aload_n (pc := 0) hx hb dX4_readBack_0 rfl (lv_at hl 0 rfl) ?_
  refine lv_iconst (v := nI 0) (pc := 1) hx hb dX4_readBack_1 kI_0 ?_
  refine va_put (D := D) (ci := 4) (v := .int (nI 0)) (ty := .int) (C := RX4) (T := TX4) (N := 6) (pc := 2) hx hb hts in_X4 tyX4 ty_X4 nm_X4 hown hK hP hD hS 0 rfl rfl 3 (by decide) (hts _ kw_154) (fun _ h9 => h9) rfl (by decide +kernel) rfl rfl (Nat.le_of_ble_eq_true rfl) dX4_readBack_2 (fun H locs hP hD hS => ?_)
  have hP : va_P D vwCl [(t9, .inr (4, [.int h0, .int f0, .int g0, .int (nI 0), .int l0, .int p0])), (x, .inr (2, [.ref ra, .int (nI L.length)])), (ra, .inl (cC, nn, .inl g))] H := hP
  have hD : va_D A [(t9, .inr (4, [.int h0, .int f0, .int g0, .int (nI 0), .int l0, .int p0])), (x, .inr (2, [.ref ra, .int (nI L.length)])), (ra, .inl (cC, nn, .inl g))] := hD
  refine lv_aload_n (pc := 5) hx hb dX4_readBack_5 rfl (lv_at hl 0 rfl) ?_
  refine lv_iconst (v := nI 0) (pc := 6) hx hb dX4_readBack_6 kI_0 ?_
  refine va_put (D := D) (ci := 4) (v := .int (nI 0)) (ty := .int) (C := RX4) (T := TX4) (N := 6) (pc := 7) hx hb hts in_X4 tyX4 ty_X4 nm_X4 hown hK hP hD hS 0 rfl rfl 4 (by decide) (hts _ kw_156) (fun _ h9 => h9) rfl (by decide +kernel) rfl rfl (Nat.le_of_ble_eq_true rfl) dX4_readBack_7 (fun H locs hP hD hS => ?_)
  have hP : va_P D vwCl [(t9, .inr (4, [.int h0, .int f0, .int g0, .int (nI 0), .int (nI 0), .int p0])), (x, .inr (2, [.ref ra, .int (nI L.length)])), (ra, .inl (cC, nn, .inl g))] H := hP
  have hD : va_D A [(t9, .inr (4, [.int h0, .int f0, .int g0, .int (nI 0), .int (nI 0), .int p0])), (x, .inr (2, [.ref ra, .int (nI L.length)])), (ra, .inl (cC, nn, .inl g))] := hD
  refine lv_aload_n (pc := 10) hx hb dX4_readBack_10 rfl (lv_at hl 1 rfl) ?_
  refine lv_iload_n (pc := 11) hx hb dX4_readBack_11 rfl (lv_at hl 2 rfl) ?_
  have l1 := ptP_le L
  refine x_Vi (pc := 12) (As := [.int (nI (ptP L))]) (rest := []) (b := x) (wr := [(t9, .inr (4, [.int h0, .int f0, .int g0, .int (nI 0), .int (nI 0), .int p0]))]) ⟨hx, hb, hml, hown, hts⟩ (l_cd l D cI cL cC cB cZ cR H.size x ra nn L g (ptP L) hg hL (by omega) (by omega)) ⟨callB_of 1 hts (x_good kw_439) rfl rfl rfl (hts _ kw_3) (hts _ kw_661) dc_X2_codeAt ⟨Nat.le_of_ble_eq_true rfl, Nat.le_of_ble_eq_true rfl⟩, hts _ kw_437, hts _ kw_438⟩ (q0 := 1) rfl rfl rfl rfl hl.1 rfl (Nat.le_of_ble_eq_true rfl) dX4_readBack_12 ⟨Nat.le_refl _, Nat.le_refl _⟩ hN hK hP hD hS hA [1, 2] [0] rfl rfl (by decide) (by decide) (by decide) (fun r12 u12 H locs q12 hP hD hS => ?_)
  have hP : va_P D vwCl [(t9, .inr (4, [.int h0, .int f0, .int g0, .int (nI 0), .int (nI 0), .int p0])), (x, .inr (2, [.ref ra, .int (nI L.length)])), (ra, .inl (cC, nn, .inl g))] H := hP
  have hD : va_D A [(t9, .inr (4, [.int h0, .int f0, .int g0, .int (nI 0), .int (nI 0), .int p0])), (x, .inr (2, [.ref ra, .int (nI L.length)])), (ra, .inl (cC, nn, .inl g))] := hD
  obtain rfl := q12
  refine lv_bipush (v := nI 46) (pc := 15) hx hb dX4_readBack_15 (by decide +kernel) ?_
  refine lv_icmp_eq (tgt := 22) (pc := 17) hx hb dX4_readBack_17 (by decide) (fun k0 => ?_) (fun k0 => ?_)
  · have e0 := (cdI_eq (by decide) hch).mp k0
    have eB := ptB_y e0.1 e0.2
    have e46 : txF L (ptP L) = 46 := (txF_y e0.1) ▸ e0.2
    refine lv_iload_n (pc := 22) hx hb dX4_readBack_22 rfl (lv_at hl 2 rfl) ?_
    refine lv_iconst (v := nI 1) (pc := 23) hx hb dX4_readBack_23 kI_1 ?_
    refine lv_iadd (pc := 24) hx hb dX4_readBack_24 ?_
    refine x_i (y := nI (ptB L + 0)) ((nI_add _ _).trans (congrArg nI eB)) ?_
    refine lv_istore_n (pc := 25) (lv' := [(3, .int (nI (ptB L + 0))), (0, .ref t9), (1, .ref x), (2, .int (nI (ptP L)))]) hx hb dX4_readBack_25 rfl hl (by decide) rfl (fun ls hl => ?_)
    have hl := lv_sub (l' := [(3, .int (nI (ptB L + 0))), (2, .int (nI (ptP L))), (0, .ref t9), (1, .ref x)]) hl [0, 3, 1, 2] rfl
    exact L26 _ 0 0 _ _ ls (Nat.lt_succ_self _) (ptB_le L) rfl rfl e46 hP hD hS hl
  · have e0 := fun z => k0 ((cdI_eq (by decide) hch).mpr z)
    have eK := ptK_n (ptX_n e0)
    refine lv_iload_n (pc := 20) hx hb dX4_readBack_20 rfl (lv_at hl 2 rfl) ?_
    exact x_reti (pc := 21) hx hb hr hlk (0, 0) (⟨congrArg nI (ptE_n (by omega) e0), eK, by rw [← eK]; rfl⟩) hP hK hD hS dX4_readBack_21
abbrev rm_p_read : Room := { frames := 3, cells := 0, slots := 0, locals := 64 }
set_option maxHeartbeats 4000000 in
set_option maxRecDepth 100000 in
theorem p_read (l : Launch) (D : va_G) (cI cL cC cB cZ cR : ClassId) (sz : Nat) (t9 x ra nn : Nat) (L : List Nat) (g : Nat → Int32) (h0 f0 g0 b0 l0 p0 : Int32) (hg : oR g L) (hL : L.length ≤ nn) (hn40 : nn ≤ 40) (hch : ∀ y ∈ L, y < 128) : Met l yX4_read wsX4_read rm_p_read (xPc D vwCl (tyAll cI cL cC cB cZ cR) [.ref t9, .ref x] [(t9, .inr (4, [.int h0, .int f0, .int g0, .int b0, .int l0, .int p0])), (x, .inr (2, [.ref ra, .int (nI L.length)])), (ra, .inl (cC, nn, .inl g))] sz) (va_Qi (fun (z : Int32) (_ : Unit) => z = nI (ptO L)) (xB D vwCl (tyAll cI cL cC cB cZ cR) (va_A [(t9, .inr (4, [.int h0, .int f0, .int g0, .int b0, .int l0, .int p0])), (x, .inr (2, [.ref ra, .int (nI L.length)])), (ra, .inl (cC, nn, .inl g))] sz) (fun u : Unit => [(t9, .inr (4, [.int (nI (hpN (anyF L (ptP L)))), .int (nI (fdF L (ptP L))), .int (nI (gpF L (ptP L))), .int (nI (ptK L)), .int (nI (kpF L (ptB L) (ptK L))), .int (nI (ptC L))])), (x, .inr (2, [.ref ra, .int (nI L.length)])), (ra, .inl (cC, nn, .inl g))])) (va_A [(t9, .inr (4, [.int h0, .int f0, .int g0, .int b0, .int l0, .int p0])), (x, .inr (2, [.ref ra, .int (nI L.length)])), (ra, .inl (cC, nn, .inl g))] sz)) 0 0 (va_A [(t9, .inr (4, [.int h0, .int f0, .int g0, .int b0, .int l0, .int p0])), (x, .inr (2, [.ref ra, .int (nI L.length)])), (ra, .inl (cC, nn, .inl g))] sz) := by
  refine x_of (Qc := fun A => va_Qi (fun (z : Int32) (_ : Unit) => z = nI (ptO L)) (xB D vwCl (tyAll cI cL cC cB cZ cR) A (fun u : Unit => [(t9, .inr (4, [.int (nI (hpN (anyF L (ptP L)))), .int (nI (fdF L (ptP L))), .int (nI (gpF L (ptP L))), .int (nI (ptK L)), .int (nI (kpF L (ptB L) (ptK L))), .int (nI (ptC L))])), (x, .inr (2, [.ref ra, .int (nI L.length)])), (ra, .inl (cC, nn, .inl g))])) A) (by decide) rfl (Nat.le_of_ble_eq_true rfl) ?_
  intro p e s m args below meth c A H locs ls hx hb hr hts0 hown hlk hml hnm hP hK hD hN hA hS hl
  have hts : ∀ w ∈ wsA, w.before args s = true := fun w h => hts0 w (List.mem_cons_of_mem _ h)
  have hown : s.vm.findClass "WideDecimalDesk$Pattern" = some m.cls := hown
  have hl : lv_has ls 5 [(0, .ref t9), (1, .ref x)] := hl
  refine lv_aload_n (pc := 0) hx hb dX4_read_0 rfl (lv_at hl 0 rfl) ?_
  refine lv_aload_n (pc := 1) hx hb dX4_read_1 rfl (lv_at hl 1 rfl) ?_
  refine x_Vi (pc := 2) (As := [.ref x]) (rest := []) (b := t9) (wr := []) ⟨hx, hb, hml, hown, hts⟩ (p_front l D cI cL cC cB cZ cR H.size t9 x ra nn L g h0 f0 g0 b0 l0 p0 hg hL hn40 hch) ⟨callB_of 1 hts (x_good kw_660) rfl rfl rfl (hts _ kw_8) (hts _ kw_657) dc_X4_readFront ⟨Nat.le_of_ble_eq_true rfl, Nat.le_of_ble_eq_true rfl⟩, hts _ kw_659, hts _ kp_16⟩ (q0 := 0) rfl rfl rfl rfl hl.1 rfl (Nat.le_of_ble_eq_true rfl) dX4_read_2 ⟨Nat.le_refl _, Nat.le_refl _⟩ hN hK hP hD hS hA [0, 1, 2] [] rfl rfl (by decide) (by decide) (by decide) (fun r2 u2 H locs q2 hP hD hS => ?_)
  obtain ⟨h9, f9, g9⟩ := u2
  have hP : va_P D vwCl [(t9, .inr (4, [.int (nI h9), .int (nI f9), .int (nI g9), .int b0, .int l0, .int p0])), (x, .inr (2, [.ref ra, .int (nI L.length)])), (ra, .inl (cC, nn, .inl g))] H := hP
  have hD : va_D A [(t9, .inr (4, [.int (nI h9), .int (nI f9), .int (nI g9), .int b0, .int l0, .int p0])), (x, .inr (2, [.ref ra, .int (nI L.length)])), (ra, .inl (cC, nn, .inl g))] := hD
  obtain ⟨rfl, e1, e2, e3⟩ := q2
  have e1 : h9 = hpN (anyF L (ptP L)) := e1
  have e2 : f9 = fdF L (ptP L) := e2
  have e3 : g9 = gpF L (ptP L) := e3
  refine lv_istore_n (pc := 5) (lv' := [(2, .int (nI (ptP L))), (0, .ref t9), (1, .ref x)]) hx hb dX4_read_5 rfl hl (by decide) rfl (fun ls hl => ?_)
  refine lv_aload_n (pc := 6) hx hb dX4_read_6 rfl (lv_at hl 1 rfl) ?_
  refine lv_aload_n (pc := 7) hx hb dX4_read_7 rfl (lv_at hl 2 rfl) ?_
  refine lv_iload_n (pc := 8) hx hb dX4_read_8 rfl (lv_at hl 0 rfl) ?_
  refine x_Vi (pc := 9) (As := [.ref x, .int (nI (ptP L))]) (rest := []) (b := t9) (wr := []) ⟨hx, hb, hml, hown, hts⟩ (p_back l D cI cL cC cB cZ cR H.size t9 x ra nn L g (nI h9) (nI f9) (nI g9) b0 l0 p0 hg hL hn40 hch) ⟨callB_of 2 hts (x_good kw_671) rfl rfl rfl (hts _ kw_8) (hts _ kw_668) dc_X4_readBack ⟨Nat.le_of_ble_eq_true rfl, Nat.le_of_ble_eq_true rfl⟩, hts _ kw_670, hts _ kp_17⟩ (q0 := 0) rfl rfl rfl rfl hl.1 rfl (Nat.le_of_ble_eq_true rfl) dX4_read_9 ⟨Nat.le_refl _, Nat.le_refl _⟩ hN hK hP hD hS hA [0, 1, 2] [] rfl rfl (by decide) (by decide) (by decide) (fun r9 u9 H locs q9 hP hD hS => ?_)
  obtain ⟨b9, l9⟩ := u9
  have hP : va_P D vwCl [(t9, .inr (4, [.int (nI h9), .int (nI f9), .int (nI g9), .int (nI b9), .int (nI l9), .int p0])), (x, .inr (2, [.ref ra, .int (nI L.length)])), (ra, .inl (cC, nn, .inl g))] H := hP
  have hD : va_D A [(t9, .inr (4, [.int (nI h9), .int (nI f9), .int (nI g9), .int (nI b9), .int (nI l9), .int p0])), (x, .inr (2, [.ref ra, .int (nI L.length)])), (ra, .inl (cC, nn, .inl g))] := hD
  obtain ⟨rfl, e4, e5⟩ := q9
  have e4 : b9 = ptK L := e4
  have e5 : l9 = kpF L (ptB L) (ptK L) := e5
  have l3 := ptE_le L
  have l5 := ptC_le L
  have l6 := ptK_le L
  have z_1 := hpN_sp (anyF L (ptP L))
  have z_2 := ptC_sp L
  refine lv_istore_n (pc := 12) (lv' := [(3, .int (nI (ptE L))), (2, .int (nI (ptP L))), (0, .ref t9), (1, .ref x)]) hx hb dX4_read_12 rfl hl (by decide) rfl (fun ls hl => ?_)
  refine lv_aload_n (pc := 13) hx hb dX4_read_13 rfl (lv_at hl 2 rfl) ?_
  refine lv_aload_n (pc := 14) hx hb dX4_read_14 rfl (lv_at hl 3 rfl) ?_
  refine lv_iload_n (pc := 15) hx hb dX4_read_15 rfl (lv_at hl 0 rfl) ?_
  refine x_Vi (pc := 16) (As := [.int (nI (ptE L))]) (rest := [.ref t9]) (b := x) (wr := [(t9, .inr (4, [.int (nI h9), .int (nI f9), .int (nI g9), .int (nI b9), .int (nI l9), .int p0]))]) ⟨hx, hb, hml, hown, hts⟩ (l_cd l D cI cL cC cB cZ cR H.size x ra nn L g (ptE L) hg hL (by omega) (by omega)) ⟨callB_of 1 hts (x_good kw_439) rfl rfl rfl (hts _ kw_3) (hts _ kw_661) dc_X2_codeAt ⟨Nat.le_of_ble_eq_true rfl, Nat.le_of_ble_eq_true rfl⟩, hts _ kw_437, hts _ kw_438⟩ (q0 := 1) rfl rfl rfl rfl hl.1 rfl (Nat.le_of_ble_eq_true rfl) dX4_read_16 ⟨Nat.le_refl _, Nat.le_refl _⟩ hN hK hP hD hS hA [1, 2] [0] rfl rfl (by decide) (by decide) (by decide) (fun r16 u16 H locs q16 hP hD hS => ?_)
  have hP : va_P D vwCl [(t9, .inr (4, [.int (nI h9), .int (nI f9), .int (nI g9), .int (nI b9), .int (nI l9), .int p0])), (x, .inr (2, [.ref ra, .int (nI L.length)])), (ra, .inl (cC, nn, .inl g))] H := hP
  have hD : va_D A [(t9, .inr (4, [.int (nI h9), .int (nI f9), .int (nI g9), .int (nI b9), .int (nI l9), .int p0])), (x, .inr (2, [.ref ra, .int (nI L.length)])), (ra, .inl (cC, nn, .inl g))] := hD
  obtain rfl := q16
  refine lv_bipush (v := nI 37) (pc := 19) hx hb dX4_read_19 (by decide +kernel) ?_
  refine lv_icmp_ne (tgt := 28) (pc := 21) hx hb dX4_read_21 (by decide) (fun k0 => ?_) (fun k0 => ?_)
  · have e0 := fun z => k0 ((cdI_eq (by decide) hch).mpr z)
    refine lv_iconst (v := nI 0) (pc := 28) hx hb dX4_read_28 kI_0 ?_
    refine x_i (y := nI (ptC L)) (congrArg nI (by rcases z_2 with z | z; exact absurd ⟨z.1, z.2.1⟩ e0; exact z.2.symm)) ?_
    refine va_put (D := D) (ci := 4) (v := .int (nI (ptC L))) (ty := .boolean) (C := RX4) (T := TX4) (N := 6) (pc := 29) hx hb hts in_X4 tyX4 ty_X4 nm_X4 hown hK hP hD hS 0 rfl rfl 5 (by decide) (hts _ kw_158) (fun _ h9 => h9) rfl (by decide +kernel) (x_nz l5) (x_fz l5) (Nat.le_of_ble_eq_true rfl) dX4_read_29 (fun H locs hP hD hS => ?_)
    have hP : va_P D vwCl [(t9, .inr (4, [.int (nI h9), .int (nI f9), .int (nI g9), .int (nI b9), .int (nI l9), .int (nI (ptC L))])), (x, .inr (2, [.ref ra, .int (nI L.length)])), (ra, .inl (cC, nn, .inl g))] H := hP
    have hD : va_D A [(t9, .inr (4, [.int (nI h9), .int (nI f9), .int (nI g9), .int (nI b9), .int (nI l9), .int (nI (ptC L))])), (x, .inr (2, [.ref ra, .int (nI L.length)])), (ra, .inl (cC, nn, .inl g))] := hD
    refine lv_aload_n (pc := 32) hx hb dX4_read_32 rfl (lv_at hl 2 rfl) ?_
    refine va_get (D := D) (ci := 4) (v := .int (nI (ptC L))) (C := RX4) (T := TX4) (N := 6) (pc := 33) hx hb hts in_X4 hown hK hP 0 rfl rfl 5 (by decide) (hts _ kw_158) (fun _ h9 => h9) rfl dX4_read_33 ?_
    refine x_if_eq (tgt := 45) (pc := 36) hx hb (by omega) dX4_read_36 (by decide) (fun k1 => ?_) (fun k1 => ?_)
    · refine lv_iload_n (pc := 45) hx hb dX4_read_45 rfl (lv_at hl 0 rfl) ?_
      refine lv_istore (pc := 46) (lv' := [(4, .int (nI (ptE L))), (3, .int (nI (ptE L))), (2, .int (nI (ptP L))), (0, .ref t9), (1, .ref x)]) hx hb dX4_read_46 hl (by decide) rfl (fun ls hl => ?_)
      refine lv_iload (pc := 48) hx hb dX4_read_48 (lv_at hl 0 rfl) ?_
      refine lv_aload_n (pc := 50) hx hb dX4_read_50 rfl (lv_at hl 4 rfl) ?_
      refine va_getN (D := D) (ci := 2) (v := .int (nI L.length)) (C := RX2) (T := TX2) (N := 2) (pc := 51) hx hb hts in_X2 hown hK hP 1 rfl rfl 1 (by decide) (va_Nw.use rfl (hN _ kn_61)) (fun _ h9 => h9) rfl dX4_read_51 ?_
      refine x_icmp_ne (tgt := 75) (pc := 54) hx hb (by omega) (by omega) dX4_read_54 (by decide) (fun k2 => ?_) (fun k2 => ?_)
      · refine lv_iconst (v := nI 0) (pc := 75) hx hb dX4_read_75 kI_0 ?_
        rw [e1, e2, e3, e4, e5] at hP hD
        exact x_retz (pc := 76) rfl hx hb hr hlk () (congrArg nI (by first | exact ptO_y (by omega) (by omega) | exact ptO_n (by omega))) hP hK hD hS dX4_read_76
      · refine lv_aload_n (pc := 57) hx hb dX4_read_57 rfl (lv_at hl 3 rfl) ?_
        refine va_get (D := D) (ci := 4) (v := .int (nI h9)) (C := RX4) (T := TX4) (N := 6) (pc := 58) hx hb hts in_X4 hown hK hP 0 rfl rfl 0 (by decide) (hts _ kw_149) (fun _ h9 => h9) rfl dX4_read_58 ?_
        refine x_if_ne (tgt := 71) (pc := 61) hx hb (by omega) dX4_read_61 (by decide) (fun k3 => ?_) (fun k3 => ?_)
        · refine lv_iconst (v := nI 1) (pc := 71) hx hb dX4_read_71 kI_1 ?_
          refine lv_goto (tgt := 76) (pc := 72) hx hb dX4_read_72 (by decide) ?_
          rw [e1, e2, e3, e4, e5] at hP hD
          exact x_retz (pc := 76) rfl hx hb hr hlk () (congrArg nI (by first | exact ptO_y (by omega) (by omega) | exact ptO_n (by omega))) hP hK hD hS dX4_read_76
        · refine lv_aload_n (pc := 64) hx hb dX4_read_64 rfl (lv_at hl 3 rfl) ?_
          refine va_get (D := D) (ci := 4) (v := .int (nI b9)) (C := RX4) (T := TX4) (N := 6) (pc := 65) hx hb hts in_X4 hown hK hP 0 rfl rfl 3 (by decide) (hts _ kw_154) (fun _ h9 => h9) rfl dX4_read_65 ?_
          refine x_if_le (tgt := 75) (pc := 68) hx hb (by omega) dX4_read_68 (by decide) (fun k4 => ?_) (fun k4 => ?_)
          · refine lv_iconst (v := nI 0) (pc := 75) hx hb dX4_read_75 kI_0 ?_
            rw [e1, e2, e3, e4, e5] at hP hD
            exact x_retz (pc := 76) rfl hx hb hr hlk () (congrArg nI (by first | exact ptO_y (by omega) (by omega) | exact ptO_n (by omega))) hP hK hD hS dX4_read_76
          · refine lv_iconst (v := nI 1) (pc := 71) hx hb dX4_read_71 kI_1 ?_
            refine lv_goto (tgt := 76) (pc := 72) hx hb dX4_read_72 (by decide) ?_
            rw [e1, e2, e3, e4, e5] at hP hD
            exact x_retz (pc := 76) rfl hx hb hr hlk () (congrArg nI (by first | exact ptO_y (by omega) (by omega) | exact ptO_n (by omega))) hP hK hD hS dX4_read_76
    · refine lv_iload_n (pc := 39) hx hb dX4_read_39 rfl (lv_at hl 0 rfl) ?_
      refine lv_iconst (v := nI 1) (pc := 40) hx hb dX4_read_40 kI_1 ?_
      refine lv_iadd (pc := 41) hx hb dX4_read_41 ?_
      refine x_i (y := nI (ptE L + 1)) (nI_add _ _) ?_
      refine lv_goto (tgt := 46) (pc := 42) hx hb dX4_read_42 (by decide) ?_
      refine lv_istore (pc := 46) (lv' := [(4, .int (nI (ptE L + 1))), (3, .int (nI (ptE L))), (2, .int (nI (ptP L))), (0, .ref t9), (1, .ref x)]) hx hb dX4_read_46 hl (by decide) rfl (fun ls hl => ?_)
      refine lv_iload (pc := 48) hx hb dX4_read_48 (lv_at hl 0 rfl) ?_
      refine lv_aload_n (pc := 50) hx hb dX4_read_50 rfl (lv_at hl 4 rfl) ?_
      refine va_getN (D := D) (ci := 2) (v := .int (nI L.length)) (C := RX2) (T := TX2) (N := 2) (pc := 51) hx hb hts in_X2 hown hK hP 1 rfl rfl 1 (by decide) (va_Nw.use rfl (hN _ kn_61)) (fun _ h9 => h9) rfl dX4_read_51 ?_
      refine x_icmp_ne (tgt := 75) (pc := 54) hx hb (by omega) (by omega) dX4_read_54 (by decide) (fun k2 => ?_) (fun k2 => ?_)
      · refine lv_iconst (v := nI 0) (pc := 75) hx hb dX4_read_75 kI_0 ?_
        rw [e1, e2, e3, e4, e5] at hP hD
        exact x_retz (pc := 76) rfl hx hb hr hlk () (congrArg nI (by first | exact ptO_y (by omega) (by omega) | exact ptO_n (by omega))) hP hK hD hS dX4_read_76
      · refine lv_aload_n (pc := 57) hx hb dX4_read_57 rfl (lv_at hl 3 rfl) ?_
        refine va_get (D := D) (ci := 4) (v := .int (nI h9)) (C := RX4) (T := TX4) (N := 6) (pc := 58) hx hb hts in_X4 hown hK hP 0 rfl rfl 0 (by decide) (hts _ kw_149) (fun _ h9 => h9) rfl dX4_read_58 ?_
        refine x_if_ne (tgt := 71) (pc := 61) hx hb (by omega) dX4_read_61 (by decide) (fun k3 => ?_) (fun k3 => ?_)
        · refine lv_iconst (v := nI 1) (pc := 71) hx hb dX4_read_71 kI_1 ?_
          refine lv_goto (tgt := 76) (pc := 72) hx hb dX4_read_72 (by decide) ?_
          rw [e1, e2, e3, e4, e5] at hP hD
          exact x_retz (pc := 76) rfl hx hb hr hlk () (congrArg nI (by first | exact ptO_y (by omega) (by omega) | exact ptO_n (by omega))) hP hK hD hS dX4_read_76
        · refine lv_aload_n (pc := 64) hx hb dX4_read_64 rfl (lv_at hl 3 rfl) ?_
          refine va_get (D := D) (ci := 4) (v := .int (nI b9)) (C := RX4) (T := TX4) (N := 6) (pc := 65) hx hb hts in_X4 hown hK hP 0 rfl rfl 3 (by decide) (hts _ kw_154) (fun _ h9 => h9) rfl dX4_read_65 ?_
          refine x_if_le (tgt := 75) (pc := 68) hx hb (by omega) dX4_read_68 (by decide) (fun k4 => ?_) (fun k4 => ?_)
          · refine lv_iconst (v := nI 0) (pc := 75) hx hb dX4_read_75 kI_0 ?_
            rw [e1, e2, e3, e4, e5] at hP hD
            exact x_retz (pc := 76) rfl hx hb hr hlk () (congrArg nI (by first | exact ptO_y (by omega) (by omega) | exact ptO_n (by omega))) hP hK hD hS dX4_read_76
          · refine lv_iconst (v := nI 1) (pc := 71) hx hb dX4_read_71 kI_1 ?_
            refine lv_goto (tgt := 76) (pc := 72) hx hb dX4_read_72 (by decide) ?_
            rw [e1, e2, e3, e4, e5] at hP hD
            exact x_retz (pc := 76) rfl hx hb hr hlk () (congrArg nI (by first | exact ptO_y (by omega) (by omega) | exact ptO_n (by omega))) hP hK hD hS dX4_read_76
  · have e0 := (cdI_eq (by decide) hch).mp k0
    refine lv_iconst (v := nI 1) (pc := 24) hx hb dX4_read_24 kI_1 ?_
    refine x_i (y := nI (ptC L)) (congrArg nI (by rcases z_2 with z | z; exact z.2.2.symm; exact absurd e0 z.1)) ?_
    refine lv_goto (tgt := 29) (pc := 25) hx hb dX4_read_25 (by decide) ?_
    refine va_put (D := D) (ci := 4) (v := .int (nI (ptC L))) (ty := .boolean) (C := RX4) (T := TX4) (N := 6) (pc := 29) hx hb hts in_X4 tyX4 ty_X4 nm_X4 hown hK hP hD hS 0 rfl rfl 5 (by decide) (hts _ kw_158) (fun _ h9 => h9) rfl (by decide +kernel) (x_nz l5) (x_fz l5) (Nat.le_of_ble_eq_true rfl) dX4_read_29 (fun H locs hP hD hS => ?_)
    have hP : va_P D vwCl [(t9, .inr (4, [.int (nI h9), .int (nI f9), .int (nI g9), .int (nI b9), .int (nI l9), .int (nI (ptC L))])), (x, .inr (2, [.ref ra, .int (nI L.length)])), (ra, .inl (cC, nn, .inl g))] H := hP
    have hD : va_D A [(t9, .inr (4, [.int (nI h9), .int (nI f9), .int (nI g9), .int (nI b9), .int (nI l9), .int (nI (ptC L))])), (x, .inr (2, [.ref ra, .int (nI L.length)])), (ra, .inl (cC, nn, .inl g))] := hD
    refine lv_aload_n (pc := 32) hx hb dX4_read_32 rfl (lv_at hl 2 rfl) ?_
    refine va_get (D := D) (ci := 4) (v := .int (nI (ptC L))) (C := RX4) (T := TX4) (N := 6) (pc := 33) hx hb hts in_X4 hown hK hP 0 rfl rfl 5 (by decide) (hts _ kw_158) (fun _ h9 => h9) rfl dX4_read_33 ?_
    refine x_if_eq (tgt := 45) (pc := 36) hx hb (by omega) dX4_read_36 (by decide) (fun k1 => ?_) (fun k1 => ?_)
    · refine lv_iload_n (pc := 45) hx hb dX4_read_45 rfl (lv_at hl 0 rfl) ?_
      refine lv_istore (pc := 46) (lv' := [(4, .int (nI (ptE L))), (3, .int (nI (ptE L))), (2, .int (nI (ptP L))), (0, .ref t9), (1, .ref x)]) hx hb dX4_read_46 hl (by decide) rfl (fun ls hl => ?_)
      refine lv_iload (pc := 48) hx hb dX4_read_48 (lv_at hl 0 rfl) ?_
      refine lv_aload_n (pc := 50) hx hb dX4_read_50 rfl (lv_at hl 4 rfl) ?_
      refine va_getN (D := D) (ci := 2) (v := .int (nI L.length)) (C := RX2) (T := TX2) (N := 2) (pc := 51) hx hb hts in_X2 hown hK hP 1 rfl rfl 1 (by decide) (va_Nw.use rfl (hN _ kn_61)) (fun _ h9 => h9) rfl dX4_read_51 ?_
      refine x_icmp_ne (tgt := 75) (pc := 54) hx hb (by omega) (by omega) dX4_read_54 (by decide) (fun k2 => ?_) (fun k2 => ?_)
      · refine lv_iconst (v := nI 0) (pc := 75) hx hb dX4_read_75 kI_0 ?_
        rw [e1, e2, e3, e4, e5] at hP hD
        exact x_retz (pc := 76) rfl hx hb hr hlk () (congrArg nI (by first | exact ptO_y (by omega) (by omega) | exact ptO_n (by omega))) hP hK hD hS dX4_read_76
      · refine lv_aload_n (pc := 57) hx hb dX4_read_57 rfl (lv_at hl 3 rfl) ?_
        refine va_get (D := D) (ci := 4) (v := .int (nI h9)) (C := RX4) (T := TX4) (N := 6) (pc := 58) hx hb hts in_X4 hown hK hP 0 rfl rfl 0 (by decide) (hts _ kw_149) (fun _ h9 => h9) rfl dX4_read_58 ?_
        refine x_if_ne (tgt := 71) (pc := 61) hx hb (by omega) dX4_read_61 (by decide) (fun k3 => ?_) (fun k3 => ?_)
        · refine lv_iconst (v := nI 1) (pc := 71) hx hb dX4_read_71 kI_1 ?_
          refine lv_goto (tgt := 76) (pc := 72) hx hb dX4_read_72 (by decide) ?_
          rw [e1, e2, e3, e4, e5] at hP hD
          exact x_retz (pc := 76) rfl hx hb hr hlk () (congrArg nI (by first | exact ptO_y (by omega) (by omega) | exact ptO_n (by omega))) hP hK hD hS dX4_read_76
        · refine lv_aload_n (pc := 64) hx hb dX4_read_64 rfl (lv_at hl 3 rfl) ?_
          refine va_get (D := D) (ci := 4) (v := .int (nI b9)) (C := RX4) (T := TX4) (N := 6) (pc := 65) hx hb hts in_X4 hown hK hP 0 rfl rfl 3 (by decide) (hts _ kw_154) (fun _ h9 => h9) rfl dX4_read_65 ?_
          refine x_if_le (tgt := 75) (pc := 68) hx hb (by omega) dX4_read_68 (by decide) (fun k4 => ?_) (fun k4 => ?_)
          · refine lv_iconst (v := nI 0) (pc := 75) hx hb dX4_read_75 kI_0 ?_
            rw [e1, e2, e3, e4, e5] at hP hD
            exact x_retz (pc := 76) rfl hx hb hr hlk () (congrArg nI (by first | exact ptO_y (by omega) (by omega) | exact ptO_n (by omega))) hP hK hD hS dX4_read_76
          · refine lv_iconst (v := nI 1) (pc := 71) hx hb dX4_read_71 kI_1 ?_
            refine lv_goto (tgt := 76) (pc := 72) hx hb dX4_read_72 (by decide) ?_
            rw [e1, e2, e3, e4, e5] at hP hD
            exact x_retz (pc := 76) rfl hx hb hr hlk () (congrArg nI (by first | exact ptO_y (by omega) (by omega) | exact ptO_n (by omega))) hP hK hD hS dX4_read_76
    · refine lv_iload_n (pc := 39) hx hb dX4_read_39 rfl (lv_at hl 0 rfl) ?_
      refine lv_iconst (v := nI 1) (pc := 40) hx hb dX4_read_40 kI_1 ?_
      refine lv_iadd (pc := 41) hx hb dX4_read_41 ?_
      refine x_i (y := nI (ptE L + 1)) (nI_add _ _) ?_
      refine lv_goto (tgt := 46) (pc := 42) hx hb dX4_read_42 (by decide) ?_
      refine lv_istore (pc := 46) (lv' := [(4, .int (nI (ptE L + 1))), (3, .int (nI (ptE L))), (2, .int (nI (ptP L))), (0, .ref t9), (1, .ref x)]) hx hb dX4_read_46 hl (by decide) rfl (fun ls hl => ?_)
      refine lv_iload (pc := 48) hx hb dX4_read_48 (lv_at hl 0 rfl) ?_
      refine lv_aload_n (pc := 50) hx hb dX4_read_50 rfl (lv_at hl 4 rfl) ?_
      refine va_getN (D := D) (ci := 2) (v := .int (nI L.length)) (C := RX2) (T := TX2) (N := 2) (pc := 51) hx hb hts in_X2 hown hK hP 1 rfl rfl 1 (by decide) (va_Nw.use rfl (hN _ kn_61)) (fun _ h9 => h9) rfl dX4_read_51 ?_
      refine x_icmp_ne (tgt := 75) (pc := 54) hx hb (by omega) (by omega) dX4_read_54 (by decide) (fun k2 => ?_) (fun k2 => ?_)
      · refine lv_iconst (v := nI 0) (pc := 75) hx hb dX4_read_75 kI_0 ?_
        rw [e1, e2, e3, e4, e5] at hP hD
        exact x_retz (pc := 76) rfl hx hb hr hlk () (congrArg nI (by first | exact ptO_y (by omega) (by omega) | exact ptO_n (by omega))) hP hK hD hS dX4_read_76
      · refine lv_aload_n (pc := 57) hx hb dX4_read_57 rfl (lv_at hl 3 rfl) ?_
        refine va_get (D := D) (ci := 4) (v := .int (nI h9)) (C := RX4) (T := TX4) (N := 6) (pc := 58) hx hb hts in_X4 hown hK hP 0 rfl rfl 0 (by decide) (hts _ kw_149) (fun _ h9 => h9) rfl dX4_read_58 ?_
        refine x_if_ne (tgt := 71) (pc := 61) hx hb (by omega) dX4_read_61 (by decide) (fun k3 => ?_) (fun k3 => ?_)
        · refine lv_iconst (v := nI 1) (pc := 71) hx hb dX4_read_71 kI_1 ?_
          refine lv_goto (tgt := 76) (pc := 72) hx hb dX4_read_72 (by decide) ?_
          rw [e1, e2, e3, e4, e5] at hP hD
          exact x_retz (pc := 76) rfl hx hb hr hlk () (congrArg nI (by first | exact ptO_y (by omega) (by omega) | exact ptO_n (by omega))) hP hK hD hS dX4_read_76
        · refine lv_aload_n (pc := 64) hx hb dX4_read_64 rfl (lv_at hl 3 rfl) ?_
          refine va_get (D := D) (ci := 4) (v := .int (nI b9)) (C := RX4) (T := TX4) (N := 6) (pc := 65) hx hb hts in_X4 hown hK hP 0 rfl rfl 3 (by decide) (hts _ kw_154) (fun _ h9 => h9) rfl dX4_read_65 ?_
          refine x_if_le (tgt := 75) (pc := 68) hx hb (by omega) dX4_read_68 (by decide) (fun k4 => ?_) (fun k4 => ?_)
          · refine lv_iconst (v := nI 0) (pc := 75) hx hb dX4_read_75 kI_0 ?_
            rw [e1, e2, e3, e4, e5] at hP hD
            exact x_retz (pc := 76) rfl hx hb hr hlk () (congrArg nI (by first | exact ptO_y (by omega) (by omega) | exact ptO_n (by omega))) hP hK hD hS dX4_read_76
          · refine lv_iconst (v := nI 1) (pc := 71) hx hb dX4_read_71 kI_1 ?_
            refine lv_goto (tgt := 76) (pc := 72) hx hb dX4_read_72 (by decide) ?_
            rw [e1, e2, e3, e4, e5] at hP hD
            exact x_retz (pc := 76) rfl hx hb hr hlk () (congrArg nI (by first | exact ptO_y (by omega) (by omega) | exact ptO_n (by omega))) hP hK hD hS dX4_read_76
