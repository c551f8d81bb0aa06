abbrev rm_c_slot : Room := { frames := 0, cells := 0, slots := 0, locals := 0 }
set_option maxHeartbeats 4000000 in
set_option maxRecDepth 100000 in
theorem c_slot (l : Launch) (D : va_G) (cI cL cC cB cZ cR : ClassId) (sz : Nat) (c9 : Nat) (hc9 : c9 < 65536) : Met l yX8_slot wsX8_slot rm_c_slot (xPc D vwCl (tyAll cI cL cC cB cZ cR) [.int (nI c9)] [] sz) (va_Qi (fun (z : Int32) (_ : Unit) => z = nI (slotN c9)) (xB D vwCl (tyAll cI cL cC cB cZ cR) (va_A [] sz) (fun u : Unit => [])) (va_A [] sz)) 0 0 (va_A [] sz) := by
  refine x_of (Qc := fun A => va_Qi (fun (z : Int32) (_ : Unit) => z = nI (slotN c9)) (xB D vwCl (tyAll cI cL cC cB cZ cR) A (fun u : Unit => [])) A) (by decide) rfl (Nat.le_of_ble_eq_true rfl) ?_
  intro p e s m args below meth c A H locs ls hx hb hr hts0 hown hlk hml hnm hP hK hD hN hA hS hl
  have hts : ∀ w ∈ wsA, w.before args s = true := fun w h => hts0 w (List.mem_cons_of_mem _ h)
  have hown : s.vm.findClass "WideDecimalDeskModel" = some m.cls := hown
  have hl : lv_has ls 1 [(0, .int (nI c9))] := hl
  refine lv_iload_n (pc := 0) hx hb dX8_slot_0 rfl (lv_at hl 0 rfl) ?_
  refine lv_bipush (v := nI 48) (pc := 1) hx hb dX8_slot_1 (by decide +kernel) ?_
  refine x_icmp_eq (tgt := 12) (pc := 3) hx hb (by omega) (by omega) dX8_slot_3 (by decide) (fun h1 => ?_) (fun h1 => ?_)
  · refine lv_iconst (v := nI 1) (pc := 12) hx hb dX8_slot_12 kI_1 ?_
    refine lv_goto (tgt := 17) (pc := 13) hx hb dX8_slot_13 (by decide) ?_
    exact x_retz (pc := 17) rfl hx hb hr hlk () (congrArg nI (by have h9 := slotN_sp c9; omega)) hP hK hD hS dX8_slot_17
  · refine lv_iload_n (pc := 6) hx hb dX8_slot_6 rfl (lv_at hl 0 rfl) ?_
    refine lv_bipush (v := nI 35) (pc := 7) hx hb dX8_slot_7 (by decide +kernel) ?_
    refine x_icmp_ne (tgt := 16) (pc := 9) hx hb (by omega) (by omega) dX8_slot_9 (by decide) (fun h2 => ?_) (fun h2 => ?_)
    · refine lv_iconst (v := nI 0) (pc := 16) hx hb dX8_slot_16 kI_0 ?_
      exact x_retz (pc := 17) rfl hx hb hr hlk () (congrArg nI (by have h9 := slotN_sp c9; omega)) hP hK hD hS dX8_slot_17
    · refine lv_iconst (v := nI 1) (pc := 12) hx hb dX8_slot_12 kI_1 ?_
      refine lv_goto (tgt := 17) (pc := 13) hx hb dX8_slot_13 (by decide) ?_
      exact x_retz (pc := 17) rfl hx hb hr hlk () (congrArg nI (by have h9 := slotN_sp c9; omega)) hP hK hD hS dX8_slot_17
abbrev rm_c_text : Room := { frames := 0, cells := 0, slots := 0, locals := 0 }
set_option maxHeartbeats 4000000 in
set_option maxRecDepth 100000 in
theorem c_text (l : Launch) (D : va_G) (cI cL cC cB cZ cR : ClassId) (sz : Nat) (m9 ad as9 ab at9 ao al an ae ap9 aq ar am : Nat) (th le pl fd9 gr bk kp pe : Int32) (k : Nat) (L : List Nat) (fx : Nat → Int32) (hx9 : oR fx L) (hL : L.length ≤ 40) (hc9 : ∀ x ∈ L, x < 128) (hk : k < 1000) : Met l yX8_text wsX8_text rm_c_text (xPc D vwCl (tyAll cI cL cC cB cZ cR) [.ref m9, .int (nI k)] [(m9, .inr (8, [.int th, .ref ad, .ref as9, .ref ab, .int (nI L.length), .ref at9, .int le, .ref ao, .ref al, .ref an, .ref ae, .ref ap9, .ref aq, .ref ar, .ref am, .int pl, .int fd9, .int gr, .int bk, .int kp, .int pe])), (at9, .inl (cC, 40, .inl fx))] sz) (va_Qi (fun (z : Int32) (_ : Unit) => z = nI (txF L k)) (xB D vwCl (tyAll cI cL cC cB cZ cR) (va_A [(m9, .inr (8, [.int th, .ref ad, .ref as9, .ref ab, .int (nI L.length), .ref at9, .int le, .ref ao, .ref al, .ref an, .ref ae, .ref ap9, .ref aq, .ref ar, .ref am, .int pl, .int fd9, .int gr, .int bk, .int kp, .int pe])), (at9, .inl (cC, 40, .inl fx))] sz) (fun u : Unit => [(m9, .inr (8, [.int th, .ref ad, .ref as9, .ref ab, .int (nI L.length), .ref at9, .int le, .ref ao, .ref al, .ref an, .ref ae, .ref ap9, .ref aq, .ref ar, .ref am, .int pl, .int fd9, .int gr, .int bk, .int kp, .int pe])), (at9, .inl (cC, 40, .inl fx))])) (va_A [(m9, .inr (8, [.int th, .ref ad, .ref as9, .ref ab, .int (nI L.length), .ref at9, .int le, .ref ao, .ref al, .ref an, .ref ae, .ref ap9, .ref aq, .ref ar, .ref am, .int pl, .int fd9, .int gr, .int bk, .int kp, .int pe])), (at9, .inl (cC, 40, .inl fx))] sz)) 0 0 (va_A [(m9, .inr (8, [.int th, .ref ad, .ref as9, .ref ab, .int (nI L.length), .ref at9, .int le, .ref ao, .ref al, .ref an, .ref ae, .ref ap9, .ref aq, .ref ar, .ref am, .int pl, .int fd9, .int gr, .int bk, .int kp, .int pe])), (at9, .inl (cC, 40, .inl fx))] sz) := by
  refine x_of (Qc := fun A => va_Qi (fun (z : Int32) (_ : Unit) => z = nI (txF L k)) (xB D vwCl (tyAll cI cL cC cB cZ cR) A (fun u : Unit => [(m9, .inr (8, [.int th, .ref ad, .ref as9, .ref ab, .int (nI L.length), .ref at9, .int le, .ref ao, .ref al, .ref an, .ref ae, .ref ap9, .ref aq, .ref ar, .ref am, .int pl, .int fd9, .int gr, .int bk, .int kp, .int pe])), (at9, .inl (cC, 40, .inl fx))])) A) (by decide) rfl (Nat.le_of_ble_eq_true rfl) ?_
  intro p e s m args below meth c A H locs ls hx hb hr hts0 hown hlk hml hnm hP hK hD hN hA hS hl
  have hts : ∀ w ∈ wsA, w.before args s = true := fun w h => hts0 w (List.mem_cons_of_mem _ h)
  have hown : s.vm.findClass "WideDecimalDeskModel" = some m.cls := hown
  have hl : lv_has ls 2 [(0, .ref m9), (1, .int (nI k))] := hl
  refine lv_iload_n (pc := 0) hx hb dX8_text_0 rfl (lv_at hl 1 rfl) ?_
  refine lv_aload_n (pc := 1) hx hb dX8_text_1 rfl (lv_at hl 0 rfl) ?_
  refine va_get (D := D) (ci := 8) (v := .int (nI L.length)) (C := RX8) (T := TX8) (N := 21) (pc := 2) hx hb hts in_X8 hown hK hP 0 rfl rfl 4 (by decide) (hts _ kw_701) (fun _ h9 => h9) rfl dX8_text_2 ?_
  refine x_icmp_ge (tgt := 17) (pc := 5) hx hb (by omega) (by omega) dX8_text_5 (by decide) (fun h1 => ?_) (fun h1 => ?_)
  · refine lv_bipush (v := nI 32) (pc := 17) hx hb dX8_text_17 (by decide +kernel) ?_
    exact x_retz (pc := 19) (pk_charN (by have h9 := getD_lt (by decide) hc9 k; omega)).1 hx hb hr hlk () (congrArg nI (by first | exact txF_y h1 | exact txF_n h1)) hP hK hD hS dX8_text_19
  · refine lv_aload_n (pc := 8) hx hb dX8_text_8 rfl (lv_at hl 0 rfl) ?_
    refine va_get (D := D) (ci := 8) (v := .ref at9) (C := RX8) (T := TX8) (N := 21) (pc := 9) hx hb hts in_X8 hown hK hP 0 rfl rfl 5 (by decide) (hts _ kw_702) (fun _ h9 => h9) rfl dX8_text_9 ?_
    refine lv_iload_n (pc := 12) hx hb dX8_text_12 rfl (lv_at hl 1 rfl) ?_
    refine x_cald (v := nI (L.getD k 0)) (pc := 13) hx hb hK hP 1 2 rfl rfl (by omega) (by decide) (oR_at hx9 (by omega)) dX8_text_13 ?_
    refine lv_goto (tgt := 19) (pc := 14) hx hb dX8_text_14 (by decide) ?_
    exact x_retz (pc := 19) (pk_charN (by have h9 := getD_lt (by decide) hc9 k; omega)).1 hx hb hr hlk () (congrArg nI (by first | exact txF_y h1 | exact txF_n h1)) hP hK hD hS dX8_text_19
abbrev rm_c_any : Room := { frames := 1, cells := 0, slots := 0, locals := 20 }
set_option maxHeartbeats 4000000 in
set_option maxRecDepth 100000 in
theorem c_any (l : Launch) (D : va_G) (cI cL cC cB cZ cR : ClassId) (sz : Nat) (m9 ad as9 ab at9 ao al an ae ap9 aq ar am : Nat) (th le pl fd9 gr bk kp pe : Int32) (k : Nat) (L : List Nat) (fx : Nat → Int32) (hx9 : oR fx L) (hL : L.length ≤ 40) (hc9 : ∀ x ∈ L, x < 128) (hk : k ≤ L.length) : Met l yX8_any wsX8_any rm_c_any (xPc D vwCl (tyAll cI cL cC cB cZ cR) [.ref m9, .int (nI k)] [(m9, .inr (8, [.int th, .ref ad, .ref as9, .ref ab, .int (nI L.length), .ref at9, .int le, .ref ao, .ref al, .ref an, .ref ae, .ref ap9, .ref aq, .ref ar, .ref am, .int pl, .int fd9, .int gr, .int bk, .int kp, .int pe])), (at9, .inl (cC, 40, .inl fx))] sz) (va_Qi (fun (z : Int32) (_ : Unit) => z = nI (anyF L k)) (xB D vwCl (tyAll cI cL cC cB cZ cR) (va_A [(m9, .inr (8, [.int th, .ref ad, .ref as9, .ref ab, .int (nI L.length), .ref at9, .int le, .ref ao, .ref al, .ref an, .ref ae, .ref ap9, .ref aq, .ref ar, .ref am, .int pl, .int fd9, .int gr, .int bk, .int kp, .int pe])), (at9, .inl (cC, 40, .inl fx))] sz) (fun u : Unit => [(m9, .inr (8, [.int th, .ref ad, .ref as9, .ref ab, .int (nI L.length), .ref at9, .int le, .ref ao, .ref al, .ref an, .ref ae, .ref ap9, .ref aq, .ref ar, .ref am, .int pl, .int fd9, .int gr, .int bk, .int kp, .int pe])), (at9, .inl (cC, 40, .inl fx))])) (va_A [(m9, .inr (8, [.int th, .ref ad, .ref as9, .ref ab, .int (nI L.length), .ref at9, .int le, .ref ao, .ref al, .ref an, .ref ae, .ref ap9, .ref aq, .ref ar, .ref am, .int pl, .int fd9, .int gr, .int bk, .int kp, .int pe])), (at9, .inl (cC, 40, .inl fx))] sz)) 0 0 (va_A [(m9, .inr (8, [.int th, .ref ad, .ref as9, .ref ab, .int (nI L.length), .ref at9, .int le, .ref ao, .ref al, .ref an, .ref ae, .ref ap9, .ref aq, .ref ar, .ref am, .int pl, .int fd9, .int gr, .int bk, .int kp, .int pe])), (at9, .inl (cC, 40, .inl fx))] sz) := by
  refine x_of (Qc := fun A => va_Qi (fun (z : Int32) (_ : Unit) => z = nI (anyF L k)) (xB D vwCl (tyAll cI cL cC cB cZ cR) A (fun u : Unit => [(m9, .inr (8, [.int th, .ref ad, .ref as9, .ref ab, .int (nI L.length), .ref at9, .int le, .ref ao, .ref al, .ref an, .ref ae, .ref ap9, .ref aq, .ref ar, .ref am, .int pl, .int fd9, .int gr, .int bk, .int kp, .int pe])), (at9, .inl (cC, 40, .inl fx))])) A) (by decide) rfl (Nat.le_of_ble_eq_true rfl) ?_
  intro p e s m args below meth c A H locs ls hx hb hr hts0 hown hlk hml hnm hP hK hD hN hA hS hl
  have hts : ∀ w ∈ wsA, w.before args s = true := fun w h => hts0 w (List.mem_cons_of_mem _ h)
  have hown : s.vm.findClass "WideDecimalDeskModel" = some m.cls := hown
  have hl : lv_has ls 4 [(0, .ref m9), (1, .int (nI k))] := hl
  have L4 : ∀ (kk : Nat) (i : Nat) (n : Nat) (H : Heap) (locs : List Loc) (ls : Array Slot) (hk4 : k - i < kk) (hi : i ≤ k) (hn : n = anyF L i) (hP : va_P D vwCl [(m9, .inr (8, [.int th, .ref ad, .ref as9, .ref ab, .int (nI L.length), .ref at9, .int le, .ref ao, .ref al, .ref an, .ref ae, .ref ap9, .ref aq, .ref ar, .ref am, .int pl, .int fd9, .int gr, .int bk, .int kp, .int pe])), (at9, .inl (cC, 40, .inl fx))] H) (hD : va_D A [(m9, .inr (8, [.int th, .ref ad, .ref as9, .ref ab, .int (nI L.length), .ref at9, .int le, .ref ao, .ref al, .ref an, .ref ae, .ref ap9, .ref aq, .ref ar, .ref am, .int pl, .int fd9, .int gr, .int bk, .int kp, .int pe])), (at9, .inl (cC, 40, .inl fx))]) (hS : va_S A s.heap H locs) (hl : lv_has ls 4 [(3, .int (nI i)), (2, .int (nI n)), (0, .ref m9), (1, .int (nI k))]), W p l e rm_c_any s m args below meth c H locs 0 0 (MQ below (va_Qi (fun (z : Int32) (_ : Unit) => z = nI (anyF L k)) (xB D vwCl (tyAll cI cL cC cB cZ cR) A (fun u : Unit => [(m9, .inr (8, [.int th, .ref ad, .ref as9, .ref ab, .int (nI L.length), .ref at9, .int le, .ref ao, .ref al, .ref an, .ref ae, .ref ap9, .ref aq, .ref ar, .ref am, .int pl, .int fd9, .int gr, .int bk, .int kp, .int pe])), (at9, .inl (cC, 40, .inl fx))])) A) args s 0 0 A) (F0 m 4 ls []) := by
    intro kk
    induction kk with
    | zero => intro i n H locs ls hk; exact absurd hk (Nat.not_lt_zero _)
    | succ kk ih4 =>
      intro i n H locs ls hk4 hi hn hP hD hS hl
      have hx1 := getD_lt (by decide) hc9 i
      refine lv_iload_n (pc := 4) hx hb dX8_any_4 rfl (lv_at hl 0 rfl) ?_
      refine lv_iload_n (pc := 5) hx hb dX8_any_5 rfl (lv_at hl 3 rfl) ?_
      refine x_icmp_ge (tgt := 35) (pc := 6) hx hb (by omega) (by omega) dX8_any_6 (by decide) (fun hc => ?_) (fun hc => ?_)
      · refine lv_iload_n (pc := 35) hx hb dX8_any_35 rfl (lv_at hl 1 rfl) ?_
        exact x_reti (pc := 36) hx hb hr hlk () (by have h : i = k := (by omega); subst h; rw [hn]) hP hK hD hS dX8_any_36
      · refine lv_iload_n (pc := 9) hx hb dX8_any_9 rfl (lv_at hl 1 rfl) ?_
        refine lv_aload_n (pc := 10) hx hb dX8_any_10 rfl (lv_at hl 2 rfl) ?_
        refine va_get (D := D) (ci := 8) (v := .ref at9) (C := RX8) (T := TX8) (N := 21) (pc := 11) hx hb hts in_X8 hown hK hP 0 rfl rfl 5 (by decide) (hts _ kw_702) (fun _ h9 => h9) rfl dX8_any_11 ?_
        refine lv_iload_n (pc := 14) hx hb dX8_any_14 rfl (lv_at hl 0 rfl) ?_
        refine x_cald (v := nI (L.getD i 0)) (pc := 15) hx hb hK hP 1 2 rfl rfl (by omega) (by decide) (oR_at hx9 (by omega)) dX8_any_15 ?_
        refine x_Si (pc := 16) (As := [.int (nI (L.getD i 0))]) (rest := [.int (nI n)]) (wr := [(m9, .inr (8, [.int th, .ref ad, .ref as9, .ref ab, .int (nI L.length), .ref at9, .int le, .ref ao, .ref al, .ref an, .ref ae, .ref ap9, .ref aq, .ref ar, .ref am, .int pl, .int fd9, .int gr, .int bk, .int kp, .int pe])), (at9, .inl (cC, 40, .inl fx))]) ⟨hx, hb, hml, hown, hts⟩ (c_slot l D cI cL cC cB cZ cR H.size (L.getD i 0) (by omega)) ⟨callB_of 1 hts (x_good kw_912) rfl rfl rfl (hts _ kw_9) (hts _ kw_910) dc_X8_slot ⟨Nat.le_of_ble_eq_true rfl, Nat.le_of_ble_eq_true rfl⟩, hts _ kw_911⟩ rfl hl.1 rfl (Nat.le_of_ble_eq_true rfl) dX8_any_16 ⟨Nat.le_refl _, Nat.le_refl _⟩ hN hK hP hD hS hA [] [0, 1] rfl rfl (by decide) (by decide) (by decide) (fun r16 u16 H locs q16 hP hD hS => ?_)
        have hP : va_P D vwCl [(m9, .inr (8, [.int th, .ref ad, .ref as9, .ref ab, .int (nI L.length), .ref at9, .int le, .ref ao, .ref al, .ref an, .ref ae, .ref ap9, .ref aq, .ref ar, .ref am, .int pl, .int fd9, .int gr, .int bk, .int kp, .int pe])), (at9, .inl (cC, 40, .inl fx))] H := hP
        have hD : va_D A [(m9, .inr (8, [.int th, .ref ad, .ref as9, .ref ab, .int (nI L.length), .ref at9, .int le, .ref ao, .ref al, .ref an, .ref ae, .ref ap9, .ref aq, .ref ar, .ref am, .int pl, .int fd9, .int gr, .int bk, .int kp, .int pe])), (at9, .inl (cC, 40, .inl fx))] := hD
        obtain rfl := q16
        have hsl := slotN_sp (L.getD i 0)
        refine x_if_eq (tgt := 26) (pc := 19) hx hb (by omega) dX8_any_19 (by decide) (fun h1 => ?_) (fun h1 => ?_)
        · refine lv_iconst (v := nI 0) (pc := 26) hx hb dX8_any_26 kI_0 ?_
          refine lv_iadd (pc := 27) hx hb dX8_any_27 ?_
          refine x_i (y := nI (n + 0)) (nI_add _ _) ?_
          refine lv_istore_n (pc := 28) (lv' := [(2, .int (nI (n + 0))), (3, .int (nI i)), (0, .ref m9), (1, .int (nI k))]) hx hb dX8_any_28 rfl hl (by decide) rfl (fun ls hl => ?_)
          refine lv_iinc (k := 1) (v := nI (i + 1)) (pc := 29) (lv' := [(3, .int (nI (i + 1))), (2, .int (nI (n + 0))), (0, .ref m9), (1, .int (nI k))]) hx hb dX8_any_29 hl rfl (x_inc i) (by decide) rfl (fun ls hl => ?_)
          refine lv_goto (tgt := 4) (pc := 32) hx hb dX8_any_32 (by decide) ?_
          exact ih4 (i + 1) (n + 0) H locs ls (by omega) (by omega) (by show _ = anyF L i + slotN (L.getD i 0); omega) hP hD hS hl
        · refine lv_iconst (v := nI 1) (pc := 22) hx hb dX8_any_22 kI_1 ?_
          refine lv_goto (tgt := 27) (pc := 23) hx hb dX8_any_23 (by decide) ?_
          refine lv_iadd (pc := 27) hx hb dX8_any_27 ?_
          refine x_i (y := nI (n + 1)) (nI_add _ _) ?_
          refine lv_istore_n (pc := 28) (lv' := [(2, .int (nI (n + 1))), (3, .int (nI i)), (0, .ref m9), (1, .int (nI k))]) hx hb dX8_any_28 rfl hl (by decide) rfl (fun ls hl => ?_)
          refine lv_iinc (k := 1) (v := nI (i + 1)) (pc := 29) (lv' := [(3, .int (nI (i + 1))), (2, .int (nI (n + 1))), (0, .ref m9), (1, .int (nI k))]) hx hb dX8_any_29 hl rfl (x_inc i) (by decide) rfl (fun ls hl => ?_)
          refine lv_goto (tgt := 4) (pc := 32) hx hb dX8_any_32 (by decide) ?_
          exact ih4 (i + 1) (n + 1) H locs ls (by omega) (by omega) (by show _ = anyF L i + slotN (L.getD i 0); omega) hP hD hS hl
  refine lv_iconst (v := nI 0) (pc := 0) hx hb dX8_any_0 kI_0 ?_
  refine lv_istore_n (pc := 1) (lv' := [(2, .int (nI 0)), (0, .ref m9), (1, .int (nI k))]) hx hb dX8_any_1 rfl hl (by decide) rfl (fun ls hl => ?_)
  refine lv_iconst (v := nI 0) (pc := 2) hx hb dX8_any_2 kI_0 ?_
  refine lv_istore_n (pc := 3) (lv' := [(3, .int (nI 0)), (2, .int (nI 0)), (0, .ref m9), (1, .int (nI k))]) hx hb dX8_any_3 rfl hl (by decide) rfl (fun ls hl => ?_)
  exact L4 _ 0 0 _ _ ls (Nat.lt_succ_self _) (by omega) rfl hP hD hS hl
abbrev rm_c_front : Room := { frames := 2, cells := 0, slots := 0, locals := 43 }
set_option maxHeartbeats 4000000 in
set_option maxRecDepth 100000 in
theorem c_front (l : Launch) (D : va_G) (cI cL cC cB cZ cR : ClassId) (sz : Nat) (m9 ad as9 ab at9 ao al an ae ap9 aq ar am : Nat) (th le pl fd9 gr bk kp pe : Int32) (k : Nat) (L : List Nat) (fx : Nat → Int32) (hx9 : oR fx L) (hL : L.length ≤ 40) (hc9 : ∀ x ∈ L, x < 128) (hk : k ≤ L.length) : Met l yX8_front wsX8_front rm_c_front (xPc D vwCl (tyAll cI cL cC cB cZ cR) [.ref m9, .int (nI k)] [(m9, .inr (8, [.int th, .ref ad, .ref as9, .ref ab, .int (nI L.length), .ref at9, .int le, .ref ao, .ref al, .ref an, .ref ae, .ref ap9, .ref aq, .ref ar, .ref am, .int pl, .int fd9, .int gr, .int bk, .int kp, .int pe])), (at9, .inl (cC, 40, .inl fx))] sz) (va_Qv (fun _ : Unit => True) (xB D vwCl (tyAll cI cL cC cB cZ cR) (va_A [(m9, .inr (8, [.int th, .ref ad, .ref as9, .ref ab, .int (nI L.length), .ref at9, .int le, .ref ao, .ref al, .ref an, .ref ae, .ref ap9, .ref aq, .ref ar, .ref am, .int pl, .int fd9, .int gr, .int bk, .int kp, .int pe])), (at9, .inl (cC, 40, .inl fx))] sz) (fun u : Unit => [(m9, .inr (8, [.int th, .ref ad, .ref as9, .ref ab, .int (nI L.length), .ref at9, .int le, .ref ao, .ref al, .ref an, .ref ae, .ref ap9, .ref aq, .ref ar, .ref am, .int pl, .int (nI (fdF L k)), .int (nI (grF L (anyF L k) k)), .int bk, .int kp, .int pe])), (at9, .inl (cC, 40, .inl fx))])) (va_A [(m9, .inr (8, [.int th, .ref ad, .ref as9, .ref ab, .int (nI L.length), .ref at9, .int le, .ref ao, .ref al, .ref an, .ref ae, .ref ap9, .ref aq, .ref ar, .ref am, .int pl, .int fd9, .int gr, .int bk, .int kp, .int pe])), (at9, .inl (cC, 40, .inl fx))] sz)) 0 0 (va_A [(m9, .inr (8, [.int th, .ref ad, .ref as9, .ref ab, .int (nI L.length), .ref at9, .int le, .ref ao, .ref al, .ref an, .ref ae, .ref ap9, .ref aq, .ref ar, .ref am, .int pl, .int fd9, .int gr, .int bk, .int kp, .int pe])), (at9, .inl (cC, 40, .inl fx))] sz) := by
  refine x_of (Qc := fun A => va_Qv (fun _ : Unit => True) (xB D vwCl (tyAll cI cL cC cB cZ cR) A (fun u : Unit => [(m9, .inr (8, [.int th, .ref ad, .ref as9, .ref ab, .int (nI L.length), .ref at9, .int le, .ref ao, .ref al, .ref an, .ref ae, .ref ap9, .ref aq, .ref ar, .ref am, .int pl, .int (nI (fdF L k)), .int (nI (grF L (anyF L k) k)), .int bk, .int kp, .int pe])), (at9, .inl (cC, 40, .inl fx))])) A) (by decide) rfl (Nat.le_of_ble_eq_true rfl) ?_
  intro p e s m args below meth c A H locs ls hx hb hr hts0 hown hlk hml hnm hP hK hD hN hA hS hl
  have hts : ∀ w ∈ wsA, w.before args s = true := fun w h => hts0 w (List.mem_cons_of_mem _ h)
  have hown : s.vm.findClass "WideDecimalDeskModel" = some m.cls := hown
  have hl : lv_has ls 6 [(0, .ref m9), (1, .int (nI k))] := hl
  have L21 : ∀ (kk : Nat) (i : Nat) (H : Heap) (locs : List Loc) (ls : Array Slot) (hk21 : k - i < kk) (hi : i ≤ k) (hP : va_P D vwCl [(m9, .inr (8, [.int th, .ref ad, .ref as9, .ref ab, .int (nI L.length), .ref at9, .int le, .ref ao, .ref al, .ref an, .ref ae, .ref ap9, .ref aq, .ref ar, .ref am, .int pl, .int (nI (fdF L i)), .int (nI (grF L (anyF L k) i)), .int bk, .int kp, .int pe])), (at9, .inl (cC, 40, .inl fx))] H) (hD : va_D A [(m9, .inr (8, [.int th, .ref ad, .ref as9, .ref ab, .int (nI L.length), .ref at9, .int le, .ref ao, .ref al, .ref an, .ref ae, .ref ap9, .ref aq, .ref ar, .ref am, .int pl, .int (nI (fdF L i)), .int (nI (grF L (anyF L k) i)), .int bk, .int kp, .int pe])), (at9, .inl (cC, 40, .inl fx))]) (hS : va_S A s.heap H locs) (hl : lv_has ls 6 [(4, .int (nI i)), (3, .int (nI (anyF L k))), (2, .int (nI (zrF L i))), (0, .ref m9), (1, .int (nI k))]), W p l e rm_c_front s m args below meth c H locs 0 0 (MQ below (va_Qv (fun _ : Unit => True) (xB D vwCl (tyAll cI cL cC cB cZ cR) A (fun u : Unit => [(m9, .inr (8, [.int th, .ref ad, .ref as9, .ref ab, .int (nI L.length), .ref at9, .int le, .ref ao, .ref al, .ref an, .ref ae, .ref ap9, .ref aq, .ref ar, .ref am, .int pl, .int (nI (fdF L k)), .int (nI (grF L (anyF L k) k)), .int bk, .int kp, .int pe])), (at9, .inl (cC, 40, .inl fx))])) A) args s 0 0 A) (F0 m 21 ls []) := by
    intro kk
    induction kk with
    | zero => intro i H locs ls hk; exact absurd hk (Nat.not_lt_zero _)
    | succ kk ih21 =>
      intro i H locs ls hk21 hi hP hD hS hl
      have hx1 := getD_lt (by decide) hc9 i
      have hz1 := zrF_le L i
      have hz2 := zrF_le L (i + 1)
      have hg1 := grF_le L (anyF L k) i
      have ha1 := anyF_le L i
      have ha2 := anyF_le L k
      have L80 : ∀  (H : Heap) (locs : List Loc) (ls : Array Slot) (hik : i < k) (hP : va_P D vwCl [(m9, .inr (8, [.int th, .ref ad, .ref as9, .ref ab, .int (nI L.length), .ref at9, .int le, .ref ao, .ref al, .ref an, .ref ae, .ref ap9, .ref aq, .ref ar, .ref am, .int pl, .int (nI (fdF L (i + 1))), .int (nI (grF L (anyF L k) i)), .int bk, .int kp, .int pe])), (at9, .inl (cC, 40, .inl fx))] H) (hD : va_D A [(m9, .inr (8, [.int th, .ref ad, .ref as9, .ref ab, .int (nI L.length), .ref at9, .int le, .ref ao, .ref al, .ref an, .ref ae, .ref ap9, .ref aq, .ref ar, .ref am, .int pl, .int (nI (fdF L (i + 1))), .int (nI (grF L (anyF L k) i)), .int bk, .int kp, .int pe])), (at9, .inl (cC, 40, .inl fx))]) (hS : va_S A s.heap H locs) (hl : lv_has ls 6 [(4, .int (nI i)), (3, .int (nI (anyF L k))), (2, .int (nI (zrF L (i + 1)))), (0, .ref m9), (1, .int (nI k))]), W p l e rm_c_front s m args below meth c H locs 0 0 (MQ below (va_Qv (fun _ : Unit => True) (xB D vwCl (tyAll cI cL cC cB cZ cR) A (fun u : Unit => [(m9, .inr (8, [.int th, .ref ad, .ref as9, .ref ab, .int (nI L.length), .ref at9, .int le, .ref ao, .ref al, .ref an, .ref ae, .ref ap9, .ref aq, .ref ar, .ref am, .int pl, .int (nI (fdF L k)), .int (nI (grF L (anyF L k) k)), .int bk, .int kp, .int pe])), (at9, .inl (cC, 40, .inl fx))])) A) args s 0 0 A) (F0 m 80 ls []) := by
        intro  H locs ls hik hP hD hS hl
        refine lv_aload_n (pc := 80) hx hb dX8_front_80 rfl (lv_at hl 3 rfl) ?_
        refine lv_iload (pc := 81) hx hb dX8_front_81 (lv_at hl 0 rfl) ?_
        refine x_Vi (pc := 83) (As := [.int (nI i)]) (rest := []) (b := m9) (wr := []) ⟨hx, hb, hml, hown, hts⟩ (c_any l D cI cL cC cB cZ cR H.size m9 ad as9 ab at9 ao al an ae ap9 aq ar am th le pl (nI (fdF L (i + 1))) (nI (grF L (anyF L k) i)) bk kp pe i L fx hx9 hL hc9 (by omega)) ⟨callB_of 1 hts (x_good kw_924) rfl rfl rfl (hts _ kw_9) (hts _ kw_921) dc_X8_any ⟨Nat.le_of_ble_eq_true rfl, Nat.le_of_ble_eq_true rfl⟩, hts _ kw_923, hts _ kp_35⟩ (q0 := 0) rfl rfl rfl rfl hl.1 rfl (Nat.le_of_ble_eq_true rfl) dX8_front_83 ⟨Nat.le_refl _, Nat.le_refl _⟩ hN hK hP hD hS hA [0, 1] [] rfl rfl (by decide) (by decide) (by decide) (fun r83 u83 H locs q83 hP hD hS => ?_)
        have hP : va_P D vwCl [(m9, .inr (8, [.int th, .ref ad, .ref as9, .ref ab, .int (nI L.length), .ref at9, .int le, .ref ao, .ref al, .ref an, .ref ae, .ref ap9, .ref aq, .ref ar, .ref am, .int pl, .int (nI (fdF L (i + 1))), .int (nI (grF L (anyF L k) i)), .int bk, .int kp, .int pe])), (at9, .inl (cC, 40, .inl fx))] H := hP
        have hD : va_D A [(m9, .inr (8, [.int th, .ref ad, .ref as9, .ref ab, .int (nI L.length), .ref at9, .int le, .ref ao, .ref al, .ref an, .ref ae, .ref ap9, .ref aq, .ref ar, .ref am, .int pl, .int (nI (fdF L (i + 1))), .int (nI (grF L (anyF L k) i)), .int bk, .int kp, .int pe])), (at9, .inl (cC, 40, .inl fx))] := hD
        obtain rfl := q83
        refine lv_istore (pc := 86) (lv' := [(5, .int (nI (anyF L i))), (4, .int (nI i)), (3, .int (nI (anyF L k))), (2, .int (nI (zrF L (i + 1)))), (0, .ref m9), (1, .int (nI k))]) hx hb dX8_front_86 hl (by decide) rfl (fun ls hl => ?_)
        refine lv_aload_n (pc := 88) hx hb dX8_front_88 rfl (lv_at hl 4 rfl) ?_
        refine lv_aload_n (pc := 89) hx hb dX8_front_89 rfl (lv_at hl 4 rfl) ?_
        refine va_get (D := D) (ci := 8) (v := .int (nI (grF L (anyF L k) i))) (C := RX8) (T := TX8) (N := 21) (pc := 90) hx hb hts in_X8 hown hK hP 0 rfl rfl 17 (by decide) (hts _ kw_714) (fun _ h9 => h9) rfl dX8_front_90 ?_
        refine x_if_ne (tgt := 119) (pc := 93) hx hb (by omega) dX8_front_93 (by decide) (fun h5 => ?_) (fun h5 => ?_)
        · refine lv_iconst (v := nI 1) (pc := 119) hx hb dX8_front_119 kI_1 ?_
          refine x_i (y := nI (grF L (anyF L k) (i + 1))) (congrArg nI (by first | exact grF_y (Or.inl h5) | exact grF_y (Or.inr ⟨h6, h7, h8⟩))) ?_
          refine lv_goto (tgt := 124) (pc := 120) hx hb dX8_front_120 (by decide) ?_
          refine va_put (D := D) (ci := 8) (v := .int (nI (grF L (anyF L k) (i + 1)))) (ty := .boolean) (C := RX8) (T := TX8) (N := 21) (pc := 124) hx hb hts in_X8 tyX8 ty_X8 nm_X8 hown hK hP hD hS 0 rfl rfl 17 (by decide) (hts _ kw_714) (fun _ h9 => h9) rfl (by decide +kernel) (x_nz (grF_le _ _ _)) (x_fz (grF_le _ _ _)) (Nat.le_of_ble_eq_true rfl) dX8_front_124 (fun H locs hP hD hS => ?_)
          have hP : va_P D vwCl [(m9, .inr (8, [.int th, .ref ad, .ref as9, .ref ab, .int (nI L.length), .ref at9, .int le, .ref ao, .ref al, .ref an, .ref ae, .ref ap9, .ref aq, .ref ar, .ref am, .int pl, .int (nI (fdF L (i + 1))), .int (nI (grF L (anyF L k) (i + 1))), .int bk, .int kp, .int pe])), (at9, .inl (cC, 40, .inl fx))] H := hP
          have hD : va_D A [(m9, .inr (8, [.int th, .ref ad, .ref as9, .ref ab, .int (nI L.length), .ref at9, .int le, .ref ao, .ref al, .ref an, .ref ae, .ref ap9, .ref aq, .ref ar, .ref am, .int pl, .int (nI (fdF L (i + 1))), .int (nI (grF L (anyF L k) (i + 1))), .int bk, .int kp, .int pe])), (at9, .inl (cC, 40, .inl fx))] := hD
          refine lv_iinc (k := 1) (v := nI (i + 1)) (pc := 127) (lv' := [(4, .int (nI (i + 1))), (5, .int (nI (anyF L i))), (3, .int (nI (anyF L k))), (2, .int (nI (zrF L (i + 1)))), (0, .ref m9), (1, .int (nI k))]) hx hb dX8_front_127 hl rfl (x_inc i) (by decide) rfl (fun ls hl => ?_)
          refine lv_goto (tgt := 21) (pc := 130) hx hb dX8_front_130 (by decide) ?_
          have hl := lv_sub (l' := [(4, .int (nI (i + 1))), (3, .int (nI (anyF L k))), (2, .int (nI (zrF L (i + 1)))), (0, .ref m9), (1, .int (nI k))]) hl [0, 2, 3, 4, 5] rfl
          exact ih21 (i + 1) H locs ls (by omega) (by omega) hP hD hS hl
        · refine lv_aload_n (pc := 96) hx hb dX8_front_96 rfl (lv_at hl 4 rfl) ?_
          refine va_get (D := D) (ci := 8) (v := .ref at9) (C := RX8) (T := TX8) (N := 21) (pc := 97) hx hb hts in_X8 hown hK hP 0 rfl rfl 5 (by decide) (hts _ kw_702) (fun _ h9 => h9) rfl dX8_front_97 ?_
          refine lv_iload (pc := 100) hx hb dX8_front_100 (lv_at hl 1 rfl) ?_
          refine x_cald (v := nI (L.getD i 0)) (pc := 102) hx hb hK hP 1 2 rfl rfl (by omega) (by decide) (oR_at hx9 (by omega)) dX8_front_102 ?_
          refine lv_bipush (v := nI 44) (pc := 103) hx hb dX8_front_103 (by decide +kernel) ?_
          refine x_icmp_ne (tgt := 123) (pc := 105) hx hb (by omega) (by omega) dX8_front_105 (by decide) (fun h6 => ?_) (fun h6 => ?_)
          · refine lv_iconst (v := nI 0) (pc := 123) hx hb dX8_front_123 kI_0 ?_
            refine x_i (y := nI (grF L (anyF L k) (i + 1))) (congrArg nI (grF_n (by omega))) ?_
            refine va_put (D := D) (ci := 8) (v := .int (nI (grF L (anyF L k) (i + 1)))) (ty := .boolean) (C := RX8) (T := TX8) (N := 21) (pc := 124) hx hb hts in_X8 tyX8 ty_X8 nm_X8 hown hK hP hD hS 0 rfl rfl 17 (by decide) (hts _ kw_714) (fun _ h9 => h9) rfl (by decide +kernel) (x_nz (grF_le _ _ _)) (x_fz (grF_le _ _ _)) (Nat.le_of_ble_eq_true rfl) dX8_front_124 (fun H locs hP hD hS => ?_)
            have hP : va_P D vwCl [(m9, .inr (8, [.int th, .ref ad, .ref as9, .ref ab, .int (nI L.length), .ref at9, .int le, .ref ao, .ref al, .ref an, .ref ae, .ref ap9, .ref aq, .ref ar, .ref am, .int pl, .int (nI (fdF L (i + 1))), .int (nI (grF L (anyF L k) (i + 1))), .int bk, .int kp, .int pe])), (at9, .inl (cC, 40, .inl fx))] H := hP
            have hD : va_D A [(m9, .inr (8, [.int th, .ref ad, .ref as9, .ref ab, .int (nI L.length), .ref at9, .int le, .ref ao, .ref al, .ref an, .ref ae, .ref ap9, .ref aq, .ref ar, .ref am, .int pl, .int (nI (fdF L (i + 1))), .int (nI (grF L (anyF L k) (i + 1))), .int bk, .int kp, .int pe])), (at9, .inl (cC, 40, .inl fx))] := hD
            refine lv_iinc (k := 1) (v := nI (i + 1)) (pc := 127) (lv' := [(4, .int (nI (i + 1))), (5, .int (nI (anyF L i))), (3, .int (nI (anyF L k))), (2, .int (nI (zrF L (i + 1)))), (0, .ref m9), (1, .int (nI k))]) hx hb dX8_front_127 hl rfl (x_inc i) (by decide) rfl (fun ls hl => ?_)
            refine lv_goto (tgt := 21) (pc := 130) hx hb dX8_front_130 (by decide) ?_
            have hl := lv_sub (l' := [(4, .int (nI (i + 1))), (3, .int (nI (anyF L k))), (2, .int (nI (zrF L (i + 1)))), (0, .ref m9), (1, .int (nI k))]) hl [0, 2, 3, 4, 5] rfl
            exact ih21 (i + 1) H locs ls (by omega) (by omega) hP hD hS hl
          · refine lv_iload (pc := 108) hx hb dX8_front_108 (lv_at hl 0 rfl) ?_
            refine x_if_le (tgt := 123) (pc := 110) hx hb (by omega) dX8_front_110 (by decide) (fun h7 => ?_) (fun h7 => ?_)
            · refine lv_iconst (v := nI 0) (pc := 123) hx hb dX8_front_123 kI_0 ?_
              refine x_i (y := nI (grF L (anyF L k) (i + 1))) (congrArg nI (grF_n (by omega))) ?_
              refine va_put (D := D) (ci := 8) (v := .int (nI (grF L (anyF L k) (i + 1)))) (ty := .boolean) (C := RX8) (T := TX8) (N := 21) (pc := 124) hx hb hts in_X8 tyX8 ty_X8 nm_X8 hown hK hP hD hS 0 rfl rfl 17 (by decide) (hts _ kw_714) (fun _ h9 => h9) rfl (by decide +kernel) (x_nz (grF_le _ _ _)) (x_fz (grF_le _ _ _)) (Nat.le_of_ble_eq_true rfl) dX8_front_124 (fun H locs hP hD hS => ?_)
              have hP : va_P D vwCl [(m9, .inr (8, [.int th, .ref ad, .ref as9, .ref ab, .int (nI L.length), .ref at9, .int le, .ref ao, .ref al, .ref an, .ref ae, .ref ap9, .ref aq, .ref ar, .ref am, .int pl, .int (nI (fdF L (i + 1))), .int (nI (grF L (anyF L k) (i + 1))), .int bk, .int kp, .int pe])), (at9, .inl (cC, 40, .inl fx))] H := hP
              have hD : va_D A [(m9, .inr (8, [.int th, .ref ad, .ref as9, .ref ab, .int (nI L.length), .ref at9, .int le, .ref ao, .ref al, .ref an, .ref ae, .ref ap9, .ref aq, .ref ar, .ref am, .int pl, .int (nI (fdF L (i + 1))), .int (nI (grF L (anyF L k) (i + 1))), .int bk, .int kp, .int pe])), (at9, .inl (cC, 40, .inl fx))] := hD
              refine lv_iinc (k := 1) (v := nI (i + 1)) (pc := 127) (lv' := [(4, .int (nI (i + 1))), (5, .int (nI (anyF L i))), (3, .int (nI (anyF L k))), (2, .int (nI (zrF L (i + 1)))), (0, .ref m9), (1, .int (nI k))]) hx hb dX8_front_127 hl rfl (x_inc i) (by decide) rfl (fun ls hl => ?_)
              refine lv_goto (tgt := 21) (pc := 130) hx hb dX8_front_130 (by decide) ?_
              have hl := lv_sub (l' := [(4, .int (nI (i + 1))), (3, .int (nI (anyF L k))), (2, .int (nI (zrF L (i + 1)))), (0, .ref m9), (1, .int (nI k))]) hl [0, 2, 3, 4, 5] rfl
              exact ih21 (i + 1) H locs ls (by omega) (by omega) hP hD hS hl
            · refine lv_iload (pc := 113) hx hb dX8_front_113 (lv_at hl 0 rfl) ?_
              refine lv_iload_n (pc := 115) hx hb dX8_front_115 rfl (lv_at hl 2 rfl) ?_
              refine x_icmp_ge (tgt := 123) (pc := 116) hx hb (by omega) (by omega) dX8_front_116 (by decide) (fun h8 => ?_) (fun h8 => ?_)
              · refine lv_iconst (v := nI 0) (pc := 123) hx hb dX8_front_123 kI_0 ?_
                refine x_i (y := nI (grF L (anyF L k) (i + 1))) (congrArg nI (grF_n (by omega))) ?_
                refine va_put (D := D) (ci := 8) (v := .int (nI (grF L (anyF L k) (i + 1)))) (ty := .boolean) (C := RX8) (T := TX8) (N := 21) (pc := 124) hx hb hts in_X8 tyX8 ty_X8 nm_X8 hown hK hP hD hS 0 rfl rfl 17 (by decide) (hts _ kw_714) (fun _ h9 => h9) rfl (by decide +kernel) (x_nz (grF_le _ _ _)) (x_fz (grF_le _ _ _)) (Nat.le_of_ble_eq_true rfl) dX8_front_124 (fun H locs hP hD hS => ?_)
                have hP : va_P D vwCl [(m9, .inr (8, [.int th, .ref ad, .ref as9, .ref ab, .int (nI L.length), .ref at9, .int le, .ref ao, .ref al, .ref an, .ref ae, .ref ap9, .ref aq, .ref ar, .ref am, .int pl, .int (nI (fdF L (i + 1))), .int (nI (grF L (anyF L k) (i + 1))), .int bk, .int kp, .int pe])), (at9, .inl (cC, 40, .inl fx))] H := hP
                have hD : va_D A [(m9, .inr (8, [.int th, .ref ad, .ref as9, .ref ab, .int (nI L.length), .ref at9, .int le, .ref ao, .ref al, .ref an, .ref ae, .ref ap9, .ref aq, .ref ar, .ref am, .int pl, .int (nI (fdF L (i + 1))), .int (nI (grF L (anyF L k) (i + 1))), .int bk, .int kp, .int pe])), (at9, .inl (cC, 40, .inl fx))] := hD
                refine lv_iinc (k := 1) (v := nI (i + 1)) (pc := 127) (lv' := [(4, .int (nI (i + 1))), (5, .int (nI (anyF L i))), (3, .int (nI (anyF L k))), (2, .int (nI (zrF L (i + 1)))), (0, .ref m9), (1, .int (nI k))]) hx hb dX8_front_127 hl rfl (x_inc i) (by decide) rfl (fun ls hl => ?_)
                refine lv_goto (tgt := 21) (pc := 130) hx hb dX8_front_130 (by decide) ?_
                have hl := lv_sub (l' := [(4, .int (nI (i + 1))), (3, .int (nI (anyF L k))), (2, .int (nI (zrF L (i + 1)))), (0, .ref m9), (1, .int (nI k))]) hl [0, 2, 3, 4, 5] rfl
                exact ih21 (i + 1) H locs ls (by omega) (by omega) hP hD hS hl
              · refine lv_iconst (v := nI 1) (pc := 119) hx hb dX8_front_119 kI_1 ?_
                refine x_i (y := nI (grF L (anyF L k) (i + 1))) (congrArg nI (by first | exact grF_y (Or.inl h5) | exact grF_y (Or.inr ⟨h6, h7, h8⟩))) ?_
                refine lv_goto (tgt := 124) (pc := 120) hx hb dX8_front_120 (by decide) ?_
                refine va_put (D := D) (ci := 8) (v := .int (nI (grF L (anyF L k) (i + 1)))) (ty := .boolean) (C := RX8) (T := TX8) (N := 21) (pc := 124) hx hb hts in_X8 tyX8 ty_X8 nm_X8 hown hK hP hD hS 0 rfl rfl 17 (by decide) (hts _ kw_714) (fun _ h9 => h9) rfl (by decide +kernel) (x_nz (grF_le _ _ _)) (x_fz (grF_le _ _ _)) (Nat.le_of_ble_eq_true rfl) dX8_front_124 (fun H locs hP hD hS => ?_)
                have hP : va_P D vwCl [(m9, .inr (8, [.int th, .ref ad, .ref as9, .ref ab, .int (nI L.length), .ref at9, .int le, .ref ao, .ref al, .ref an, .ref ae, .ref ap9, .ref aq, .ref ar, .ref am, .int pl, .int (nI (fdF L (i + 1))), .int (nI (grF L (anyF L k) (i + 1))), .int bk, .int kp, .int pe])), (at9, .inl (cC, 40, .inl fx))] H := hP
                have hD : va_D A [(m9, .inr (8, [.int th, .ref ad, .ref as9, .ref ab, .int (nI L.length), .ref at9, .int le, .ref ao, .ref al, .ref an, .ref ae, .ref ap9, .ref aq, .ref ar, .ref am, .int pl, .int (nI (fdF L (i + 1))), .int (nI (grF L (anyF L k) (i + 1))), .int bk, .int kp, .int pe])), (at9, .inl (cC, 40, .inl fx))] := hD
                refine lv_iinc (k := 1) (v := nI (i + 1)) (pc := 127) (lv' := [(4, .int (nI (i + 1))), (5, .int (nI (anyF L i))), (3, .int (nI (anyF L k))), (2, .int (nI (zrF L (i + 1)))), (0, .ref m9), (1, .int (nI k))]) hx hb dX8_front_127 hl rfl (x_inc i) (by decide) rfl (fun ls hl => ?_)
                refine lv_goto (tgt := 21) (pc := 130) hx hb dX8_front_130 (by decide) ?_
                have hl := lv_sub (l' := [(4, .int (nI (i + 1))), (3, .int (nI (anyF L k))), (2, .int (nI (zrF L (i + 1)))), (0, .ref m9), (1, .int (nI k))]) hl [0, 2, 3, 4, 5] rfl
                exact ih21 (i + 1) H locs ls (by omega) (by omega) hP hD hS hl
      have L48 : ∀  (H : Heap) (locs : List Loc) (ls : Array Slot) (hik : i < k) (hP : va_P D vwCl [(m9, .inr (8, [.int th, .ref ad, .ref as9, .ref ab, .int (nI L.length), .ref at9, .int le, .ref ao, .ref al, .ref an, .ref ae, .ref ap9, .ref aq, .ref ar, .ref am, .int pl, .int (nI (fdF L i)), .int (nI (grF L (anyF L k) i)), .int bk, .int kp, .int pe])), (at9, .inl (cC, 40, .inl fx))] H) (hD : va_D A [(m9, .inr (8, [.int th, .ref ad, .ref as9, .ref ab, .int (nI L.length), .ref at9, .int le, .ref ao, .ref al, .ref an, .ref ae, .ref ap9, .ref aq, .ref ar, .ref am, .int pl, .int (nI (fdF L i)), .int (nI (grF L (anyF L k) i)), .int bk, .int kp, .int pe])), (at9, .inl (cC, 40, .inl fx))]) (hS : va_S A s.heap H locs) (hl : lv_has ls 6 [(4, .int (nI i)), (3, .int (nI (anyF L k))), (0, .ref m9), (1, .int (nI k))]), W p l e rm_c_front s m args below meth c H locs 0 0 (MQ below (va_Qv (fun _ : Unit => True) (xB D vwCl (tyAll cI cL cC cB cZ cR) A (fun u : Unit => [(m9, .inr (8, [.int th, .ref ad, .ref as9, .ref ab, .int (nI L.length), .ref at9, .int le, .ref ao, .ref al, .ref an, .ref ae, .ref ap9, .ref aq, .ref ar, .ref am, .int pl, .int (nI (fdF L k)), .int (nI (grF L (anyF L k) k)), .int bk, .int kp, .int pe])), (at9, .inl (cC, 40, .inl fx))])) A) args s 0 0 A) (F0 m 48 ls [.int (nI (zrF L (i + 1)))]) := by
        intro  H locs ls hik hP hD hS hl
        refine lv_istore_n (pc := 48) (lv' := [(2, .int (nI (zrF L (i + 1)))), (4, .int (nI i)), (3, .int (nI (anyF L k))), (0, .ref m9), (1, .int (nI k))]) hx hb dX8_front_48 rfl hl (by decide) rfl (fun ls hl => ?_)
        refine lv_aload_n (pc := 49) hx hb dX8_front_49 rfl (lv_at hl 3 rfl) ?_
        refine lv_aload_n (pc := 50) hx hb dX8_front_50 rfl (lv_at hl 3 rfl) ?_
        refine va_get (D := D) (ci := 8) (v := .int (nI (fdF L i))) (C := RX8) (T := TX8) (N := 21) (pc := 51) hx hb hts in_X8 hown hK hP 0 rfl rfl 16 (by decide) (hts _ kw_713) (fun _ h9 => h9) rfl dX8_front_51 ?_
        refine lv_iload_n (pc := 54) hx hb dX8_front_54 rfl (lv_at hl 0 rfl) ?_
        refine x_if_eq (tgt := 75) (pc := 55) hx hb (by omega) dX8_front_55 (by decide) (fun h3 => ?_) (fun h3 => ?_)
        · refine lv_iconst (v := nI 0) (pc := 75) hx hb dX8_front_75 kI_0 ?_
          refine lv_iadd (pc := 76) hx hb dX8_front_76 ?_
          refine x_i (y := nI (fdF L (i + 1))) ((nI_add _ _).trans (congrArg nI (by first | exact fdF_y ⟨h3, h4⟩ | exact fdF_n (fun z => z.1 h3) | exact fdF_n (fun z => z.2 h4)))) ?_
          refine va_put (D := D) (ci := 8) (v := .int (nI (fdF L (i + 1)))) (ty := .int) (C := RX8) (T := TX8) (N := 21) (pc := 77) hx hb hts in_X8 tyX8 ty_X8 nm_X8 hown hK hP hD hS 0 rfl rfl 16 (by decide) (hts _ kw_713) (fun _ h9 => h9) rfl (by decide +kernel) rfl rfl (Nat.le_of_ble_eq_true rfl) dX8_front_77 (fun H locs hP hD hS => ?_)
          have hP : va_P D vwCl [(m9, .inr (8, [.int th, .ref ad, .ref as9, .ref ab, .int (nI L.length), .ref at9, .int le, .ref ao, .ref al, .ref an, .ref ae, .ref ap9, .ref aq, .ref ar, .ref am, .int pl, .int (nI (fdF L (i + 1))), .int (nI (grF L (anyF L k) i)), .int bk, .int kp, .int pe])), (at9, .inl (cC, 40, .inl fx))] H := hP
          have hD : va_D A [(m9, .inr (8, [.int th, .ref ad, .ref as9, .ref ab, .int (nI L.length), .ref at9, .int le, .ref ao, .ref al, .ref an, .ref ae, .ref ap9, .ref aq, .ref ar, .ref am, .int pl, .int (nI (fdF L (i + 1))), .int (nI (grF L (anyF L k) i)), .int bk, .int kp, .int pe])), (at9, .inl (cC, 40, .inl fx))] := hD
          have hl := lv_sub (l' := [(4, .int (nI i)), (3, .int (nI (anyF L k))), (2, .int (nI (zrF L (i + 1)))), (0, .ref m9), (1, .int (nI k))]) hl [1, 2, 0, 3, 4] rfl
          exact L80  _ _ ls hik hP hD hS hl
        · refine lv_aload_n (pc := 58) hx hb dX8_front_58 rfl (lv_at hl 3 rfl) ?_
          refine va_get (D := D) (ci := 8) (v := .ref at9) (C := RX8) (T := TX8) (N := 21) (pc := 59) hx hb hts in_X8 hown hK hP 0 rfl rfl 5 (by decide) (hts _ kw_702) (fun _ h9 => h9) rfl dX8_front_59 ?_
          refine lv_iload (pc := 62) hx hb dX8_front_62 (lv_at hl 1 rfl) ?_
          refine x_cald (v := nI (L.getD i 0)) (pc := 64) hx hb hK hP 1 2 rfl rfl (by omega) (by decide) (oR_at hx9 (by omega)) dX8_front_64 ?_
          refine x_Si (pc := 65) (As := [.int (nI (L.getD i 0))]) (rest := [.int (nI (fdF L i)), .ref m9]) (wr := [(m9, .inr (8, [.int th, .ref ad, .ref as9, .ref ab, .int (nI L.length), .ref at9, .int le, .ref ao, .ref al, .ref an, .ref ae, .ref ap9, .ref aq, .ref ar, .ref am, .int pl, .int (nI (fdF L i)), .int (nI (grF L (anyF L k) i)), .int bk, .int kp, .int pe])), (at9, .inl (cC, 40, .inl fx))]) ⟨hx, hb, hml, hown, hts⟩ (c_slot l D cI cL cC cB cZ cR H.size (L.getD i 0) (by omega)) ⟨callB_of 1 hts (x_good kw_912) rfl rfl rfl (hts _ kw_9) (hts _ kw_910) dc_X8_slot ⟨Nat.le_of_ble_eq_true rfl, Nat.le_of_ble_eq_true rfl⟩, hts _ kw_911⟩ rfl hl.1 rfl (Nat.le_of_ble_eq_true rfl) dX8_front_65 ⟨Nat.le_refl _, Nat.le_refl _⟩ hN hK hP hD hS hA [] [0, 1] rfl rfl (by decide) (by decide) (by decide) (fun r65 u65 H locs q65 hP hD hS => ?_)
          have hP : va_P D vwCl [(m9, .inr (8, [.int th, .ref ad, .ref as9, .ref ab, .int (nI L.length), .ref at9, .int le, .ref ao, .ref al, .ref an, .ref ae, .ref ap9, .ref aq, .ref ar, .ref am, .int pl, .int (nI (fdF L i)), .int (nI (grF L (anyF L k) i)), .int bk, .int kp, .int pe])), (at9, .inl (cC, 40, .inl fx))] H := hP
          have hD : va_D A [(m9, .inr (8, [.int th, .ref ad, .ref as9, .ref ab, .int (nI L.length), .ref at9, .int le, .ref ao, .ref al, .ref an, .ref ae, .ref ap9, .ref aq, .ref ar, .ref am, .int pl, .int (nI (fdF L i)), .int (nI (grF L (anyF L k) i)), .int bk, .int kp, .int pe])), (at9, .inl (cC, 40, .inl fx))] := hD
          obtain rfl := q65
          have hsl := slotN_sp (L.getD i 0)
          refine x_if_eq (tgt := 75) (pc := 68) hx hb (by omega) dX8_front_68 (by decide) (fun h4 => ?_) (fun h4 => ?_)
          · refine lv_iconst (v := nI 0) (pc := 75) hx hb dX8_front_75 kI_0 ?_
            refine lv_iadd (pc := 76) hx hb dX8_front_76 ?_
            refine x_i (y := nI (fdF L (i + 1))) ((nI_add _ _).trans (congrArg nI (by first | exact fdF_y ⟨h3, h4⟩ | exact fdF_n (fun z => z.1 h3) | exact fdF_n (fun z => z.2 h4)))) ?_
            refine va_put (D := D) (ci := 8) (v := .int (nI (fdF L (i + 1)))) (ty := .int) (C := RX8) (T := TX8) (N := 21) (pc := 77) hx hb hts in_X8 tyX8 ty_X8 nm_X8 hown hK hP hD hS 0 rfl rfl 16 (by decide) (hts _ kw_713) (fun _ h9 => h9) rfl (by decide +kernel) rfl rfl (Nat.le_of_ble_eq_true rfl) dX8_front_77 (fun H locs hP hD hS => ?_)
            have hP : va_P D vwCl [(m9, .inr (8, [.int th, .ref ad, .ref as9, .ref ab, .int (nI L.length), .ref at9, .int le, .ref ao, .ref al, .ref an, .ref ae, .ref ap9, .ref aq, .ref ar, .ref am, .int pl, .int (nI (fdF L (i + 1))), .int (nI (grF L (anyF L k) i)), .int bk, .int kp, .int pe])), (at9, .inl (cC, 40, .inl fx))] H := hP
            have hD : va_D A [(m9, .inr (8, [.int th, .ref ad, .ref as9, .ref ab, .int (nI L.length), .ref at9, .int le, .ref ao, .ref al, .ref an, .ref ae, .ref ap9, .ref aq, .ref ar, .ref am, .int pl, .int (nI (fdF L (i + 1))), .int (nI (grF L (anyF L k) i)), .int bk, .int kp, .int pe])), (at9, .inl (cC, 40, .inl fx))] := hD
            have hl := lv_sub (l' := [(4, .int (nI i)), (3, .int (nI (anyF L k))), (2, .int (nI (zrF L (i + 1)))), (0, .ref m9), (1, .int (nI k))]) hl [1, 2, 0, 3, 4] rfl
            exact L80  _ _ ls hik hP hD hS hl
          · refine lv_iconst (v := nI 1) (pc := 71) hx hb dX8_front_71 kI_1 ?_
            refine lv_goto (tgt := 76) (pc := 72) hx hb dX8_front_72 (by decide) ?_
            refine lv_iadd (pc := 76) hx hb dX8_front_76 ?_
            refine x_i (y := nI (fdF L (i + 1))) ((nI_add _ _).trans (congrArg nI (by first | exact fdF_y ⟨h3, h4⟩ | exact fdF_n (fun z => z.1 h3) | exact fdF_n (fun z => z.2 h4)))) ?_
            refine va_put (D := D) (ci := 8) (v := .int (nI (fdF L (i + 1)))) (ty := .int) (C := RX8) (T := TX8) (N := 21) (pc := 77) hx hb hts in_X8 tyX8 ty_X8 nm_X8 hown hK hP hD hS 0 rfl rfl 16 (by decide) (hts _ kw_713) (fun _ h9 => h9) rfl (by decide +kernel) rfl rfl (Nat.le_of_ble_eq_true rfl) dX8_front_77 (fun H locs hP hD hS => ?_)
            have hP : va_P D vwCl [(m9, .inr (8, [.int th, .ref ad, .ref as9, .ref ab, .int (nI L.length), .ref at9, .int le, .ref ao, .ref al, .ref an, .ref ae, .ref ap9, .ref aq, .ref ar, .ref am, .int pl, .int (nI (fdF L (i + 1))), .int (nI (grF L (anyF L k) i)), .int bk, .int kp, .int pe])), (at9, .inl (cC, 40, .inl fx))] H := hP
            have hD : va_D A [(m9, .inr (8, [.int th, .ref ad, .ref as9, .ref ab, .int (nI L.length), .ref at9, .int le, .ref ao, .ref al, .ref an, .ref ae, .ref ap9, .ref aq, .ref ar, .ref am, .int pl, .int (nI (fdF L (i + 1))), .int (nI (grF L (anyF L k) i)), .int bk, .int kp, .int pe])), (at9, .inl (cC, 40, .inl fx))] := hD
            have hl := lv_sub (l' := [(4, .int (nI i)), (3, .int (nI (anyF L k))), (2, .int (nI (zrF L (i + 1)))), (0, .ref m9), (1, .int (nI k))]) hl [1, 2, 0, 3, 4] rfl
            exact L80  _ _ ls hik hP hD hS hl
      refine lv_iload (pc := 21) hx hb dX8_front_21 (lv_at hl 0 rfl) ?_
      refine lv_iload_n (pc := 23) hx hb dX8_front_23 rfl (lv_at hl 4 rfl) ?_
      refine x_icmp_ge (tgt := 133) (pc := 24) hx hb (by omega) (by omega) dX8_front_24 (by decide) (fun hc => ?_) (fun hc => ?_)
      · have hik2 : k = i := by omega
        subst hik2
        exact x_retv (pc := 133) hx hb hr hlk () trivial hP hK hD hS dX8_front_133
      · refine lv_iload_n (pc := 27) hx hb dX8_front_27 rfl (lv_at hl 2 rfl) ?_
        refine x_if_ne (tgt := 43) (pc := 28) hx hb (by omega) dX8_front_28 (by decide) (fun h1 => ?_) (fun h1 => ?_)
        · refine lv_iconst (v := nI 1) (pc := 43) hx hb dX8_front_43 kI_1 ?_
          refine x_i (y := nI (zrF L (i + 1))) (congrArg nI (by first | exact zrF_y (Or.inl h1) | exact zrF_y (Or.inr h2))) ?_
          refine lv_goto (tgt := 48) (pc := 44) hx hb dX8_front_44 (by decide) ?_
          have hl := lv_sub (l' := [(4, .int (nI i)), (3, .int (nI (anyF L k))), (0, .ref m9), (1, .int (nI k))]) hl [0, 1, 3, 4] rfl
          exact L48  _ _ ls (by omega) hP hD hS hl
        · refine lv_aload_n (pc := 31) hx hb dX8_front_31 rfl (lv_at hl 3 rfl) ?_
          refine va_get (D := D) (ci := 8) (v := .ref at9) (C := RX8) (T := TX8) (N := 21) (pc := 32) hx hb hts in_X8 hown hK hP 0 rfl rfl 5 (by decide) (hts _ kw_702) (fun _ h9 => h9) rfl dX8_front_32 ?_
          refine lv_iload (pc := 35) hx hb dX8_front_35 (lv_at hl 0 rfl) ?_
          refine x_cald (v := nI (L.getD i 0)) (pc := 37) hx hb hK hP 1 2 rfl rfl (by omega) (by decide) (oR_at hx9 (by omega)) dX8_front_37 ?_
          refine lv_bipush (v := nI 48) (pc := 38) hx hb dX8_front_38 (by decide +kernel) ?_
          refine x_icmp_ne (tgt := 47) (pc := 40) hx hb (by omega) (by omega) dX8_front_40 (by decide) (fun h2 => ?_) (fun h2 => ?_)
          · refine lv_iconst (v := nI 0) (pc := 47) hx hb dX8_front_47 kI_0 ?_
            refine x_i (y := nI (zrF L (i + 1))) (congrArg nI (zrF_n (by omega))) ?_
            have hl := lv_sub (l' := [(4, .int (nI i)), (3, .int (nI (anyF L k))), (0, .ref m9), (1, .int (nI k))]) hl [0, 1, 3, 4] rfl
            exact L48  _ _ ls (by omega) hP hD hS hl
          · refine lv_iconst (v := nI 1) (pc := 43) hx hb dX8_front_43 kI_1 ?_
            refine x_i (y := nI (zrF L (i + 1))) (congrArg nI (by first | exact zrF_y (Or.inl h1) | exact zrF_y (Or.inr h2))) ?_
            refine lv_goto (tgt := 48) (pc := 44) hx hb dX8_front_44 (by decide) ?_
            have hl := lv_sub (l' := [(4, .int (nI i)), (3, .int (nI (anyF L k))), (0, .ref m9), (1, .int (nI k))]) hl [0, 1, 3, 4] rfl
            exact L48  _ _ ls (by omega) hP hD hS hl
  refine lv_aload_n (pc := 0) hx hb dX8_front_0 rfl (lv_at hl 0 rfl) ?_
  refine lv_iconst (v := nI 0) (pc := 1) hx hb dX8_front_1 kI_0 ?_
  refine va_put (D := D) (ci := 8) (v := .int (nI 0)) (ty := .int) (C := RX8) (T := TX8) (N := 21) (pc := 2) hx hb hts in_X8 tyX8 ty_X8 nm_X8 hown hK hP hD hS 0 rfl rfl 16 (by decide) (hts _ kw_713) (fun _ h9 => h9) rfl (by decide +kernel) rfl rfl (Nat.le_of_ble_eq_true rfl) dX8_front_2 (fun H locs hP hD hS => ?_)
  have hP : va_P D vwCl [(m9, .inr (8, [.int th, .ref ad, .ref as9, .ref ab, .int (nI L.length), .ref at9, .int le, .ref ao, .ref al, .ref an, .ref ae, .ref ap9, .ref aq, .ref ar, .ref am, .int pl, .int (nI 0), .int gr, .int bk, .int kp, .int pe])), (at9, .inl (cC, 40, .inl fx))] H := hP
  have hD : va_D A [(m9, .inr (8, [.int th, .ref ad, .ref as9, .ref ab, .int (nI L.length), .ref at9, .int le, .ref ao, .ref al, .ref an, .ref ae, .ref ap9, .ref aq, .ref ar, .ref am, .int pl, .int (nI 0), .int gr, .int bk, .int kp, .int pe])), (at9, .inl (cC, 40, .inl fx))] := hD
  refine lv_aload_n (pc := 5) hx hb dX8_front_5 rfl (lv_at hl 0 rfl) ?_
  refine lv_iconst (v := nI 0) (pc := 6) hx hb dX8_front_6 kI_0 ?_
  refine va_put (D := D) (ci := 8) (v := .int (nI 0)) (ty := .boolean) (C := RX8) (T := TX8) (N := 21) (pc := 7) hx hb hts in_X8 tyX8 ty_X8 nm_X8 hown hK hP hD hS 0 rfl rfl 17 (by decide) (hts _ kw_714) (fun _ h9 => h9) rfl (by decide +kernel) rfl rfl (Nat.le_of_ble_eq_true rfl) dX8_front_7 (fun H locs hP hD hS => ?_)
  have hP : va_P D vwCl [(m9, .inr (8, [.int th, .ref ad, .ref as9, .ref ab, .int (nI L.length), .ref at9, .int le, .ref ao, .ref al, .ref an, .ref ae, .ref ap9, .ref aq, .ref ar, .ref am, .int pl, .int (nI 0), .int (nI 0), .int bk, .int kp, .int pe])), (at9, .inl (cC, 40, .inl fx))] H := hP
  have hD : va_D A [(m9, .inr (8, [.int th, .ref ad, .ref as9, .ref ab, .int (nI L.length), .ref at9, .int le, .ref ao, .ref al, .ref an, .ref ae, .ref ap9, .ref aq, .ref ar, .ref am, .int pl, .int (nI 0), .int (nI 0), .int bk, .int kp, .int pe])), (at9, .inl (cC, 40, .inl fx))] := hD
  refine lv_iconst (v := nI 0) (pc := 10) hx hb dX8_front_10 kI_0 ?_
  refine lv_istore_n (pc := 11) (lv' := [(2, .int (nI 0)), (0, .ref m9), (1, .int (nI k))]) hx hb dX8_front_11 rfl hl (by decide) rfl (fun ls hl => ?_)
  refine lv_aload_n (pc := 12) hx hb dX8_front_12 rfl (lv_at hl 1 rfl) ?_
  refine lv_iload_n (pc := 13) hx hb dX8_front_13 rfl (lv_at hl 2 rfl) ?_
  refine x_Vi (pc := 14) (As := [.int (nI k)]) (rest := []) (b := m9) (wr := []) ⟨hx, hb, hml, hown, hts⟩ (c_any l D cI cL cC cB cZ cR H.size m9 ad as9 ab at9 ao al an ae ap9 aq ar am th le pl (nI 0) (nI 0) bk kp pe k L fx hx9 hL hc9 hk) ⟨callB_of 1 hts (x_good kw_924) rfl rfl rfl (hts _ kw_9) (hts _ kw_921) dc_X8_any ⟨Nat.le_of_ble_eq_true rfl, Nat.le_of_ble_eq_true rfl⟩, hts _ kw_923, hts _ kp_35⟩ (q0 := 0) rfl rfl rfl rfl hl.1 rfl (Nat.le_of_ble_eq_true rfl) dX8_front_14 ⟨Nat.le_refl _, Nat.le_refl _⟩ hN hK hP hD hS hA [0, 1] [] rfl rfl (by decide) (by decide) (by decide) (fun r14 u14 H locs q14 hP hD hS => ?_)
  have hP : va_P D vwCl [(m9, .inr (8, [.int th, .ref ad, .ref as9, .ref ab, .int (nI L.length), .ref at9, .int le, .ref ao, .ref al, .ref an, .ref ae, .ref ap9, .ref aq, .ref ar, .ref am, .int pl, .int (nI 0), .int (nI 0), .int bk, .int kp, .int pe])), (at9, .inl (cC, 40, .inl fx))] H := hP
  have hD : va_D A [(m9, .inr (8, [.int th, .ref ad, .ref as9, .ref ab, .int (nI L.length), .ref at9, .int le, .ref ao, .ref al, .ref an, .ref ae, .ref ap9, .ref aq, .ref ar, .ref am, .int pl, .int (nI 0), .int (nI 0), .int bk, .int kp, .int pe])), (at9, .inl (cC, 40, .inl fx))] := hD
  obtain rfl := q14
  refine lv_istore_n (pc := 17) (lv' := [(3, .int (nI (anyF L k))), (2, .int (nI 0)), (0, .ref m9), (1, .int (nI k))]) hx hb dX8_front_17 rfl hl (by decide) rfl (fun ls hl => ?_)
  refine lv_iconst (v := nI 0) (pc := 18) hx hb dX8_front_18 kI_0 ?_
  refine lv_istore (pc := 19) (lv' := [(4, .int (nI 0)), (3, .int (nI (anyF L k))), (2, .int (nI 0)), (0, .ref m9), (1, .int (nI k))]) hx hb dX8_front_19 hl (by decide) rfl (fun ls hl => ?_)
  have hl : lv_has ls 6 [(4, .int (nI 0)), (3, .int (nI (anyF L k))), (2, .int (nI (zrF L 0))), (0, .ref m9), (1, .int (nI k))] := hl
  exact L21 _ 0 _ _ ls (Nat.lt_succ_self _) (by omega) hP hD hS hl
