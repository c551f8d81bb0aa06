abbrev rm_c_zero : Room := { frames := 0, cells := 0, slots := 0, locals := 0 }
set_option maxHeartbeats 4000000 in
set_option maxRecDepth 100000 in
theorem c_zero (l : Launch) (D : va_G) (cI cL cC cB cZ cR : ClassId) (sz : Nat) (x : Nat) (f : Nat → Int32)  : Met l yX8_zero wsX8_zero rm_c_zero (xPc D vwCl (tyAll cI cL cC cB cZ cR) [.ref x] [(x, .inl (cI, 100, .inl f))] sz) (va_Qv (fun u : Nat → Int32 => dR u 0) (xB D vwCl (tyAll cI cL cC cB cZ cR) (va_A [(x, .inl (cI, 100, .inl f))] sz) (fun u : (Nat → Int32) => [(x, .inl (cI, 100, .inl u))])) (va_A [(x, .inl (cI, 100, .inl f))] sz)) 0 0 (va_A [(x, .inl (cI, 100, .inl f))] sz) := by
  refine x_of (Qc := fun A => va_Qv (fun u : Nat → Int32 => dR u 0) (xB D vwCl (tyAll cI cL cC cB cZ cR) A (fun u : (Nat → Int32) => [(x, .inl (cI, 100, .inl u))])) A) (by decide) rfl (Nat.le_of_ble_eq_true rfl) ?_
  intro p e s m args below meth c A H locs ls hx hb hr hts0 hown hlk hml hnm hP hK hD hN hA hS hl
  have hts : ∀ w ∈ wsA, w.before args s = true := fun w h => hts0 w (List.mem_cons_of_mem _ h)
  have hown : s.vm.findClass "WideDecimalDeskModel" = some m.cls := hown
  have hl : lv_has ls 2 [(0, .ref x)] := hl
  have L2 : ∀ (kk : Nat) (i : Nat) (f : Nat → Int32) (H : Heap) (locs : List Loc) (ls : Array Slot) (hk2 : 100 - i < kk) (hi : i ≤ 100) (hf : rI i f (dg 10 0)) (hP : va_P D vwCl [(x, .inl (cI, 100, .inl f))] H) (hD : va_D A [(x, .inl (cI, 100, .inl f))]) (hS : va_S A s.heap H locs) (hl : lv_has ls 2 [(1, .int (nI i)), (0, .ref x)]), W p l e rm_c_zero s m args below meth c H locs 0 0 (MQ below (va_Qv (fun u : Nat → Int32 => dR u 0) (xB D vwCl (tyAll cI cL cC cB cZ cR) A (fun u : (Nat → Int32) => [(x, .inl (cI, 100, .inl u))])) A) args s 0 0 A) (F0 m 2 ls []) := by
    intro kk
    induction kk with
    | zero => intro i f H locs ls hk; exact absurd hk (Nat.not_lt_zero _)
    | succ kk ih2 =>
      intro i f H locs ls hk2 hi hf hP hD hS hl
      refine lv_iload_n (pc := 2) hx hb dX8_zero_2 rfl (lv_at hl 0 rfl) ?_
      refine lv_bipush (v := nI 100) (pc := 3) hx hb dX8_zero_3 (by decide +kernel) ?_
      refine x_icmp_ge (tgt := 18) (pc := 5) hx hb (by omega) (by omega) dX8_zero_5 (by decide) (fun hc => ?_) (fun hc => ?_)
      · exact x_retv (pc := 18) hx hb hr hlk f (by have h : i = 100 := (by omega); subst h; exact hf) hP hK hD hS dX8_zero_18
      · refine lv_aload_n (pc := 8) hx hb dX8_zero_8 rfl (lv_at hl 1 rfl) ?_
        refine lv_iload_n (pc := 9) hx hb dX8_zero_9 rfl (lv_at hl 0 rfl) ?_
        refine lv_iconst (v := nI 0) (pc := 10) hx hb dX8_zero_10 kI_0 ?_
        refine x_iast (pc := 11) hx hb hK hP hD hS 0 0 rfl rfl (by omega) (by decide) dX8_zero_11 (fun H locs hP hD hS => ?_)
        have hP : va_P D vwCl [(x, .inl (cI, 100, .inl (upd f i (nI 0))))] H := hP
        have hD : va_D A [(x, .inl (cI, 100, .inl (upd f i (nI 0))))] := hD
        refine lv_iinc (k := 0) (v := nI (i + 1)) (pc := 12) (lv' := [(1, .int (nI (i + 1))), (0, .ref x)]) hx hb dX8_zero_12 hl rfl (x_inc i) (by decide) rfl (fun ls hl => ?_)
        refine lv_goto (tgt := 2) (pc := 15) hx hb dX8_zero_15 (by decide) ?_
        exact ih2 (i + 1) (upd f i (nI 0)) H locs ls (by omega) (by omega) (rI_push hf (by rw [dg_0])) hP hD hS hl
  refine lv_iconst (v := nI 0) (pc := 0) hx hb dX8_zero_0 kI_0 ?_
  refine lv_istore_n (pc := 1) (lv' := [(1, .int (nI 0)), (0, .ref x)]) hx hb dX8_zero_1 rfl hl (by decide) rfl (fun ls hl => ?_)
  exact L2 _ 0 f _ _ ls (Nat.lt_succ_self _) (by omega) rI_nil hP hD hS hl
abbrev rm_c_copy : Room := { frames := 0, cells := 0, slots := 0, locals := 0 }
set_option maxHeartbeats 4000000 in
set_option maxRecDepth 100000 in
theorem c_copy (l : Launch) (D : va_G) (cI cL cC cB cZ cR : ClassId) (sz : Nat) (x y v : Nat) (f g : Nat → Int32) (hf : dR f v) : Met l yX8_copy wsX8_copy rm_c_copy (xPc D vwCl (tyAll cI cL cC cB cZ cR) [.ref x, .ref y] [(x, .inl (cI, 100, .inl f)), (y, .inl (cI, 100, .inl g))] sz) (va_Qv (fun u : Nat → Int32 => dR u v) (xB D vwCl (tyAll cI cL cC cB cZ cR) (va_A [(x, .inl (cI, 100, .inl f)), (y, .inl (cI, 100, .inl g))] sz) (fun u : (Nat → Int32) => [(x, .inl (cI, 100, .inl f)), (y, .inl (cI, 100, .inl u))])) (va_A [(x, .inl (cI, 100, .inl f)), (y, .inl (cI, 100, .inl g))] sz)) 0 0 (va_A [(x, .inl (cI, 100, .inl f)), (y, .inl (cI, 100, .inl g))] sz) := by
  refine x_of (Qc := fun A => va_Qv (fun u : Nat → Int32 => dR u v) (xB D vwCl (tyAll cI cL cC cB cZ cR) A (fun u : (Nat → Int32) => [(x, .inl (cI, 100, .inl f)), (y, .inl (cI, 100, .inl u))])) A) (by decide) rfl (Nat.le_of_ble_eq_true rfl) ?_
  intro p e s m args below meth c A H locs ls hx hb hr hts0 hown hlk hml hnm hP hK hD hN hA hS hl
  have hts : ∀ w ∈ wsA, w.before args s = true := fun w h => hts0 w (List.mem_cons_of_mem _ h)
  have hown : s.vm.findClass "WideDecimalDeskModel" = some m.cls := hown
  have hl : lv_has ls 3 [(0, .ref x), (1, .ref y)] := hl
  have L2 : ∀ (kk : Nat) (i : Nat) (g : Nat → Int32) (H : Heap) (locs : List Loc) (ls : Array Slot) (hk2 : 100 - i < kk) (hi : i ≤ 100) (hg : rI i g (dg 10 v)) (hP : va_P D vwCl [(x, .inl (cI, 100, .inl f)), (y, .inl (cI, 100, .inl g))] H) (hD : va_D A [(x, .inl (cI, 100, .inl f)), (y, .inl (cI, 100, .inl g))]) (hS : va_S A s.heap H locs) (hl : lv_has ls 3 [(2, .int (nI i)), (0, .ref x), (1, .ref y)]), W p l e rm_c_copy s m args below meth c H locs 0 0 (MQ below (va_Qv (fun u : Nat → Int32 => dR u v) (xB D vwCl (tyAll cI cL cC cB cZ cR) A (fun u : (Nat → Int32) => [(x, .inl (cI, 100, .inl f)), (y, .inl (cI, 100, .inl u))])) A) args s 0 0 A) (F0 m 2 ls []) := by
    intro kk
    induction kk with
    | zero => intro i g H locs ls hk; exact absurd hk (Nat.not_lt_zero _)
    | succ kk ih2 =>
      intro i g H locs ls hk2 hi hg hP hD hS hl
      refine lv_iload_n (pc := 2) hx hb dX8_copy_2 rfl (lv_at hl 0 rfl) ?_
      refine lv_bipush (v := nI 100) (pc := 3) hx hb dX8_copy_3 (by decide +kernel) ?_
      refine x_icmp_ge (tgt := 20) (pc := 5) hx hb (by omega) (by omega) dX8_copy_5 (by decide) (fun hc => ?_) (fun hc => ?_)
      · exact x_retv (pc := 20) hx hb hr hlk g (by have h : i = 100 := (by omega); subst h; exact hg) hP hK hD hS dX8_copy_20
      · refine lv_aload_n (pc := 8) hx hb dX8_copy_8 rfl (lv_at hl 2 rfl) ?_
        refine lv_iload_n (pc := 9) hx hb dX8_copy_9 rfl (lv_at hl 0 rfl) ?_
        refine lv_aload_n (pc := 10) hx hb dX8_copy_10 rfl (lv_at hl 1 rfl) ?_
        refine lv_iload_n (pc := 11) hx hb dX8_copy_11 rfl (lv_at hl 0 rfl) ?_
        refine x_iald (v := nI (dg 10 v i)) (pc := 12) hx hb hK hP 0 0 rfl rfl (by omega) (by decide) (hf i (by omega)) dX8_copy_12 ?_
        refine x_iast (pc := 13) hx hb hK hP hD hS 1 0 rfl rfl (by omega) (by decide) dX8_copy_13 (fun H locs hP hD hS => ?_)
        have hP : va_P D vwCl [(x, .inl (cI, 100, .inl f)), (y, .inl (cI, 100, .inl (upd g i (nI (dg 10 v i)))))] H := hP
        have hD : va_D A [(x, .inl (cI, 100, .inl f)), (y, .inl (cI, 100, .inl (upd g i (nI (dg 10 v i)))))] := hD
        refine lv_iinc (k := 0) (v := nI (i + 1)) (pc := 14) (lv' := [(2, .int (nI (i + 1))), (0, .ref x), (1, .ref y)]) hx hb dX8_copy_14 hl rfl (x_inc i) (by decide) rfl (fun ls hl => ?_)
        refine lv_goto (tgt := 2) (pc := 17) hx hb dX8_copy_17 (by decide) ?_
        exact ih2 (i + 1) (upd g i (nI (dg 10 v i))) H locs ls (by omega) (by omega) (rI_push hg rfl) hP hD hS hl
  refine lv_iconst (v := nI 0) (pc := 0) hx hb dX8_copy_0 kI_0 ?_
  refine lv_istore_n (pc := 1) (lv' := [(2, .int (nI 0)), (0, .ref x), (1, .ref y)]) hx hb dX8_copy_1 rfl hl (by decide) rfl (fun ls hl => ?_)
  exact L2 _ 0 g _ _ ls (Nat.lt_succ_self _) (by omega) rI_nil hP hD hS hl
abbrev rm_c_isZero : Room := { frames := 0, cells := 0, slots := 0, locals := 0 }
set_option maxHeartbeats 4000000 in
set_option maxRecDepth 100000 in
theorem c_isZero (l : Launch) (D : va_G) (cI cL cC cB cZ cR : ClassId) (sz : Nat) (x v : Nat) (f : Nat → Int32) (hf : dR f v) (hv : v < 10 ^ 100) : Met l yX8_isZero wsX8_isZero rm_c_isZero (xPc D vwCl (tyAll cI cL cC cB cZ cR) [.ref x] [(x, .inl (cI, 100, .inl f))] sz) (va_Qi (fun (r : Int32) (_ : Unit) => r = nI (iz v)) (xB D vwCl (tyAll cI cL cC cB cZ cR) (va_A [(x, .inl (cI, 100, .inl f))] sz) (fun u : Unit => [(x, .inl (cI, 100, .inl f))])) (va_A [(x, .inl (cI, 100, .inl f))] sz)) 0 0 (va_A [(x, .inl (cI, 100, .inl f))] sz) := by
  refine x_of (Qc := fun A => va_Qi (fun (r : Int32) (_ : Unit) => r = nI (iz v)) (xB D vwCl (tyAll cI cL cC cB cZ cR) A (fun u : Unit => [(x, .inl (cI, 100, .inl f))])) A) (by decide) rfl (Nat.le_of_ble_eq_true rfl) ?_
  intro p e s m args below meth c A H locs ls hx hb hr hts0 hown hlk hml hnm hP hK hD hN hA hS hl
  have hts : ∀ w ∈ wsA, w.before args s = true := fun w h => hts0 w (List.mem_cons_of_mem _ h)
  have hown : s.vm.findClass "WideDecimalDeskModel" = some m.cls := hown
  have hl : lv_has ls 3 [(0, .ref x)] := hl
  have L4 : ∀ (kk : Nat) (i : Nat) (b : Nat) (H : Heap) (locs : List Loc) (ls : Array Slot) (hk4 : 100 - i < kk) (hi : i ≤ 100) (hb1 : b ≤ 1) (hbv : b = 1 ↔ v % 10 ^ i = 0) (hP : va_P D vwCl [(x, .inl (cI, 100, .inl f))] H) (hD : va_D A [(x, .inl (cI, 100, .inl f))]) (hS : va_S A s.heap H locs) (hl : lv_has ls 3 [(2, .int (nI i)), (1, .int (nI b)), (0, .ref x)]), W p l e rm_c_isZero s m args below meth c H locs 0 0 (MQ below (va_Qi (fun (r : Int32) (_ : Unit) => r = nI (iz v)) (xB D vwCl (tyAll cI cL cC cB cZ cR) A (fun u : Unit => [(x, .inl (cI, 100, .inl f))])) A) args s 0 0 A) (F0 m 4 ls []) := by
    intro kk
    induction kk with
    | zero => intro i b H locs ls hk; exact absurd hk (Nat.not_lt_zero _)
    | succ kk ih4 =>
      intro i b H locs ls hk4 hi hb1 hbv hP hD hS hl
      have hz := md_zero (B := 10) (by decide) v i
      have hd := dg10 v i
      refine lv_iload_n (pc := 4) hx hb dX8_isZero_4 rfl (lv_at hl 0 rfl) ?_
      refine lv_bipush (v := nI 100) (pc := 5) hx hb dX8_isZero_5 (by decide +kernel) ?_
      refine x_icmp_ge (tgt := 32) (pc := 7) hx hb (by omega) (by omega) dX8_isZero_7 (by decide) (fun hc => ?_) (fun hc => ?_)
      · refine lv_iload_n (pc := 32) hx hb dX8_isZero_32 rfl (lv_at hl 1 rfl) ?_
        exact x_retz (pc := 33) (x_nz hb1) hx hb hr hlk () (by have h : i = 100 := (by omega); subst h; rw [Nat.mod_eq_of_lt hv] at hbv; have hz9 := iz_sp v; congr 1; omega) hP hK hD hS dX8_isZero_33
      · refine lv_iload_n (pc := 10) hx hb dX8_isZero_10 rfl (lv_at hl 1 rfl) ?_
        refine x_if_eq (tgt := 24) (pc := 11) hx hb (by omega) dX8_isZero_11 (by decide) (fun h11 => ?_) (fun h11 => ?_)
        · refine lv_iconst (v := nI 0) (pc := 24) hx hb dX8_isZero_24 kI_0 ?_
          refine lv_istore_n (pc := 25) (lv' := [(1, .int (nI 0)), (2, .int (nI i)), (0, .ref x)]) hx hb dX8_isZero_25 rfl hl (by decide) rfl (fun ls hl => ?_)
          refine lv_iinc (k := 1) (v := nI (i + 1)) (pc := 26) (lv' := [(2, .int (nI (i + 1))), (1, .int (nI 0)), (0, .ref x)]) hx hb dX8_isZero_26 hl rfl (x_inc i) (by decide) rfl (fun ls hl => ?_)
          refine lv_goto (tgt := 4) (pc := 29) hx hb dX8_isZero_29 (by decide) ?_
          exact ih4 (i + 1) 0 H locs ls (by omega) (by omega) (by omega) (by omega) hP hD hS hl
        · refine lv_aload_n (pc := 14) hx hb dX8_isZero_14 rfl (lv_at hl 2 rfl) ?_
          refine lv_iload_n (pc := 15) hx hb dX8_isZero_15 rfl (lv_at hl 0 rfl) ?_
          refine x_iald (v := nI (dg 10 v i)) (pc := 16) hx hb hK hP 0 0 rfl rfl (by omega) (by decide) (hf i (by omega)) dX8_isZero_16 ?_
          refine x_if_ne (tgt := 24) (pc := 17) hx hb (by omega) dX8_isZero_17 (by decide) (fun h17 => ?_) (fun h17 => ?_)
          · refine lv_iconst (v := nI 0) (pc := 24) hx hb dX8_isZero_24 kI_0 ?_
            refine lv_istore_n (pc := 25) (lv' := [(1, .int (nI 0)), (2, .int (nI i)), (0, .ref x)]) hx hb dX8_isZero_25 rfl hl (by decide) rfl (fun ls hl => ?_)
            refine lv_iinc (k := 1) (v := nI (i + 1)) (pc := 26) (lv' := [(2, .int (nI (i + 1))), (1, .int (nI 0)), (0, .ref x)]) hx hb dX8_isZero_26 hl rfl (x_inc i) (by decide) rfl (fun ls hl => ?_)
            refine lv_goto (tgt := 4) (pc := 29) hx hb dX8_isZero_29 (by decide) ?_
            exact ih4 (i + 1) 0 H locs ls (by omega) (by omega) (by omega) (by omega) hP hD hS hl
          · refine lv_iconst (v := nI 1) (pc := 20) hx hb dX8_isZero_20 kI_1 ?_
            refine lv_goto (tgt := 25) (pc := 21) hx hb dX8_isZero_21 (by decide) ?_
            refine lv_istore_n (pc := 25) (lv' := [(1, .int (nI 1)), (2, .int (nI i)), (0, .ref x)]) hx hb dX8_isZero_25 rfl hl (by decide) rfl (fun ls hl => ?_)
            refine lv_iinc (k := 1) (v := nI (i + 1)) (pc := 26) (lv' := [(2, .int (nI (i + 1))), (1, .int (nI 1)), (0, .ref x)]) hx hb dX8_isZero_26 hl rfl (x_inc i) (by decide) rfl (fun ls hl => ?_)
            refine lv_goto (tgt := 4) (pc := 29) hx hb dX8_isZero_29 (by decide) ?_
            exact ih4 (i + 1) 1 H locs ls (by omega) (by omega) (by omega) (by omega) hP hD hS hl
  refine lv_iconst (v := nI 1) (pc := 0) hx hb dX8_isZero_0 kI_1 ?_
  refine lv_istore_n (pc := 1) (lv' := [(1, .int (nI 1)), (0, .ref x)]) hx hb dX8_isZero_1 rfl hl (by decide) rfl (fun ls hl => ?_)
  refine lv_iconst (v := nI 0) (pc := 2) hx hb dX8_isZero_2 kI_0 ?_
  refine lv_istore_n (pc := 3) (lv' := [(2, .int (nI 0)), (1, .int (nI 1)), (0, .ref x)]) hx hb dX8_isZero_3 rfl hl (by decide) rfl (fun ls hl => ?_)
  exact L4 _ 0 1 _ _ ls (Nat.lt_succ_self _) (by omega) (by omega) (by rw [md_0]; exact ⟨fun _ => rfl, fun _ => rfl⟩) hP hD hS hl
abbrev rm_c_order : Room := { frames := 0, cells := 0, slots := 0, locals := 0 }
set_option maxHeartbeats 4000000 in
set_option maxRecDepth 100000 in
theorem c_order (l : Launch) (D : va_G) (cI cL cC cB cZ cR : ClassId) (sz : Nat) (x y a b : Nat) (f g : Nat → Int32) (hf : dR f a) (hg : dR g b) (ha : a < 10 ^ 100) (hb9 : b < 10 ^ 100) : Met l yX8_order wsX8_order rm_c_order (xPc D vwCl (tyAll cI cL cC cB cZ cR) [.ref x, .ref y] [(x, .inl (cI, 100, .inl f)), (y, .inl (cI, 100, .inl g))] sz) (va_Qi (fun (r : Int32) (_ : Unit) => r = ord3 a b) (xB D vwCl (tyAll cI cL cC cB cZ cR) (va_A [(x, .inl (cI, 100, .inl f)), (y, .inl (cI, 100, .inl g))] sz) (fun u : Unit => [(x, .inl (cI, 100, .inl f)), (y, .inl (cI, 100, .inl g))])) (va_A [(x, .inl (cI, 100, .inl f)), (y, .inl (cI, 100, .inl g))] sz)) 0 0 (va_A [(x, .inl (cI, 100, .inl f)), (y, .inl (cI, 100, .inl g))] sz) := by
  refine x_of (Qc := fun A => va_Qi (fun (r : Int32) (_ : Unit) => r = ord3 a b) (xB D vwCl (tyAll cI cL cC cB cZ cR) A (fun u : Unit => [(x, .inl (cI, 100, .inl f)), (y, .inl (cI, 100, .inl g))])) A) (by decide) rfl (Nat.le_of_ble_eq_true rfl) ?_
  intro p e s m args below meth c A H locs ls hx hb hr hts0 hown hlk hml hnm hP hK hD hN hA hS hl
  have hts : ∀ w ∈ wsA, w.before args s = true := fun w h => hts0 w (List.mem_cons_of_mem _ h)
  have hown : s.vm.findClass "WideDecimalDeskModel" = some m.cls := hown
  have hl : lv_has ls 3 [(0, .ref x), (1, .ref y)] := hl
  have L22 : ∀ (i : Nat) (H : Heap) (locs : List Loc) (ls : Array Slot) (hi : i ≤ 99) (he : a / 10 ^ (i + 1) = b / 10 ^ (i + 1)) (hd : i = 0 ∨ dg 10 a i ≠ dg 10 b i) (hP : va_P D vwCl [(x, .inl (cI, 100, .inl f)), (y, .inl (cI, 100, .inl g))] H) (hD : va_D A [(x, .inl (cI, 100, .inl f)), (y, .inl (cI, 100, .inl g))]) (hS : va_S A s.heap H locs) (hl : lv_has ls 3 [(2, .int (nI i)), (0, .ref x), (1, .ref y)]), W p l e rm_c_order s m args below meth c H locs 0 0 (MQ below (va_Qi (fun (r : Int32) (_ : Unit) => r = ord3 a b) (xB D vwCl (tyAll cI cL cC cB cZ cR) A (fun u : Unit => [(x, .inl (cI, 100, .inl f)), (y, .inl (cI, 100, .inl g))])) A) args s 0 0 A) (F0 m 22 ls []) := by
    intro i H locs ls hi he hd hP hD hS hl
    have ha1 := dg10 a i
    have hb1 := dg10 b i
    have sa := dg_split 10 a i
    have sb := dg_split 10 b i
    refine lv_aload_n (pc := 22) hx hb dX8_order_22 rfl (lv_at hl 1 rfl) ?_
    refine lv_iload_n (pc := 23) hx hb dX8_order_23 rfl (lv_at hl 0 rfl) ?_
    refine x_iald (v := nI (dg 10 a i)) (pc := 24) hx hb hK hP 0 0 rfl rfl (by omega) (by decide) (hf i (by omega)) dX8_order_24 ?_
    refine lv_aload_n (pc := 25) hx hb dX8_order_25 rfl (lv_at hl 2 rfl) ?_
    refine lv_iload_n (pc := 26) hx hb dX8_order_26 rfl (lv_at hl 0 rfl) ?_
    refine x_iald (v := nI (dg 10 b i)) (pc := 27) hx hb hK hP 1 0 rfl rfl (by omega) (by decide) (hg i (by omega)) dX8_order_27 ?_
    refine x_icmp_ge (tgt := 35) (pc := 28) hx hb (by omega) (by omega) dX8_order_28 (by decide) (fun h28 => ?_) (fun h28 => ?_)
    · refine lv_aload_n (pc := 35) hx hb dX8_order_35 rfl (lv_at hl 1 rfl) ?_
      refine lv_iload_n (pc := 36) hx hb dX8_order_36 rfl (lv_at hl 0 rfl) ?_
      refine x_iald (v := nI (dg 10 a i)) (pc := 37) hx hb hK hP 0 0 rfl rfl (by omega) (by decide) (hf i (by omega)) dX8_order_37 ?_
      refine lv_aload_n (pc := 38) hx hb dX8_order_38 rfl (lv_at hl 2 rfl) ?_
      refine lv_iload_n (pc := 39) hx hb dX8_order_39 rfl (lv_at hl 0 rfl) ?_
      refine x_iald (v := nI (dg 10 b i)) (pc := 40) hx hb hK hP 1 0 rfl rfl (by omega) (by decide) (hg i (by omega)) dX8_order_40 ?_
      refine x_icmp_le (tgt := 48) (pc := 41) hx hb (by omega) (by omega) dX8_order_41 (by decide) (fun h41 => ?_) (fun h41 => ?_)
      · refine lv_iconst (v := nI 0) (pc := 48) hx hb dX8_order_48 kI_0 ?_
        exact x_reti (pc := 49) hx hb hr hlk () (by first | exact ord3_lt (lt_of_dv (P := 10 ^ i) (by omega)) | exact ord3_gt (lt_of_dv (P := 10 ^ i) (by omega)) | exact ord3_eq (by have h : i = 0 := (by omega); subst h; rw [dv_0] at sa sb; omega)) hP hK hD hS dX8_order_49
      · refine lv_iconst (v := nI 1) (pc := 44) hx hb dX8_order_44 kI_1 ?_
        refine lv_goto (tgt := 49) (pc := 45) hx hb dX8_order_45 (by decide) ?_
        exact x_reti (pc := 49) hx hb hr hlk () (by first | exact ord3_lt (lt_of_dv (P := 10 ^ i) (by omega)) | exact ord3_gt (lt_of_dv (P := 10 ^ i) (by omega)) | exact ord3_eq (by have h : i = 0 := (by omega); subst h; rw [dv_0] at sa sb; omega)) hP hK hD hS dX8_order_49
    · refine lv_iconst (v := -1) (pc := 31) hx hb dX8_order_31 kI_m1 ?_
      refine lv_goto (tgt := 49) (pc := 32) hx hb dX8_order_32 (by decide) ?_
      exact x_reti (pc := 49) hx hb hr hlk () (by first | exact ord3_lt (lt_of_dv (P := 10 ^ i) (by omega)) | exact ord3_gt (lt_of_dv (P := 10 ^ i) (by omega)) | exact ord3_eq (by have h : i = 0 := (by omega); subst h; rw [dv_0] at sa sb; omega)) hP hK hD hS dX8_order_49
  have L3 : ∀ (kk : Nat) (i : Nat) (H : Heap) (locs : List Loc) (ls : Array Slot) (hk3 : i < kk) (hi : i ≤ 99) (he : a / 10 ^ (i + 1) = b / 10 ^ (i + 1)) (hP : va_P D vwCl [(x, .inl (cI, 100, .inl f)), (y, .inl (cI, 100, .inl g))] H) (hD : va_D A [(x, .inl (cI, 100, .inl f)), (y, .inl (cI, 100, .inl g))]) (hS : va_S A s.heap H locs) (hl : lv_has ls 3 [(2, .int (nI i)), (0, .ref x), (1, .ref y)]), W p l e rm_c_order s m args below meth c H locs 0 0 (MQ below (va_Qi (fun (r : Int32) (_ : Unit) => r = ord3 a b) (xB D vwCl (tyAll cI cL cC cB cZ cR) A (fun u : Unit => [(x, .inl (cI, 100, .inl f)), (y, .inl (cI, 100, .inl g))])) A) args s 0 0 A) (F0 m 3 ls []) := by
    intro kk
    induction kk with
    | zero => intro i H locs ls hk; exact absurd hk (Nat.not_lt_zero _)
    | succ kk ih3 =>
      intro i H locs ls hk3 hi he hP hD hS hl
      have ha1 := dg10 a i
      have hb1 := dg10 b i
      have sa := dg_split 10 a i
      have sb := dg_split 10 b i
      refine lv_iload_n (pc := 3) hx hb dX8_order_3 rfl (lv_at hl 0 rfl) ?_
      refine x_if_le (tgt := 22) (pc := 4) hx hb (by omega) dX8_order_4 (by decide) (fun h4 => ?_) (fun h4 => ?_)
      · exact L22 i _ _ ls (by omega) (by omega) (by omega) hP hD hS hl
      · refine lv_aload_n (pc := 7) hx hb dX8_order_7 rfl (lv_at hl 1 rfl) ?_
        refine lv_iload_n (pc := 8) hx hb dX8_order_8 rfl (lv_at hl 0 rfl) ?_
        refine x_iald (v := nI (dg 10 a i)) (pc := 9) hx hb hK hP 0 0 rfl rfl (by omega) (by decide) (hf i (by omega)) dX8_order_9 ?_
        refine lv_aload_n (pc := 10) hx hb dX8_order_10 rfl (lv_at hl 2 rfl) ?_
        refine lv_iload_n (pc := 11) hx hb dX8_order_11 rfl (lv_at hl 0 rfl) ?_
        refine x_iald (v := nI (dg 10 b i)) (pc := 12) hx hb hK hP 1 0 rfl rfl (by omega) (by decide) (hg i (by omega)) dX8_order_12 ?_
        refine x_icmp_ne (tgt := 22) (pc := 13) hx hb (by omega) (by omega) dX8_order_13 (by decide) (fun h13 => ?_) (fun h13 => ?_)
        · exact L22 i _ _ ls (by omega) (by omega) (by omega) hP hD hS hl
        · refine lv_iinc (k := 0) (v := nI (i - 1)) (pc := 16) (lv' := [(2, .int (nI (i - 1))), (0, .ref x), (1, .ref y)]) hx hb dX8_order_16 hl rfl (x_decp (by omega)) (by decide) rfl (fun ls hl => ?_)
          refine lv_goto (tgt := 3) (pc := 19) hx hb dX8_order_19 (by decide) ?_
          exact ih3 (i - 1) H locs ls (by omega) (by omega) (by rw [Nat.sub_add_cancel (by omega)]; omega) hP hD hS hl
  refine lv_bipush (v := nI 99) (pc := 0) hx hb dX8_order_0 (by decide +kernel) ?_
  refine lv_istore_n (pc := 2) (lv' := [(2, .int (nI 99)), (0, .ref x), (1, .ref y)]) hx hb dX8_order_2 rfl hl (by decide) rfl (fun ls hl => ?_)
  exact L3 _ 99 _ _ ls (Nat.lt_succ_self _) (by omega) (by rw [dv_top ha, dv_top hb9]) hP hD hS hl
abbrev rm_c_add : Room := { frames := 0, cells := 0, slots := 0, locals := 0 }
set_option maxHeartbeats 4000000 in
set_option maxRecDepth 100000 in
theorem c_add (l : Launch) (D : va_G) (cI cL cC cB cZ cR : ClassId) (sz : Nat) (x y a b : Nat) (f g : Nat → Int32) (hf : dR f a) (hg : dR g b) : Met l yX8_add wsX8_add rm_c_add (xPc D vwCl (tyAll cI cL cC cB cZ cR) [.ref x, .ref y] [(x, .inl (cI, 100, .inl f)), (y, .inl (cI, 100, .inl g))] sz) (va_Qv (fun u : Nat → Int32 => dR u (a + b)) (xB D vwCl (tyAll cI cL cC cB cZ cR) (va_A [(x, .inl (cI, 100, .inl f)), (y, .inl (cI, 100, .inl g))] sz) (fun u : (Nat → Int32) => [(x, .inl (cI, 100, .inl u)), (y, .inl (cI, 100, .inl g))])) (va_A [(x, .inl (cI, 100, .inl f)), (y, .inl (cI, 100, .inl g))] sz)) 0 0 (va_A [(x, .inl (cI, 100, .inl f)), (y, .inl (cI, 100, .inl g))] sz) := by
  refine x_of (Qc := fun A => va_Qv (fun u : Nat → Int32 => dR u (a + b)) (xB D vwCl (tyAll cI cL cC cB cZ cR) A (fun u : (Nat → Int32) => [(x, .inl (cI, 100, .inl u)), (y, .inl (cI, 100, .inl g))])) A) (by decide) rfl (Nat.le_of_ble_eq_true rfl) ?_
  intro p e s m args below meth c A H locs ls hx hb hr hts0 hown hlk hml hnm hP hK hD hN hA hS hl
  have hts : ∀ w ∈ wsA, w.before args s = true := fun w h => hts0 w (List.mem_cons_of_mem _ h)
  have hown : s.vm.findClass "WideDecimalDeskModel" = some m.cls := hown
  have hl : lv_has ls 5 [(0, .ref x), (1, .ref y)] := hl
  have L4 : ∀ (kk : Nat) (i : Nat) (k : Nat) (f : Nat → Int32) (H : Heap) (locs : List Loc) (ls : Array Slot) (hk4 : 100 - i < kk) (hi : i ≤ 100) (hk : k = cy 10 a b i) (hf : rI 100 f (mx (dg 10 (a + b)) (dg 10 a) i)) (hP : va_P D vwCl [(x, .inl (cI, 100, .inl f)), (y, .inl (cI, 100, .inl g))] H) (hD : va_D A [(x, .inl (cI, 100, .inl f)), (y, .inl (cI, 100, .inl g))]) (hS : va_S A s.heap H locs) (hl : lv_has ls 5 [(3, .int (nI i)), (2, .int (nI k)), (0, .ref x), (1, .ref y)]), W p l e rm_c_add s m args below meth c H locs 0 0 (MQ below (va_Qv (fun u : Nat → Int32 => dR u (a + b)) (xB D vwCl (tyAll cI cL cC cB cZ cR) A (fun u : (Nat → Int32) => [(x, .inl (cI, 100, .inl u)), (y, .inl (cI, 100, .inl g))])) A) args s 0 0 A) (F0 m 4 ls []) := by
    intro kk
    induction kk with
    | zero => intro i k f H locs ls hk; exact absurd hk (Nat.not_lt_zero _)
    | succ kk ih4 =>
      intro i k f H locs ls hk4 hi hk hf hP hD hS hl
      have ha1 := dg10 a i
      have hb1 := dg10 b i
      have hk1 := cy_le (B := 10) (by decide) a b i
      rw [← hk] at hk1
      refine lv_iload_n (pc := 4) hx hb dX8_add_4 rfl (lv_at hl 0 rfl) ?_
      refine lv_bipush (v := nI 100) (pc := 5) hx hb dX8_add_5 (by decide +kernel) ?_
      refine x_icmp_ge (tgt := 41) (pc := 7) hx hb (by omega) (by omega) dX8_add_7 (by decide) (fun hc => ?_) (fun hc => ?_)
      · exact x_retv (pc := 41) hx hb hr hlk f (by have h : i = 100 := (by omega); subst h; exact rI_all hf) hP hK hD hS dX8_add_41
      · refine lv_aload_n (pc := 10) hx hb dX8_add_10 rfl (lv_at hl 2 rfl) ?_
        refine lv_iload_n (pc := 11) hx hb dX8_add_11 rfl (lv_at hl 0 rfl) ?_
        refine x_iald (v := nI (dg 10 a i)) (pc := 12) hx hb hK hP 0 0 rfl rfl (by omega) (by decide) (rI_ge hf (by omega) (Nat.le_refl _)) dX8_add_12 ?_
        refine lv_aload_n (pc := 13) hx hb dX8_add_13 rfl (lv_at hl 3 rfl) ?_
        refine lv_iload_n (pc := 14) hx hb dX8_add_14 rfl (lv_at hl 0 rfl) ?_
        refine x_iald (v := nI (dg 10 b i)) (pc := 15) hx hb hK hP 1 0 rfl rfl (by omega) (by decide) (hg i (by omega)) dX8_add_15 ?_
        refine lv_iadd (pc := 16) hx hb dX8_add_16 ?_
        refine x_i (y := nI (dg 10 a i + dg 10 b i)) (nI_add _ _) ?_
        refine lv_iload_n (pc := 17) hx hb dX8_add_17 rfl (lv_at hl 1 rfl) ?_
        refine lv_iadd (pc := 18) hx hb dX8_add_18 ?_
        refine x_i (y := nI (dg 10 a i + dg 10 b i + k)) (nI_add _ _) ?_
        refine lv_istore (pc := 19) (lv' := [(4, .int (nI (dg 10 a i + dg 10 b i + k))), (3, .int (nI i)), (2, .int (nI k)), (0, .ref x), (1, .ref y)]) hx hb dX8_add_19 hl (by decide) rfl (fun ls hl => ?_)
        refine lv_aload_n (pc := 21) hx hb dX8_add_21 rfl (lv_at hl 3 rfl) ?_
        refine lv_iload_n (pc := 22) hx hb dX8_add_22 rfl (lv_at hl 1 rfl) ?_
        refine lv_iload (pc := 23) hx hb dX8_add_23 (lv_at hl 0 rfl) ?_
        refine lv_bipush (v := nI 10) (pc := 25) hx hb dX8_add_25 (by decide +kernel) ?_
        refine lv_irem (pc := 27) hx hb dX8_add_27 (nI_ne0 (by omega) (by omega)) ?_
        refine x_i (y := nI ((dg 10 a i + dg 10 b i + k) % 10)) (pk_rem (by omega) (by omega) (by omega)) ?_
        refine x_iast (pc := 28) hx hb hK hP hD hS 0 0 rfl rfl (by omega) (by decide) dX8_add_28 (fun H locs hP hD hS => ?_)
        have hP : va_P D vwCl [(x, .inl (cI, 100, .inl (upd f i (nI ((dg 10 a i + dg 10 b i + k) % 10))))), (y, .inl (cI, 100, .inl g))] H := hP
        have hD : va_D A [(x, .inl (cI, 100, .inl (upd f i (nI ((dg 10 a i + dg 10 b i + k) % 10))))), (y, .inl (cI, 100, .inl g))] := hD
        refine lv_iload (pc := 29) hx hb dX8_add_29 (lv_at hl 0 rfl) ?_
        refine lv_bipush (v := nI 10) (pc := 31) hx hb dX8_add_31 (by decide +kernel) ?_
        refine lv_idiv (pc := 33) hx hb dX8_add_33 (nI_ne0 (by omega) (by omega)) ?_
        refine x_i (y := nI ((dg 10 a i + dg 10 b i + k) / 10)) (pk_div (by omega) (by omega) (by omega)) ?_
        refine lv_istore_n (pc := 34) (lv' := [(2, .int (nI ((dg 10 a i + dg 10 b i + k) / 10))), (4, .int (nI (dg 10 a i + dg 10 b i + k))), (3, .int (nI i)), (0, .ref x), (1, .ref y)]) hx hb dX8_add_34 rfl hl (by decide) rfl (fun ls hl => ?_)
        refine lv_iinc (k := 2) (v := nI (i + 1)) (pc := 35) (lv' := [(3, .int (nI (i + 1))), (2, .int (nI ((dg 10 a i + dg 10 b i + k) / 10))), (4, .int (nI (dg 10 a i + dg 10 b i + k))), (0, .ref x), (1, .ref y)]) hx hb dX8_add_35 hl rfl (x_inc i) (by decide) rfl (fun ls hl => ?_)
        refine lv_goto (tgt := 4) (pc := 38) hx hb dX8_add_38 (by decide) ?_
        have hl := lv_sub (l' := [(3, .int (nI (i + 1))), (2, .int (nI ((dg 10 a i + dg 10 b i + k) / 10))), (0, .ref x), (1, .ref y)]) hl [0, 1, 3, 4] rfl
        exact ih4 (i + 1) ((dg 10 a i + dg 10 b i + k) / 10) (upd f i (nI ((dg 10 a i + dg 10 b i + k) % 10))) H locs ls (by omega) (by omega) (by rw [cy_succ (by decide), ← hk]) (rI_up hf (by rw [dg_add (by decide), ← hk])) hP hD hS hl
  refine lv_iconst (v := nI 0) (pc := 0) hx hb dX8_add_0 kI_0 ?_
  refine lv_istore_n (pc := 1) (lv' := [(2, .int (nI 0)), (0, .ref x), (1, .ref y)]) hx hb dX8_add_1 rfl hl (by decide) rfl (fun ls hl => ?_)
  refine lv_iconst (v := nI 0) (pc := 2) hx hb dX8_add_2 kI_0 ?_
  refine lv_istore_n (pc := 3) (lv' := [(3, .int (nI 0)), (2, .int (nI 0)), (0, .ref x), (1, .ref y)]) hx hb dX8_add_3 rfl hl (by decide) rfl (fun ls hl => ?_)
  exact L4 _ 0 0 f _ _ ls (Nat.lt_succ_self _) (by omega) (cy_0 _ _ _).symm (rI_0 hf) hP hD hS hl
abbrev rm_c_add2 : Room := { frames := 0, cells := 0, slots := 0, locals := 0 }
set_option maxHeartbeats 4000000 in
set_option maxRecDepth 100000 in
theorem c_add2 (l : Launch) (D : va_G) (cI cL cC cB cZ cR : ClassId) (sz : Nat) (x a : Nat) (f : Nat → Int32) (hf : dR f a) : Met l yX8_add wsX8_add rm_c_add2 (xPc D vwCl (tyAll cI cL cC cB cZ cR) [.ref x, .ref x] [(x, .inl (cI, 100, .inl f))] sz) (va_Qv (fun u : Nat → Int32 => dR u (a + a)) (xB D vwCl (tyAll cI cL cC cB cZ cR) (va_A [(x, .inl (cI, 100, .inl f))] sz) (fun u : (Nat → Int32) => [(x, .inl (cI, 100, .inl u))])) (va_A [(x, .inl (cI, 100, .inl f))] sz)) 0 0 (va_A [(x, .inl (cI, 100, .inl f))] sz) := by
  refine x_of (Qc := fun A => va_Qv (fun u : Nat → Int32 => dR u (a + a)) (xB D vwCl (tyAll cI cL cC cB cZ cR) A (fun u : (Nat → Int32) => [(x, .inl (cI, 100, .inl u))])) A) (by decide) rfl (Nat.le_of_ble_eq_true rfl) ?_
  intro p e s m args below meth c A H locs ls hx hb hr hts0 hown hlk hml hnm hP hK hD hN hA hS hl
  have hts : ∀ w ∈ wsA, w.before args s = true := fun w h => hts0 w (List.mem_cons_of_mem _ h)
  have hown : s.vm.findClass "WideDecimalDeskModel" = some m.cls := hown
  have hl : lv_has ls 5 [(0, .ref x), (1, .ref x)] := hl
  have L4 : ∀ (kk : Nat) (i : Nat) (k : Nat) (f : Nat → Int32) (H : Heap) (locs : List Loc) (ls : Array Slot) (hk4 : 100 - i < kk) (hi : i ≤ 100) (hk : k = cy 10 a a i) (hf : rI 100 f (mx (dg 10 (a + a)) (dg 10 a) i)) (hP : va_P D vwCl [(x, .inl (cI, 100, .inl f))] H) (hD : va_D A [(x, .inl (cI, 100, .inl f))]) (hS : va_S A s.heap H locs) (hl : lv_has ls 5 [(3, .int (nI i)), (2, .int (nI k)), (0, .ref x), (1, .ref x)]), W p l e rm_c_add2 s m args below meth c H locs 0 0 (MQ below (va_Qv (fun u : Nat → Int32 => dR u (a + a)) (xB D vwCl (tyAll cI cL cC cB cZ cR) A (fun u : (Nat → Int32) => [(x, .inl (cI, 100, .inl u))])) A) args s 0 0 A) (F0 m 4 ls []) := by
    intro kk
    induction kk with
    | zero => intro i k f H locs ls hk; exact absurd hk (Nat.not_lt_zero _)
    | succ kk ih4 =>
      intro i k f H locs ls hk4 hi hk hf hP hD hS hl
      have ha1 := dg10 a i
      have hb1 := dg10 a i
      have hk1 := cy_le (B := 10) (by decide) a a i
      rw [← hk] at hk1
      refine lv_iload_n (pc := 4) hx hb dX8_add_4 rfl (lv_at hl 0 rfl) ?_
      refine lv_bipush (v := nI 100) (pc := 5) hx hb dX8_add_5 (by decide +kernel) ?_
      refine x_icmp_ge (tgt := 41) (pc := 7) hx hb (by omega) (by omega) dX8_add_7 (by decide) (fun hc => ?_) (fun hc => ?_)
      · exact x_retv (pc := 41) hx hb hr hlk f (by have h : i = 100 := (by omega); subst h; exact rI_all hf) hP hK hD hS dX8_add_41
      · refine lv_aload_n (pc := 10) hx hb dX8_add_10 rfl (lv_at hl 2 rfl) ?_
        refine lv_iload_n (pc := 11) hx hb dX8_add_11 rfl (lv_at hl 0 rfl) ?_
        refine x_iald (v := nI (dg 10 a i)) (pc := 12) hx hb hK hP 0 0 rfl rfl (by omega) (by decide) (rI_ge hf (by omega) (Nat.le_refl _)) dX8_add_12 ?_
        refine lv_aload_n (pc := 13) hx hb dX8_add_13 rfl (lv_at hl 3 rfl) ?_
        refine lv_iload_n (pc := 14) hx hb dX8_add_14 rfl (lv_at hl 0 rfl) ?_
        refine x_iald (v := nI (dg 10 a i)) (pc := 15) hx hb hK hP 0 0 rfl rfl (by omega) (by decide) (rI_ge hf (by omega) (Nat.le_refl _)) dX8_add_15 ?_
        refine lv_iadd (pc := 16) hx hb dX8_add_16 ?_
        refine x_i (y := nI (dg 10 a i + dg 10 a i)) (nI_add _ _) ?_
        refine lv_iload_n (pc := 17) hx hb dX8_add_17 rfl (lv_at hl 1 rfl) ?_
        refine lv_iadd (pc := 18) hx hb dX8_add_18 ?_
        refine x_i (y := nI (dg 10 a i + dg 10 a i + k)) (nI_add _ _) ?_
        refine lv_istore (pc := 19) (lv' := [(4, .int (nI (dg 10 a i + dg 10 a i + k))), (3, .int (nI i)), (2, .int (nI k)), (0, .ref x), (1, .ref x)]) hx hb dX8_add_19 hl (by decide) rfl (fun ls hl => ?_)
        refine lv_aload_n (pc := 21) hx hb dX8_add_21 rfl (lv_at hl 3 rfl) ?_
        refine lv_iload_n (pc := 22) hx hb dX8_add_22 rfl (lv_at hl 1 rfl) ?_
        refine lv_iload (pc := 23) hx hb dX8_add_23 (lv_at hl 0 rfl) ?_
        refine lv_bipush (v := nI 10) (pc := 25) hx hb dX8_add_25 (by decide +kernel) ?_
        refine lv_irem (pc := 27) hx hb dX8_add_27 (nI_ne0 (by omega) (by omega)) ?_
        refine x_i (y := nI ((dg 10 a i + dg 10 a i + k) % 10)) (pk_rem (by omega) (by omega) (by omega)) ?_
        refine x_iast (pc := 28) hx hb hK hP hD hS 0 0 rfl rfl (by omega) (by decide) dX8_add_28 (fun H locs hP hD hS => ?_)
        have hP : va_P D vwCl [(x, .inl (cI, 100, .inl (upd f i (nI ((dg 10 a i + dg 10 a i + k) % 10)))))] H := hP
        have hD : va_D A [(x, .inl (cI, 100, .inl (upd f i (nI ((dg 10 a i + dg 10 a i + k) % 10)))))] := hD
        refine lv_iload (pc := 29) hx hb dX8_add_29 (lv_at hl 0 rfl) ?_
        refine lv_bipush (v := nI 10) (pc := 31) hx hb dX8_add_31 (by decide +kernel) ?_
        refine lv_idiv (pc := 33) hx hb dX8_add_33 (nI_ne0 (by omega) (by omega)) ?_
        refine x_i (y := nI ((dg 10 a i + dg 10 a i + k) / 10)) (pk_div (by omega) (by omega) (by omega)) ?_
        refine lv_istore_n (pc := 34) (lv' := [(2, .int (nI ((dg 10 a i + dg 10 a i + k) / 10))), (4, .int (nI (dg 10 a i + dg 10 a i + k))), (3, .int (nI i)), (0, .ref x), (1, .ref x)]) hx hb dX8_add_34 rfl hl (by decide) rfl (fun ls hl => ?_)
        refine lv_iinc (k := 2) (v := nI (i + 1)) (pc := 35) (lv' := [(3, .int (nI (i + 1))), (2, .int (nI ((dg 10 a i + dg 10 a i + k) / 10))), (4, .int (nI (dg 10 a i + dg 10 a i + k))), (0, .ref x), (1, .ref x)]) hx hb dX8_add_35 hl rfl (x_inc i) (by decide) rfl (fun ls hl => ?_)
        refine lv_goto (tgt := 4) (pc := 38) hx hb dX8_add_38 (by decide) ?_
        have hl := lv_sub (l' := [(3, .int (nI (i + 1))), (2, .int (nI ((dg 10 a i + dg 10 a i + k) / 10))), (0, .ref x), (1, .ref x)]) hl [0, 1, 3, 4] rfl
        exact ih4 (i + 1) ((dg 10 a i + dg 10 a i + k) / 10) (upd f i (nI ((dg 10 a i + dg 10 a i + k) % 10))) H locs ls (by omega) (by omega) (by rw [cy_succ (by decide), ← hk]) (rI_up hf (by rw [dg_add (by decide), ← hk])) hP hD hS hl
  refine lv_iconst (v := nI 0) (pc := 0) hx hb dX8_add_0 kI_0 ?_
  refine lv_istore_n (pc := 1) (lv' := [(2, .int (nI 0)), (0, .ref x), (1, .ref x)]) hx hb dX8_add_1 rfl hl (by decide) rfl (fun ls hl => ?_)
  refine lv_iconst (v := nI 0) (pc := 2) hx hb dX8_add_2 kI_0 ?_
  refine lv_istore_n (pc := 3) (lv' := [(3, .int (nI 0)), (2, .int (nI 0)), (0, .ref x), (1, .ref x)]) hx hb dX8_add_3 rfl hl (by decide) rfl (fun ls hl => ?_)
  exact L4 _ 0 0 f _ _ ls (Nat.lt_succ_self _) (by omega) (cy_0 _ _ _).symm (rI_0 hf) hP hD hS hl
abbrev rm_c_subtract : Room := { frames := 0, cells := 0, slots := 0, locals := 0 }
set_option maxHeartbeats 4000000 in
set_option maxRecDepth 100000 in
theorem c_subtract (l : Launch) (D : va_G) (cI cL cC cB cZ cR : ClassId) (sz : Nat) (x y b c9 : Nat) (f g : Nat → Int32) (hf : dR f (b + c9)) (hg : dR g b) : Met l yX8_subtract wsX8_subtract rm_c_subtract (xPc D vwCl (tyAll cI cL cC cB cZ cR) [.ref x, .ref y] [(x, .inl (cI, 100, .inl f)), (y, .inl (cI, 100, .inl g))] sz) (va_Qv (fun u : Nat → Int32 => dR u c9) (xB D vwCl (tyAll cI cL cC cB cZ cR) (va_A [(x, .inl (cI, 100, .inl f)), (y, .inl (cI, 100, .inl g))] sz) (fun u : (Nat → Int32) => [(x, .inl (cI, 100, .inl u)), (y, .inl (cI, 100, .inl g))])) (va_A [(x, .inl (cI, 100, .inl f)), (y, .inl (cI, 100, .inl g))] sz)) 0 0 (va_A [(x, .inl (cI, 100, .inl f)), (y, .inl (cI, 100, .inl g))] sz) := by
  refine x_of (Qc := fun A => va_Qv (fun u : Nat → Int32 => dR u c9) (xB D vwCl (tyAll cI cL cC cB cZ cR) A (fun u : (Nat → Int32) => [(x, .inl (cI, 100, .inl u)), (y, .inl (cI, 100, .inl g))])) A) (by decide) rfl (Nat.le_of_ble_eq_true rfl) ?_
  intro p e s m args below meth c A H locs ls hx hb hr hts0 hown hlk hml hnm hP hK hD hN hA hS hl
  have hts : ∀ w ∈ wsA, w.before args s = true := fun w h => hts0 w (List.mem_cons_of_mem _ h)
  have hown : s.vm.findClass "WideDecimalDeskModel" = some m.cls := hown
  have hl : lv_has ls 5 [(0, .ref x), (1, .ref y)] := hl
  have L4 : ∀ (kk : Nat) (i : Nat) (k : Nat) (f : Nat → Int32) (H : Heap) (locs : List Loc) (ls : Array Slot) (hk4 : 100 - i < kk) (hi : i ≤ 100) (hk : k = cy 10 b c9 i) (hf : rI 100 f (mx (dg 10 c9) (dg 10 (b + c9)) i)) (hP : va_P D vwCl [(x, .inl (cI, 100, .inl f)), (y, .inl (cI, 100, .inl g))] H) (hD : va_D A [(x, .inl (cI, 100, .inl f)), (y, .inl (cI, 100, .inl g))]) (hS : va_S A s.heap H locs) (hl : lv_has ls 5 [(3, .int (nI i)), (2, .int (nI k)), (0, .ref x), (1, .ref y)]), W p l e rm_c_subtract s m args below meth c H locs 0 0 (MQ below (va_Qv (fun u : Nat → Int32 => dR u c9) (xB D vwCl (tyAll cI cL cC cB cZ cR) A (fun u : (Nat → Int32) => [(x, .inl (cI, 100, .inl u)), (y, .inl (cI, 100, .inl g))])) A) args s 0 0 A) (F0 m 4 ls []) := by
    intro kk
    induction kk with
    | zero => intro i k f H locs ls hk; exact absurd hk (Nat.not_lt_zero _)
    | succ kk ih4 =>
      intro i k f H locs ls hk4 hi hk hf hP hD hS hl
      have ha1 := dg10 (b + c9) i
      have hb1 := dg10 b i
      have hc1 := dg10 c9 i
      have hk1 := cy_le (B := 10) (by decide) b c9 i
      have hk2 := cy_le (B := 10) (by decide) b c9 (i + 1)
      have he := cy_eq (B := 10) (by decide) b c9 i
      rw [← hk] at hk1 he
      obtain ⟨t1, t2, t3⟩ := sb_dig _ ha1 _ hb1 k (by omega)
      refine lv_iload_n (pc := 4) hx hb dX8_subtract_4 rfl (lv_at hl 0 rfl) ?_
      refine lv_bipush (v := nI 100) (pc := 5) hx hb dX8_subtract_5 (by decide +kernel) ?_
      refine x_icmp_ge (tgt := 56) (pc := 7) hx hb (by omega) (by omega) dX8_subtract_7 (by decide) (fun hc => ?_) (fun hc => ?_)
      · exact x_retv (pc := 56) hx hb hr hlk f (by have h : i = 100 := (by omega); subst h; exact rI_all hf) hP hK hD hS dX8_subtract_56
      · refine lv_aload_n (pc := 10) hx hb dX8_subtract_10 rfl (lv_at hl 2 rfl) ?_
        refine lv_iload_n (pc := 11) hx hb dX8_subtract_11 rfl (lv_at hl 0 rfl) ?_
        refine x_iald (v := nI (dg 10 (b + c9) i)) (pc := 12) hx hb hK hP 0 0 rfl rfl (by omega) (by decide) (rI_ge hf (by omega) (Nat.le_refl _)) dX8_subtract_12 ?_
        refine lv_aload_n (pc := 13) hx hb dX8_subtract_13 rfl (lv_at hl 3 rfl) ?_
        refine lv_iload_n (pc := 14) hx hb dX8_subtract_14 rfl (lv_at hl 0 rfl) ?_
        refine x_iald (v := nI (dg 10 b i)) (pc := 15) hx hb hK hP 1 0 rfl rfl (by omega) (by decide) (hg i (by omega)) dX8_subtract_15 ?_
        refine lv_isub (pc := 16) hx hb dX8_subtract_16 ?_
        refine lv_iload_n (pc := 17) hx hb dX8_subtract_17 rfl (lv_at hl 1 rfl) ?_
        refine lv_isub (pc := 18) hx hb dX8_subtract_18 ?_
        refine lv_topi (fun d hd => ?_)
        rw [← hd] at t1 t2 t3
        refine lv_istore (pc := 19) (lv' := [(4, .int d), (3, .int (nI i)), (2, .int (nI k)), (0, .ref x), (1, .ref y)]) hx hb dX8_subtract_19 hl (by decide) rfl (fun ls hl => ?_)
        refine lv_iload (pc := 21) hx hb dX8_subtract_21 (lv_at hl 0 rfl) ?_
        refine lv_if_ge (tgt := 30) (pc := 23) hx hb dX8_subtract_23 (by decide) (fun hq => ?_) (fun hq => ?_)
        · have hge := t1.mp hq
          refine lv_iconst (v := nI 0) (pc := 30) hx hb dX8_subtract_30 kI_0 ?_
          refine lv_istore_n (pc := 31) (lv' := [(2, .int (nI 0)), (4, .int d), (3, .int (nI i)), (0, .ref x), (1, .ref y)]) hx hb dX8_subtract_31 rfl hl (by decide) rfl (fun ls hl => ?_)
          refine lv_aload_n (pc := 32) hx hb dX8_subtract_32 rfl (lv_at hl 3 rfl) ?_
          refine lv_iload_n (pc := 33) hx hb dX8_subtract_33 rfl (lv_at hl 2 rfl) ?_
          refine lv_iload (pc := 34) hx hb dX8_subtract_34 (lv_at hl 1 rfl) ?_
          refine lv_if_ge (tgt := 47) (pc := 36) hx hb dX8_subtract_36 (by decide) (fun hq2 => ?_) (fun hq2 => absurd hq hq2)
          refine lv_iload (pc := 47) hx hb dX8_subtract_47 (lv_at hl 1 rfl) ?_
          refine x_i (y := nI (dg 10 c9 i)) ((t3 hge).trans (congrArg nI (by omega))) ?_
          refine x_iast (pc := 49) hx hb hK hP hD hS 0 0 rfl rfl (by omega) (by decide) dX8_subtract_49 (fun H locs hP hD hS => ?_)
          have hP : va_P D vwCl [(x, .inl (cI, 100, .inl (upd f i (nI (dg 10 c9 i))))), (y, .inl (cI, 100, .inl g))] H := hP
          have hD : va_D A [(x, .inl (cI, 100, .inl (upd f i (nI (dg 10 c9 i))))), (y, .inl (cI, 100, .inl g))] := hD
          refine lv_iinc (k := 2) (v := nI (i + 1)) (pc := 50) (lv' := [(3, .int (nI (i + 1))), (2, .int (nI 0)), (4, .int d), (0, .ref x), (1, .ref y)]) hx hb dX8_subtract_50 hl rfl (x_inc i) (by decide) rfl (fun ls hl => ?_)
          refine lv_goto (tgt := 4) (pc := 53) hx hb dX8_subtract_53 (by decide) ?_
          have hl := lv_sub (l' := [(3, .int (nI (i + 1))), (2, .int (nI 0)), (0, .ref x), (1, .ref y)]) hl [0, 1, 3, 4] rfl
          exact ih4 (i + 1) 0 (upd f i (nI (dg 10 c9 i))) H locs ls (by omega) (by omega) (by omega) (rI_up hf rfl) hP hD hS hl
        · have hge := Nat.lt_of_not_le (fun z => hq (t1.mpr z))
          refine lv_iconst (v := nI 1) (pc := 26) hx hb dX8_subtract_26 kI_1 ?_
          refine lv_goto (tgt := 31) (pc := 27) hx hb dX8_subtract_27 (by decide) ?_
          refine lv_istore_n (pc := 31) (lv' := [(2, .int (nI 1)), (4, .int d), (3, .int (nI i)), (0, .ref x), (1, .ref y)]) hx hb dX8_subtract_31 rfl hl (by decide) rfl (fun ls hl => ?_)
          refine lv_aload_n (pc := 32) hx hb dX8_subtract_32 rfl (lv_at hl 3 rfl) ?_
          refine lv_iload_n (pc := 33) hx hb dX8_subtract_33 rfl (lv_at hl 2 rfl) ?_
          refine lv_iload (pc := 34) hx hb dX8_subtract_34 (lv_at hl 1 rfl) ?_
          refine lv_if_ge (tgt := 47) (pc := 36) hx hb dX8_subtract_36 (by decide) (fun hq2 => absurd hq2 hq) (fun hq2 => ?_)
          refine lv_iload (pc := 39) hx hb dX8_subtract_39 (lv_at hl 1 rfl) ?_
          refine lv_bipush (v := nI 10) (pc := 41) hx hb dX8_subtract_41 (by decide +kernel) ?_
          refine lv_iadd (pc := 43) hx hb dX8_subtract_43 ?_
          refine x_i (y := nI (dg 10 c9 i)) ((t2 hge).trans (congrArg nI (by omega))) ?_
          refine lv_goto (tgt := 49) (pc := 44) hx hb dX8_subtract_44 (by decide) ?_
          refine x_iast (pc := 49) hx hb hK hP hD hS 0 0 rfl rfl (by omega) (by decide) dX8_subtract_49 (fun H locs hP hD hS => ?_)
          have hP : va_P D vwCl [(x, .inl (cI, 100, .inl (upd f i (nI (dg 10 c9 i))))), (y, .inl (cI, 100, .inl g))] H := hP
          have hD : va_D A [(x, .inl (cI, 100, .inl (upd f i (nI (dg 10 c9 i))))), (y, .inl (cI, 100, .inl g))] := hD
          refine lv_iinc (k := 2) (v := nI (i + 1)) (pc := 50) (lv' := [(3, .int (nI (i + 1))), (2, .int (nI 1)), (4, .int d), (0, .ref x), (1, .ref y)]) hx hb dX8_subtract_50 hl rfl (x_inc i) (by decide) rfl (fun ls hl => ?_)
          refine lv_goto (tgt := 4) (pc := 53) hx hb dX8_subtract_53 (by decide) ?_
          have hl := lv_sub (l' := [(3, .int (nI (i + 1))), (2, .int (nI 1)), (0, .ref x), (1, .ref y)]) hl [0, 1, 3, 4] rfl
          exact ih4 (i + 1) 1 (upd f i (nI (dg 10 c9 i))) H locs ls (by omega) (by omega) (by omega) (rI_up hf rfl) hP hD hS hl
  refine lv_iconst (v := nI 0) (pc := 0) hx hb dX8_subtract_0 kI_0 ?_
  refine lv_istore_n (pc := 1) (lv' := [(2, .int (nI 0)), (0, .ref x), (1, .ref y)]) hx hb dX8_subtract_1 rfl hl (by decide) rfl (fun ls hl => ?_)
  refine lv_iconst (v := nI 0) (pc := 2) hx hb dX8_subtract_2 kI_0 ?_
  refine lv_istore_n (pc := 3) (lv' := [(3, .int (nI 0)), (2, .int (nI 0)), (0, .ref x), (1, .ref y)]) hx hb dX8_subtract_3 rfl hl (by decide) rfl (fun ls hl => ?_)
  exact L4 _ 0 0 f _ _ ls (Nat.lt_succ_self _) (by omega) (cy_0 _ _ _).symm (rI_0 hf) hP hD hS hl
abbrev rm_c_twice : Room := { frames := 1, cells := 0, slots := 0, locals := 24 }
set_option maxHeartbeats 4000000 in
set_option maxRecDepth 100000 in
theorem c_twice (l : Launch) (D : va_G) (cI cL cC cB cZ cR : ClassId) (sz : Nat) (x a : Nat) (f : Nat → Int32) (hf : dR f a) : Met l yX8_twice wsX8_twice rm_c_twice (xPc D vwCl (tyAll cI cL cC cB cZ cR) [.ref x] [(x, .inl (cI, 100, .inl f))] sz) (va_Qv (fun u : Nat → Int32 => dR u (a + a)) (xB D vwCl (tyAll cI cL cC cB cZ cR) (va_A [(x, .inl (cI, 100, .inl f))] sz) (fun u : (Nat → Int32) => [(x, .inl (cI, 100, .inl u))])) (va_A [(x, .inl (cI, 100, .inl f))] sz)) 0 0 (va_A [(x, .inl (cI, 100, .inl f))] sz) := by
  refine x_of (Qc := fun A => va_Qv (fun u : Nat → Int32 => dR u (a + a)) (xB D vwCl (tyAll cI cL cC cB cZ cR) A (fun u : (Nat → Int32) => [(x, .inl (cI, 100, .inl u))])) A) (by decide) rfl (Nat.le_of_ble_eq_true rfl) ?_
  intro p e s m args below meth c A H locs ls hx hb hr hts0 hown hlk hml hnm hP hK hD hN hA hS hl
  have hts : ∀ w ∈ wsA, w.before args s = true := fun w h => hts0 w (List.mem_cons_of_mem _ h)
  have hown : s.vm.findClass "WideDecimalDeskModel" = some m.cls := hown
  have hl : lv_has ls 1 [(0, .ref x)] := hl
  refine lv_aload_n (pc := 0) hx hb dX8_twice_0 rfl (lv_at hl 0 rfl) ?_
  refine lv_aload_n (pc := 1) hx hb dX8_twice_1 rfl (lv_at hl 0 rfl) ?_
  refine x_Sv (pc := 2) (As := [.ref x, .ref x]) (rest := []) (wr := []) ⟨hx, hb, hml, hown, hts⟩ (c_add2 l D cI cL cC cB cZ cR H.size x a f hf) ⟨callB_of 2 hts (x_good kw_696) rfl rfl rfl (hts _ kw_9) (hts _ kw_694) dc_X8_add ⟨Nat.le_of_ble_eq_true rfl, Nat.le_of_ble_eq_true rfl⟩, hts _ kw_695⟩ rfl hl.1 rfl (Nat.le_of_ble_eq_true rfl) dX8_twice_2 ⟨Nat.le_refl _, Nat.le_refl _⟩ hN hK hP hD hS hA [0] [] rfl rfl (by decide) (by decide) (by decide) (fun u2 H locs hf2 hP hD hS => ?_)
  obtain ⟨f2, rfl⟩ : ∃ z, z = u2 := ⟨_, rfl⟩
  have hP : va_P D vwCl [(x, .inl (cI, 100, .inl f2))] H := hP
  have hD : va_D A [(x, .inl (cI, 100, .inl f2))] := hD
  exact x_retv (pc := 5) hx hb hr hlk f2 hf2 hP hK hD hS dX8_twice_5
abbrev rm_c_more : Room := { frames := 0, cells := 0, slots := 0, locals := 0 }
set_option maxHeartbeats 4000000 in
set_option maxRecDepth 100000 in
theorem c_more (l : Launch) (D : va_G) (cI cL cC cB cZ cR : ClassId) (sz : Nat) (x v : Nat) (f : Nat → Int32) (hf : dR f v) (hv : v + 1 < 10 ^ 100) : Met l yX8_more wsX8_more rm_c_more (xPc D vwCl (tyAll cI cL cC cB cZ cR) [.ref x] [(x, .inl (cI, 100, .inl f))] sz) (va_Qv (fun u : Nat → Int32 => dR u (v + 1)) (xB D vwCl (tyAll cI cL cC cB cZ cR) (va_A [(x, .inl (cI, 100, .inl f))] sz) (fun u : (Nat → Int32) => [(x, .inl (cI, 100, .inl u))])) (va_A [(x, .inl (cI, 100, .inl f))] sz)) 0 0 (va_A [(x, .inl (cI, 100, .inl f))] sz) := by
  refine x_of (Qc := fun A => va_Qv (fun u : Nat → Int32 => dR u (v + 1)) (xB D vwCl (tyAll cI cL cC cB cZ cR) A (fun u : (Nat → Int32) => [(x, .inl (cI, 100, .inl u))])) A) (by decide) rfl (Nat.le_of_ble_eq_true rfl) ?_
  intro p e s m args below meth c A H locs ls hx hb hr hts0 hown hlk hml hnm hP hK hD hN hA hS hl
  have hts : ∀ w ∈ wsA, w.before args s = true := fun w h => hts0 w (List.mem_cons_of_mem _ h)
  have hown : s.vm.findClass "WideDecimalDeskModel" = some m.cls := hown
  have hl : lv_has ls 2 [(0, .ref x)] := hl
  have L26 : ∀ (i : Nat) (f : Nat → Int32) (H : Heap) (locs : List Loc) (ls : Array Slot) (hi : i ≤ 99) (h9 : v % 10 ^ i = 10 ^ i - 1) (hd : dg 10 v i ≠ 9) (hf : rI 100 f (mx (fun _ => 0) (dg 10 v) i)) (hP : va_P D vwCl [(x, .inl (cI, 100, .inl f))] H) (hD : va_D A [(x, .inl (cI, 100, .inl f))]) (hS : va_S A s.heap H locs) (hl : lv_has ls 2 [(1, .int (nI i)), (0, .ref x)]), W p l e rm_c_more s m args below meth c H locs 0 0 (MQ below (va_Qv (fun u : Nat → Int32 => dR u (v + 1)) (xB D vwCl (tyAll cI cL cC cB cZ cR) A (fun u : (Nat → Int32) => [(x, .inl (cI, 100, .inl u))])) A) args s 0 0 A) (F0 m 26 ls []) := by
    intro i f H locs ls hi h9 hd hf hP hD hS hl
    have hd1 := dg10 v i
    refine lv_aload_n (pc := 26) hx hb dX8_more_26 rfl (lv_at hl 1 rfl) ?_
    refine lv_iload_n (pc := 27) hx hb dX8_more_27 rfl (lv_at hl 0 rfl) ?_
    refine lv_aload_n (pc := 28) hx hb dX8_more_28 rfl (lv_at hl 1 rfl) ?_
    refine lv_iload_n (pc := 29) hx hb dX8_more_29 rfl (lv_at hl 0 rfl) ?_
    refine x_iald (v := nI (dg 10 v i)) (pc := 30) hx hb hK hP 0 0 rfl rfl (by omega) (by decide) (rI_ge hf (by omega) (Nat.le_refl _)) dX8_more_30 ?_
    refine lv_iconst (v := nI 1) (pc := 31) hx hb dX8_more_31 kI_1 ?_
    refine lv_iadd (pc := 32) hx hb dX8_more_32 ?_
    refine x_i (y := nI (dg 10 v i + 1)) (nI_add _ _) ?_
    refine x_iast (pc := 33) hx hb hK hP hD hS 0 0 rfl rfl (by omega) (by decide) dX8_more_33 (fun H locs hP hD hS => ?_)
    have hP : va_P D vwCl [(x, .inl (cI, 100, .inl (upd f i (nI (dg 10 v i + 1)))))] H := hP
    have hD : va_D A [(x, .inl (cI, 100, .inl (upd f i (nI (dg 10 v i + 1)))))] := hD
    exact x_retv (pc := 34) hx hb hr hlk (upd f i (nI (dg 10 v i + 1))) (more_end h9 hd hf) hP hK hD hS dX8_more_34
  have L2 : ∀ (kk : Nat) (i : Nat) (f : Nat → Int32) (H : Heap) (locs : List Loc) (ls : Array Slot) (hk2 : 99 - i < kk) (hi : i ≤ 99) (h9 : v % 10 ^ i = 10 ^ i - 1) (hf : rI 100 f (mx (fun _ => 0) (dg 10 v) i)) (hP : va_P D vwCl [(x, .inl (cI, 100, .inl f))] H) (hD : va_D A [(x, .inl (cI, 100, .inl f))]) (hS : va_S A s.heap H locs) (hl : lv_has ls 2 [(1, .int (nI i)), (0, .ref x)]), W p l e rm_c_more s m args below meth c H locs 0 0 (MQ below (va_Qv (fun u : Nat → Int32 => dR u (v + 1)) (xB D vwCl (tyAll cI cL cC cB cZ cR) A (fun u : (Nat → Int32) => [(x, .inl (cI, 100, .inl u))])) A) args s 0 0 A) (F0 m 2 ls []) := by
    intro kk
    induction kk with
    | zero => intro i f H locs ls hk; exact absurd hk (Nat.not_lt_zero _)
    | succ kk ih2 =>
      intro i f H locs ls hk2 hi h9 hf hP hD hS hl
      have hd1 := dg10 v i
      refine lv_iload_n (pc := 2) hx hb dX8_more_2 rfl (lv_at hl 0 rfl) ?_
      refine lv_bipush (v := nI 99) (pc := 3) hx hb dX8_more_3 (by decide +kernel) ?_
      refine x_icmp_ge (tgt := 26) (pc := 5) hx hb (by omega) (by omega) dX8_more_5 (by decide) (fun hc => ?_) (fun hc => ?_)
      · exact L26 i f _ _ ls (by omega) h9 (more_99 hv h9 (by omega)) hf hP hD hS hl
      · refine lv_aload_n (pc := 8) hx hb dX8_more_8 rfl (lv_at hl 1 rfl) ?_
        refine lv_iload_n (pc := 9) hx hb dX8_more_9 rfl (lv_at hl 0 rfl) ?_
        refine x_iald (v := nI (dg 10 v i)) (pc := 10) hx hb hK hP 0 0 rfl rfl (by omega) (by decide) (rI_ge hf (by omega) (Nat.le_refl _)) dX8_more_10 ?_
        refine lv_bipush (v := nI 9) (pc := 11) hx hb dX8_more_11 (by decide +kernel) ?_
        refine x_icmp_ne (tgt := 26) (pc := 13) hx hb (by omega) (by omega) dX8_more_13 (by decide) (fun hd => ?_) (fun hd => ?_)
        · exact L26 i f _ _ ls (by omega) h9 hd hf hP hD hS hl
        · refine lv_aload_n (pc := 16) hx hb dX8_more_16 rfl (lv_at hl 1 rfl) ?_
          refine lv_iload_n (pc := 17) hx hb dX8_more_17 rfl (lv_at hl 0 rfl) ?_
          refine lv_iconst (v := nI 0) (pc := 18) hx hb dX8_more_18 kI_0 ?_
          refine x_iast (pc := 19) hx hb hK hP hD hS 0 0 rfl rfl (by omega) (by decide) dX8_more_19 (fun H locs hP hD hS => ?_)
          have hP : va_P D vwCl [(x, .inl (cI, 100, .inl (upd f i (nI 0))))] H := hP
          have hD : va_D A [(x, .inl (cI, 100, .inl (upd f i (nI 0))))] := hD
          refine lv_iinc (k := 0) (v := nI (i + 1)) (pc := 20) (lv' := [(1, .int (nI (i + 1))), (0, .ref x)]) hx hb dX8_more_20 hl rfl (x_inc i) (by decide) rfl (fun ls hl => ?_)
          refine lv_goto (tgt := 2) (pc := 23) hx hb dX8_more_23 (by decide) ?_
          exact ih2 (i + 1) (upd f i (nI 0)) H locs ls (by omega) (by omega) (by have hp := pw_pos (B := 10) (by decide) i; rw [dg_mod, hd, Nat.pow_succ]; omega) (rI_up hf rfl) hP hD hS hl
  refine lv_iconst (v := nI 0) (pc := 0) hx hb dX8_more_0 kI_0 ?_
  refine lv_istore_n (pc := 1) (lv' := [(1, .int (nI 0)), (0, .ref x)]) hx hb dX8_more_1 rfl hl (by decide) rfl (fun ls hl => ?_)
  exact L2 _ 0 f _ _ ls (Nat.lt_succ_self _) (by omega) (by rw [md_0]) (rI_0 hf) hP hD hS hl
abbrev rm_c_shift : Room := { frames := 0, cells := 0, slots := 0, locals := 0 }
set_option maxHeartbeats 4000000 in
set_option maxRecDepth 100000 in
theorem c_shift (l : Launch) (D : va_G) (cI cL cC cB cZ cR : ClassId) (sz : Nat) (x n v : Nat) (f : Nat → Int32) (hf : dR f v) (hn9 : n ≤ 100) : Met l yX8_shift wsX8_shift rm_c_shift (xPc D vwCl (tyAll cI cL cC cB cZ cR) [.ref x, .int (nI n)] [(x, .inl (cI, 100, .inl f))] sz) (va_Qv (fun u : Nat → Int32 => dR u (v * 10 ^ n)) (xB D vwCl (tyAll cI cL cC cB cZ cR) (va_A [(x, .inl (cI, 100, .inl f))] sz) (fun u : (Nat → Int32) => [(x, .inl (cI, 100, .inl u))])) (va_A [(x, .inl (cI, 100, .inl f))] sz)) 0 0 (va_A [(x, .inl (cI, 100, .inl f))] sz) := by
  refine x_of (Qc := fun A => va_Qv (fun u : Nat → Int32 => dR u (v * 10 ^ n)) (xB D vwCl (tyAll cI cL cC cB cZ cR) A (fun u : (Nat → Int32) => [(x, .inl (cI, 100, .inl u))])) A) (by decide) rfl (Nat.le_of_ble_eq_true rfl) ?_
  intro p e s m args below meth c A H locs ls hx hb hr hts0 hown hlk hml hnm hP hK hD hN hA hS hl
  have hts : ∀ w ∈ wsA, w.before args s = true := fun w h => hts0 w (List.mem_cons_of_mem _ h)
  have hown : s.vm.findClass "WideDecimalDeskModel" = some m.cls := hown
  have hl : lv_has ls 3 [(0, .ref x), (1, .int (nI n))] := hl
  have L3 : ∀ (kk : Nat) (k : Nat) (f : Nat → Int32) (H : Heap) (locs : List Loc) (ls : Array Slot) (hk3 : k < kk) (hk : k ≤ 100) (hf : rI 100 f (mx (dg 10 v) (dg 10 (v * 10 ^ n)) k)) (hP : va_P D vwCl [(x, .inl (cI, 100, .inl f))] H) (hD : va_D A [(x, .inl (cI, 100, .inl f))]) (hS : va_S A s.heap H locs) (hl : lv_has ls 3 [(2, .int (dn k)), (0, .ref x), (1, .int (nI n))]), W p l e rm_c_shift s m args below meth c H locs 0 0 (MQ below (va_Qv (fun u : Nat → Int32 => dR u (v * 10 ^ n)) (xB D vwCl (tyAll cI cL cC cB cZ cR) A (fun u : (Nat → Int32) => [(x, .inl (cI, 100, .inl u))])) A) args s 0 0 A) (F0 m 3 ls []) := by
    intro kk
    induction kk with
    | zero => intro k f H locs ls hk; exact absurd hk (Nat.not_lt_zero _)
    | succ kk ih3 =>
      intro k f H locs ls hk3 hk hf hP hD hS hl
      refine lv_iload_n (pc := 3) hx hb dX8_shift_3 rfl (lv_at hl 0 rfl) ?_
      refine lv_if_lt (tgt := 30) (pc := 4) hx hb dX8_shift_4 (by decide) (fun hc => ?_) (fun hc => ?_)
      · have h0 : k = 0 := dn_lt (by omega) hc
        subst h0
        exact x_retv (pc := 30) hx hb hr hlk f (rI_z hf) hP hK hD hS dX8_shift_30
      · obtain ⟨j, rfl⟩ := dn_ge hc
        have hl : lv_has ls 3 [(2, .int (nI j)), (0, .ref x), (1, .int (nI n))] := hl
        refine lv_aload_n (pc := 7) hx hb dX8_shift_7 rfl (lv_at hl 1 rfl) ?_
        refine lv_iload_n (pc := 8) hx hb dX8_shift_8 rfl (lv_at hl 0 rfl) ?_
        refine lv_iload_n (pc := 9) hx hb dX8_shift_9 rfl (lv_at hl 0 rfl) ?_
        refine lv_iload_n (pc := 10) hx hb dX8_shift_10 rfl (lv_at hl 2 rfl) ?_
        refine x_icmp_lt (tgt := 22) (pc := 11) hx hb (by omega) (by omega) dX8_shift_11 (by decide) (fun h11 => ?_) (fun h11 => ?_)
        · refine lv_iconst (v := nI 0) (pc := 22) hx hb dX8_shift_22 kI_0 ?_
          refine x_iast (pc := 23) hx hb hK hP hD hS 0 0 rfl rfl (by omega) (by decide) dX8_shift_23 (fun H locs hP hD hS => ?_)
          have hP : va_P D vwCl [(x, .inl (cI, 100, .inl (upd f j (nI 0))))] H := hP
          have hD : va_D A [(x, .inl (cI, 100, .inl (upd f j (nI 0))))] := hD
          refine lv_iinc (k := 0) (v := dn j) (pc := 24) (lv' := [(2, .int (dn j)), (0, .ref x), (1, .int (nI n))]) hx hb dX8_shift_24 hl rfl (x_dn j) (by decide) rfl (fun ls hl => ?_)
          refine lv_goto (tgt := 3) (pc := 27) hx hb dX8_shift_27 (by decide) ?_
          exact ih3 j (upd f j (nI 0)) H locs ls (by omega) (by omega) (rI_dn hf (by rw [dg_shl (by decide)]; first | rw [if_pos (by omega)] | rw [if_neg (by omega)])) hP hD hS hl
        · refine lv_aload_n (pc := 14) hx hb dX8_shift_14 rfl (lv_at hl 1 rfl) ?_
          refine lv_iload_n (pc := 15) hx hb dX8_shift_15 rfl (lv_at hl 0 rfl) ?_
          refine lv_iload_n (pc := 16) hx hb dX8_shift_16 rfl (lv_at hl 2 rfl) ?_
          refine lv_isub (pc := 17) hx hb dX8_shift_17 ?_
          refine x_i (y := nI (j - n)) (pk_sub (by omega)) ?_
          refine x_iald (v := nI (dg 10 v (j - n))) (pc := 18) hx hb hK hP 0 0 rfl rfl (by omega) (by decide) (rI_lt hf (by omega) (by omega)) dX8_shift_18 ?_
          refine lv_goto (tgt := 23) (pc := 19) hx hb dX8_shift_19 (by decide) ?_
          refine x_iast (pc := 23) hx hb hK hP hD hS 0 0 rfl rfl (by omega) (by decide) dX8_shift_23 (fun H locs hP hD hS => ?_)
          have hP : va_P D vwCl [(x, .inl (cI, 100, .inl (upd f j (nI (dg 10 v (j - n))))))] H := hP
          have hD : va_D A [(x, .inl (cI, 100, .inl (upd f j (nI (dg 10 v (j - n))))))] := hD
          refine lv_iinc (k := 0) (v := dn j) (pc := 24) (lv' := [(2, .int (dn j)), (0, .ref x), (1, .int (nI n))]) hx hb dX8_shift_24 hl rfl (x_dn j) (by decide) rfl (fun ls hl => ?_)
          refine lv_goto (tgt := 3) (pc := 27) hx hb dX8_shift_27 (by decide) ?_
          exact ih3 j (upd f j (nI (dg 10 v (j - n)))) H locs ls (by omega) (by omega) (rI_dn hf (by rw [dg_shl (by decide)]; first | rw [if_pos (by omega)] | rw [if_neg (by omega)])) hP hD hS hl
  refine lv_bipush (v := nI 99) (pc := 0) hx hb dX8_shift_0 (by decide +kernel) ?_
  refine lv_istore_n (pc := 2) (lv' := [(2, .int (nI 99)), (0, .ref x), (1, .int (nI n))]) hx hb dX8_shift_2 rfl hl (by decide) rfl (fun ls hl => ?_)
  have hl : lv_has ls 3 [(2, .int (dn 100)), (0, .ref x), (1, .int (nI n))] := hl
  exact L3 _ 100 f _ _ ls (Nat.lt_succ_self _) (by omega) (rI_n hf) hP hD hS hl
