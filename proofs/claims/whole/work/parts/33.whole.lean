abbrev rm_w_zero : Room := { frames := 0, cells := 0, slots := 0, locals := 0 }
set_option maxHeartbeats 4000000 in
set_option maxRecDepth 100000 in
theorem w_zero (l : Launch) (D : va_G) (cI cL cC cB cZ cR : ClassId) (sz : Nat) (w wa : Nat) (f : Nat → Int64)  : Met l yX6_becomeZero wsX6_becomeZero rm_w_zero (xPc D vwCl (tyAll cI cL cC cB cZ cR) [.ref w] [(w, .inr (6, [.ref wa])), (wa, .inl (cL, 6, .inr (.inl f)))] sz) (va_Qv (fun u : Nat → Int64 => wR u 0) (xB D vwCl (tyAll cI cL cC cB cZ cR) (va_A [(w, .inr (6, [.ref wa])), (wa, .inl (cL, 6, .inr (.inl f)))] sz) (fun u : (Nat → Int64) => [(w, .inr (6, [.ref wa])), (wa, .inl (cL, 6, .inr (.inl u)))])) (va_A [(w, .inr (6, [.ref wa])), (wa, .inl (cL, 6, .inr (.inl f)))] sz)) 0 0 (va_A [(w, .inr (6, [.ref wa])), (wa, .inl (cL, 6, .inr (.inl f)))] sz) := by
  refine x_of (Qc := fun A => va_Qv (fun u : Nat → Int64 => wR u 0) (xB D vwCl (tyAll cI cL cC cB cZ cR) A (fun u : (Nat → Int64) => [(w, .inr (6, [.ref wa])), (wa, .inl (cL, 6, .inr (.inl u)))])) A) (by decide) rfl (Nat.le_of_ble_eq_true rfl) ?_
  intro p e s m args below meth c A H locs ls hx hb hr hts0 hown hlk hml hnm hP hK hD hN hA hS hl
  have hts : ∀ w ∈ wsA, w.before args s = true := fun w h => hts0 w (List.mem_cons_of_mem _ h)
  have hown : s.vm.findClass "WideDecimalDesk$Whole" = some m.cls := hown
  have hl : lv_has ls 2 [(0, .ref w)] := hl
  have L2 : ∀ (kk : Nat) (i : Nat) (f : (Nat → Int64)) (H : Heap) (locs : List Loc) (ls : Array Slot) (hk2 : 6 - i < kk) (hi : i ≤ 6) (hf : rL i f (dg 4294967296 0)) (hP : va_P D vwCl [(w, .inr (6, [.ref wa])), (wa, .inl (cL, 6, .inr (.inl f)))] H) (hD : va_D A [(w, .inr (6, [.ref wa])), (wa, .inl (cL, 6, .inr (.inl f)))]) (hS : va_S A s.heap H locs) (hl : lv_has ls 2 [(1, .int (nI i)), (0, .ref w)]), W p l e rm_w_zero s m args below meth c H locs 0 0 (MQ below (va_Qv (fun u : Nat → Int64 => wR u 0) (xB D vwCl (tyAll cI cL cC cB cZ cR) A (fun u : (Nat → Int64) => [(w, .inr (6, [.ref wa])), (wa, .inl (cL, 6, .inr (.inl u)))])) A) args s 0 0 A) (F0 m 2 ls []) := by
    intro kk
    induction kk with
    | zero => intro i f H locs ls hk; exact absurd hk (Nat.not_lt_zero _)
    | succ kk ih2 =>
      intro i f H locs ls hk2 hi hf hP hD hS hl
      refine lv_iload_n (pc := 2) hx hb dX6_becomeZero_2 rfl (lv_at hl 0 rfl) ?_
      refine lv_bipush (v := nI 6) (pc := 3) hx hb dX6_becomeZero_3 (by decide +kernel) ?_
      refine x_icmp_ge (tgt := 21) (pc := 5) hx hb (by omega) (by omega) dX6_becomeZero_5 (by decide) (fun hc => ?_) (fun hc => ?_)
      · exact x_retv (pc := 21) hx hb hr hlk f (by have h : i = 6 := (by omega); subst h; exact hf) hP hK hD hS dX6_becomeZero_21
      · refine lv_aload_n (pc := 8) hx hb dX6_becomeZero_8 rfl (lv_at hl 1 rfl) ?_
        refine va_get (D := D) (ci := 6) (v := .ref wa) (C := RX6) (T := TX6) (N := 1) (pc := 9) hx hb hts in_X6 hown hK hP 0 rfl rfl 0 (by decide) (hts _ kw_82) (fun _ h9 => h9) rfl dX6_becomeZero_9 ?_
        refine lv_iload_n (pc := 12) hx hb dX6_becomeZero_12 rfl (lv_at hl 0 rfl) ?_
        refine lv_lconst (v := lN 0) (pc := 13) hx hb dX6_becomeZero_13 rfl ?_
        refine x_last (pc := 14) hx hb hK hP hD hS 1 1 rfl rfl (by omega) (by decide) dX6_becomeZero_14 (fun H locs hP hD hS => ?_)
        have hP : va_P D vwCl [(w, .inr (6, [.ref wa])), (wa, .inl (cL, 6, .inr (.inl (vp_updL f i (lN 0)))))] H := hP
        have hD : va_D A [(w, .inr (6, [.ref wa])), (wa, .inl (cL, 6, .inr (.inl (vp_updL f i (lN 0)))))] := hD
        refine lv_iinc (k := 0) (v := nI (i + 1)) (pc := 15) (lv' := [(1, .int (nI (i + 1))), (0, .ref w)]) hx hb dX6_becomeZero_15 hl rfl (x_inc i) (by decide) rfl (fun ls hl => ?_)
        refine lv_goto (tgt := 2) (pc := 18) hx hb dX6_becomeZero_18 (by decide) ?_
        exact ih2 (i + 1) (vp_updL f i (lN 0)) H locs ls (by omega) (by omega) (rL_push hf (by rw [dg_0])) hP hD hS hl
  refine lv_iconst (v := nI 0) (pc := 0) hx hb dX6_becomeZero_0 kI_0 ?_
  refine lv_istore_n (pc := 1) (lv' := [(1, .int (nI 0)), (0, .ref w)]) hx hb dX6_becomeZero_1 rfl hl (by decide) rfl (fun ls hl => ?_)
  exact L2 _ 0 f _ _ ls (Nat.lt_succ_self _) (by omega) rL_nil hP hD hS hl
abbrev rm_w_copy : Room := { frames := 0, cells := 0, slots := 0, locals := 0 }
set_option maxHeartbeats 4000000 in
set_option maxRecDepth 100000 in
theorem w_copy (l : Launch) (D : va_G) (cI cL cC cB cZ cR : ClassId) (sz : Nat) (w wa o oa v : Nat) (f g : Nat → Int64) (hg : wR g v) : Met l yX6_copy wsX6_copy rm_w_copy (xPc D vwCl (tyAll cI cL cC cB cZ cR) [.ref w, .ref o] [(w, .inr (6, [.ref wa])), (wa, .inl (cL, 6, .inr (.inl f))), (o, .inr (6, [.ref oa])), (oa, .inl (cL, 6, .inr (.inl g)))] sz) (va_Qv (fun u : Nat → Int64 => wR u v) (xB D vwCl (tyAll cI cL cC cB cZ cR) (va_A [(w, .inr (6, [.ref wa])), (wa, .inl (cL, 6, .inr (.inl f))), (o, .inr (6, [.ref oa])), (oa, .inl (cL, 6, .inr (.inl g)))] sz) (fun u : (Nat → Int64) => [(w, .inr (6, [.ref wa])), (wa, .inl (cL, 6, .inr (.inl u))), (o, .inr (6, [.ref oa])), (oa, .inl (cL, 6, .inr (.inl g)))])) (va_A [(w, .inr (6, [.ref wa])), (wa, .inl (cL, 6, .inr (.inl f))), (o, .inr (6, [.ref oa])), (oa, .inl (cL, 6, .inr (.inl g)))] sz)) 0 0 (va_A [(w, .inr (6, [.ref wa])), (wa, .inl (cL, 6, .inr (.inl f))), (o, .inr (6, [.ref oa])), (oa, .inl (cL, 6, .inr (.inl g)))] sz) := by
  refine x_of (Qc := fun A => va_Qv (fun u : Nat → Int64 => wR u v) (xB D vwCl (tyAll cI cL cC cB cZ cR) A (fun u : (Nat → Int64) => [(w, .inr (6, [.ref wa])), (wa, .inl (cL, 6, .inr (.inl u))), (o, .inr (6, [.ref oa])), (oa, .inl (cL, 6, .inr (.inl g)))])) A) (by decide) rfl (Nat.le_of_ble_eq_true rfl) ?_
  intro p e s m args below meth c A H locs ls hx hb hr hts0 hown hlk hml hnm hP hK hD hN hA hS hl
  have hts : ∀ w ∈ wsA, w.before args s = true := fun w h => hts0 w (List.mem_cons_of_mem _ h)
  have hown : s.vm.findClass "WideDecimalDesk$Whole" = some m.cls := hown
  have hl : lv_has ls 3 [(0, .ref w), (1, .ref o)] := hl
  have L2 : ∀ (kk : Nat) (i : Nat) (f : (Nat → Int64)) (H : Heap) (locs : List Loc) (ls : Array Slot) (hk2 : 6 - i < kk) (hi : i ≤ 6) (hf : rL i f (dg 4294967296 v)) (hP : va_P D vwCl [(w, .inr (6, [.ref wa])), (wa, .inl (cL, 6, .inr (.inl f))), (o, .inr (6, [.ref oa])), (oa, .inl (cL, 6, .inr (.inl g)))] H) (hD : va_D A [(w, .inr (6, [.ref wa])), (wa, .inl (cL, 6, .inr (.inl f))), (o, .inr (6, [.ref oa])), (oa, .inl (cL, 6, .inr (.inl g)))]) (hS : va_S A s.heap H locs) (hl : lv_has ls 3 [(2, .int (nI i)), (0, .ref w), (1, .ref o)]), W p l e rm_w_copy s m args below meth c H locs 0 0 (MQ below (va_Qv (fun u : Nat → Int64 => wR u v) (xB D vwCl (tyAll cI cL cC cB cZ cR) A (fun u : (Nat → Int64) => [(w, .inr (6, [.ref wa])), (wa, .inl (cL, 6, .inr (.inl u))), (o, .inr (6, [.ref oa])), (oa, .inl (cL, 6, .inr (.inl g)))])) A) args s 0 0 A) (F0 m 2 ls []) := by
    intro kk
    induction kk with
    | zero => intro i f H locs ls hk; exact absurd hk (Nat.not_lt_zero _)
    | succ kk ih2 =>
      intro i f H locs ls hk2 hi hf hP hD hS hl
      refine lv_iload_n (pc := 2) hx hb dX6_copy_2 rfl (lv_at hl 0 rfl) ?_
      refine lv_bipush (v := nI 6) (pc := 3) hx hb dX6_copy_3 (by decide +kernel) ?_
      refine x_icmp_ge (tgt := 26) (pc := 5) hx hb (by omega) (by omega) dX6_copy_5 (by decide) (fun hc => ?_) (fun hc => ?_)
      · exact x_retv (pc := 26) hx hb hr hlk f (by have h : i = 6 := (by omega); subst h; exact hf) hP hK hD hS dX6_copy_26
      · refine lv_aload_n (pc := 8) hx hb dX6_copy_8 rfl (lv_at hl 1 rfl) ?_
        refine va_get (D := D) (ci := 6) (v := .ref wa) (C := RX6) (T := TX6) (N := 1) (pc := 9) hx hb hts in_X6 hown hK hP 0 rfl rfl 0 (by decide) (hts _ kw_82) (fun _ h9 => h9) rfl dX6_copy_9 ?_
        refine lv_iload_n (pc := 12) hx hb dX6_copy_12 rfl (lv_at hl 0 rfl) ?_
        refine lv_aload_n (pc := 13) hx hb dX6_copy_13 rfl (lv_at hl 2 rfl) ?_
        refine va_get (D := D) (ci := 6) (v := .ref oa) (C := RX6) (T := TX6) (N := 1) (pc := 14) hx hb hts in_X6 hown hK hP 2 rfl rfl 0 (by decide) (hts _ kw_82) (fun _ h9 => h9) rfl dX6_copy_14 ?_
        refine lv_iload_n (pc := 17) hx hb dX6_copy_17 rfl (lv_at hl 0 rfl) ?_
        refine x_lald (v := lN (dg 4294967296 v i)) (pc := 18) hx hb hK hP 3 1 rfl rfl (by omega) (by decide) (hg i (by omega)) dX6_copy_18 ?_
        refine x_last (pc := 19) hx hb hK hP hD hS 1 1 rfl rfl (by omega) (by decide) dX6_copy_19 (fun H locs hP hD hS => ?_)
        have hP : va_P D vwCl [(w, .inr (6, [.ref wa])), (wa, .inl (cL, 6, .inr (.inl (vp_updL f i (lN (dg 4294967296 v i)))))), (o, .inr (6, [.ref oa])), (oa, .inl (cL, 6, .inr (.inl g)))] H := hP
        have hD : va_D A [(w, .inr (6, [.ref wa])), (wa, .inl (cL, 6, .inr (.inl (vp_updL f i (lN (dg 4294967296 v i)))))), (o, .inr (6, [.ref oa])), (oa, .inl (cL, 6, .inr (.inl g)))] := hD
        refine lv_iinc (k := 0) (v := nI (i + 1)) (pc := 20) (lv' := [(2, .int (nI (i + 1))), (0, .ref w), (1, .ref o)]) hx hb dX6_copy_20 hl rfl (x_inc i) (by decide) rfl (fun ls hl => ?_)
        refine lv_goto (tgt := 2) (pc := 23) hx hb dX6_copy_23 (by decide) ?_
        exact ih2 (i + 1) (vp_updL f i (lN (dg 4294967296 v i))) H locs ls (by omega) (by omega) (rL_push hf rfl) hP hD hS hl
  refine lv_iconst (v := nI 0) (pc := 0) hx hb dX6_copy_0 kI_0 ?_
  refine lv_istore_n (pc := 1) (lv' := [(2, .int (nI 0)), (0, .ref w), (1, .ref o)]) hx hb dX6_copy_1 rfl hl (by decide) rfl (fun ls hl => ?_)
  exact L2 _ 0 f _ _ ls (Nat.lt_succ_self _) (by omega) rL_nil hP hD hS hl
abbrev rm_w_take : Room := { frames := 1, cells := 0, slots := 0, locals := 21 }
set_option maxHeartbeats 4000000 in
set_option maxRecDepth 100000 in
theorem w_take (l : Launch) (D : va_G) (cI cL cC cB cZ cR : ClassId) (sz : Nat) (w wa lo hi : Nat) (f : Nat → Int64) (hl9 : lo < 18446744073709551616) (hh9 : hi < 4294967296) : Met l yX6_takeBits wsX6_takeBits rm_w_take (xPc D vwCl (tyAll cI cL cC cB cZ cR) [.ref w, .long (lN lo), .int (nI hi)] [(w, .inr (6, [.ref wa])), (wa, .inl (cL, 6, .inr (.inl f)))] sz) (va_Qv (fun u : Nat → Int64 => wR u (lo + 18446744073709551616 * hi)) (xB D vwCl (tyAll cI cL cC cB cZ cR) (va_A [(w, .inr (6, [.ref wa])), (wa, .inl (cL, 6, .inr (.inl f)))] sz) (fun u : (Nat → Int64) => [(w, .inr (6, [.ref wa])), (wa, .inl (cL, 6, .inr (.inl u)))])) (va_A [(w, .inr (6, [.ref wa])), (wa, .inl (cL, 6, .inr (.inl f)))] sz)) 0 0 (va_A [(w, .inr (6, [.ref wa])), (wa, .inl (cL, 6, .inr (.inl f)))] sz) := by
  refine x_of (Qc := fun A => va_Qv (fun u : Nat → Int64 => wR u (lo + 18446744073709551616 * hi)) (xB D vwCl (tyAll cI cL cC cB cZ cR) A (fun u : (Nat → Int64) => [(w, .inr (6, [.ref wa])), (wa, .inl (cL, 6, .inr (.inl u)))])) A) (by decide) rfl (Nat.le_of_ble_eq_true rfl) ?_
  intro p e s m args below meth c A H locs ls hx hb hr hts0 hown hlk hml hnm hP hK hD hN hA hS hl
  have hts : ∀ w ∈ wsA, w.before args s = true := fun w h => hts0 w (List.mem_cons_of_mem _ h)
  have hown : s.vm.findClass "WideDecimalDesk$Whole" = some m.cls := hown
  have hl : lv_has ls 4 [(0, .ref w), (1, .long (lN lo)), (3, .int (nI hi))] := hl
  refine lv_aload_n (pc := 0) hx hb dX6_takeBits_0 rfl (lv_at hl 0 rfl) ?_
  refine x_Vv (pc := 1) (As := []) (rest := []) (b := w) (wr := []) ⟨hx, hb, hml, hown, hts⟩ (w_zero l D cI cL cC cB cZ cR H.size w wa f ) ⟨callB_of 0 hts (x_good kw_250) rfl rfl rfl (hts _ kw_5) (hts _ kw_255) dc_X6_becomeZero ⟨Nat.le_of_ble_eq_true rfl, Nat.le_of_ble_eq_true rfl⟩, hts _ kw_248, hts _ kw_249⟩ (q0 := 0) rfl rfl rfl rfl hl.1 rfl (Nat.le_of_ble_eq_true rfl) dX6_takeBits_1 ⟨Nat.le_refl _, Nat.le_refl _⟩ hN hK hP hD hS hA [0, 1] [] rfl rfl (by decide) (by decide) (by decide) (fun u1 H locs h0 hP hD hS => ?_)
  obtain ⟨f0, rfl⟩ : ∃ z, z = u1 := ⟨_, rfl⟩
  have hP : va_P D vwCl [(w, .inr (6, [.ref wa])), (wa, .inl (cL, 6, .inr (.inl f0)))] H := hP
  have hD : va_D A [(w, .inr (6, [.ref wa])), (wa, .inl (cL, 6, .inr (.inl f0)))] := hD
  refine lv_aload_n (pc := 4) hx hb dX6_takeBits_4 rfl (lv_at hl 0 rfl) ?_
  refine va_get (D := D) (ci := 6) (v := .ref wa) (C := RX6) (T := TX6) (N := 1) (pc := 5) hx hb hts in_X6 hown hK hP 0 rfl rfl 0 (by decide) (hts _ kw_82) (fun _ h9 => h9) rfl dX6_takeBits_5 ?_
  refine lv_iconst (v := nI 0) (pc := 8) hx hb dX6_takeBits_8 kI_0 ?_
  refine lv_lload_n (pc := 9) hx hb dX6_takeBits_9 rfl (lv_at hl 1 rfl) ?_
  refine lv_ldc2 (v := (4294967295 : Int64)) (pc := 10) hx hb hown (hts _ kw_256) dX6_takeBits_10 ?_
  refine x_l (y := lN 4294967295) rfl ?_
  refine lv_land (pc := 13) hx hb dX6_takeBits_13 ?_
  refine x_l (y := lN (lo % 4294967296)) (wM (by omega)) ?_
  refine x_last (pc := 14) hx hb hK hP hD hS 1 1 rfl rfl (by omega) (by decide) dX6_takeBits_14 (fun H locs hP hD hS => ?_)
  have hP : va_P D vwCl [(w, .inr (6, [.ref wa])), (wa, .inl (cL, 6, .inr (.inl (vp_updL f0 0 (lN (lo % 4294967296))))))] H := hP
  have hD : va_D A [(w, .inr (6, [.ref wa])), (wa, .inl (cL, 6, .inr (.inl (vp_updL f0 0 (lN (lo % 4294967296))))))] := hD
  refine lv_aload_n (pc := 15) hx hb dX6_takeBits_15 rfl (lv_at hl 0 rfl) ?_
  refine va_get (D := D) (ci := 6) (v := .ref wa) (C := RX6) (T := TX6) (N := 1) (pc := 16) hx hb hts in_X6 hown hK hP 0 rfl rfl 0 (by decide) (hts _ kw_82) (fun _ h9 => h9) rfl dX6_takeBits_16 ?_
  refine lv_iconst (v := nI 1) (pc := 19) hx hb dX6_takeBits_19 kI_1 ?_
  refine lv_lload_n (pc := 20) hx hb dX6_takeBits_20 rfl (lv_at hl 1 rfl) ?_
  refine lv_bipush (v := nI 32) (pc := 21) hx hb dX6_takeBits_21 (by decide +kernel) ?_
  refine lv_lushr (v := lN (lo / 4294967296)) (pc := 23) hx hb dX6_takeBits_23 (wS (by omega)) ?_
  refine x_last (pc := 24) hx hb hK hP hD hS 1 1 rfl rfl (by omega) (by decide) dX6_takeBits_24 (fun H locs hP hD hS => ?_)
  have hP : va_P D vwCl [(w, .inr (6, [.ref wa])), (wa, .inl (cL, 6, .inr (.inl (vp_updL (vp_updL f0 0 (lN (lo % 4294967296))) 1 (lN (lo / 4294967296))))))] H := hP
  have hD : va_D A [(w, .inr (6, [.ref wa])), (wa, .inl (cL, 6, .inr (.inl (vp_updL (vp_updL f0 0 (lN (lo % 4294967296))) 1 (lN (lo / 4294967296))))))] := hD
  refine lv_aload_n (pc := 25) hx hb dX6_takeBits_25 rfl (lv_at hl 0 rfl) ?_
  refine va_get (D := D) (ci := 6) (v := .ref wa) (C := RX6) (T := TX6) (N := 1) (pc := 26) hx hb hts in_X6 hown hK hP 0 rfl rfl 0 (by decide) (hts _ kw_82) (fun _ h9 => h9) rfl dX6_takeBits_26 ?_
  refine lv_iconst (v := nI 2) (pc := 29) hx hb dX6_takeBits_29 kI_2 ?_
  refine lv_iload_n (pc := 30) hx hb dX6_takeBits_30 rfl (lv_at hl 2 rfl) ?_
  refine lv_i2l (v := (nI hi).toInt64) (pc := 31) hx hb dX6_takeBits_31 rfl ?_
  refine lv_ldc2 (v := (4294967295 : Int64)) (pc := 32) hx hb hown (hts _ kw_256) dX6_takeBits_32 ?_
  refine x_l (y := lN 4294967295) rfl ?_
  refine lv_land (pc := 35) hx hb dX6_takeBits_35 ?_
  refine x_l (y := lN hi) (w_hi hh9) ?_
  refine x_last (pc := 36) hx hb hK hP hD hS 1 1 rfl rfl (by omega) (by decide) dX6_takeBits_36 (fun H locs hP hD hS => ?_)
  have hP : va_P D vwCl [(w, .inr (6, [.ref wa])), (wa, .inl (cL, 6, .inr (.inl (vp_updL (vp_updL (vp_updL f0 0 (lN (lo % 4294967296))) 1 (lN (lo / 4294967296))) 2 (lN hi)))))] H := hP
  have hD : va_D A [(w, .inr (6, [.ref wa])), (wa, .inl (cL, 6, .inr (.inl (vp_updL (vp_updL (vp_updL f0 0 (lN (lo % 4294967296))) 1 (lN (lo / 4294967296))) 2 (lN hi)))))] := hD
  exact x_retv (pc := 37) hx hb hr hlk (vp_updL (vp_updL (vp_updL f0 0 (lN (lo % 4294967296))) 1 (lN (lo / 4294967296))) 2 (lN hi)) (w_tk h0 hl9 hh9) hP hK hD hS dX6_takeBits_37
abbrev rm_w_low : Room := { frames := 0, cells := 0, slots := 0, locals := 0 }
set_option maxHeartbeats 4000000 in
set_option maxRecDepth 100000 in
theorem w_low (l : Launch) (D : va_G) (cI cL cC cB cZ cR : ClassId) (sz : Nat) (w wa v : Nat) (f : Nat → Int64) (hf : wR f v) : Met l yX6_lowBits wsX6_lowBits rm_w_low (xPc D vwCl (tyAll cI cL cC cB cZ cR) [.ref w] [(w, .inr (6, [.ref wa])), (wa, .inl (cL, 6, .inr (.inl f)))] sz) (va_Ql (fun (z : Int64) (_ : Unit) => z = lN (v % 18446744073709551616)) (xB D vwCl (tyAll cI cL cC cB cZ cR) (va_A [(w, .inr (6, [.ref wa])), (wa, .inl (cL, 6, .inr (.inl f)))] sz) (fun u : Unit => [(w, .inr (6, [.ref wa])), (wa, .inl (cL, 6, .inr (.inl f)))])) (va_A [(w, .inr (6, [.ref wa])), (wa, .inl (cL, 6, .inr (.inl f)))] sz)) 0 0 (va_A [(w, .inr (6, [.ref wa])), (wa, .inl (cL, 6, .inr (.inl f)))] sz) := by
  refine x_of (Qc := fun A => va_Ql (fun (z : Int64) (_ : Unit) => z = lN (v % 18446744073709551616)) (xB D vwCl (tyAll cI cL cC cB cZ cR) A (fun u : Unit => [(w, .inr (6, [.ref wa])), (wa, .inl (cL, 6, .inr (.inl f)))])) A) (by decide) rfl (Nat.le_of_ble_eq_true rfl) ?_
  intro p e s m args below meth c A H locs ls hx hb hr hts0 hown hlk hml hnm hP hK hD hN hA hS hl
  have hts : ∀ w ∈ wsA, w.before args s = true := fun w h => hts0 w (List.mem_cons_of_mem _ h)
  have hown : s.vm.findClass "WideDecimalDesk$Whole" = some m.cls := hown
  have hl : lv_has ls 1 [(0, .ref w)] := hl
  refine lv_aload_n (pc := 0) hx hb dX6_lowBits_0 rfl (lv_at hl 0 rfl) ?_
  refine va_get (D := D) (ci := 6) (v := .ref wa) (C := RX6) (T := TX6) (N := 1) (pc := 1) hx hb hts in_X6 hown hK hP 0 rfl rfl 0 (by decide) (hts _ kw_82) (fun _ h9 => h9) rfl dX6_lowBits_1 ?_
  refine lv_iconst (v := nI 0) (pc := 4) hx hb dX6_lowBits_4 kI_0 ?_
  refine x_lald (v := lN (dg 4294967296 v 0)) (pc := 5) hx hb hK hP 1 1 rfl rfl (by omega) (by decide) (hf 0 (by omega)) dX6_lowBits_5 ?_
  have hd0 := dgW v 0
  refine lv_aload_n (pc := 6) hx hb dX6_lowBits_6 rfl (lv_at hl 0 rfl) ?_
  refine va_get (D := D) (ci := 6) (v := .ref wa) (C := RX6) (T := TX6) (N := 1) (pc := 7) hx hb hts in_X6 hown hK hP 0 rfl rfl 0 (by decide) (hts _ kw_82) (fun _ h9 => h9) rfl dX6_lowBits_7 ?_
  refine lv_iconst (v := nI 1) (pc := 10) hx hb dX6_lowBits_10 kI_1 ?_
  refine x_lald (v := lN (dg 4294967296 v 1)) (pc := 11) hx hb hK hP 1 1 rfl rfl (by omega) (by decide) (hf 1 (by omega)) dX6_lowBits_11 ?_
  have hd1 := dgW v 1
  refine lv_bipush (v := nI 32) (pc := 12) hx hb dX6_lowBits_12 (by decide +kernel) ?_
  refine lv_lshl (v := lN ((dg 4294967296 v 1) * 4294967296)) (pc := 14) hx hb dX6_lowBits_14 (wL _) ?_
  refine lv_lor (pc := 15) hx hb dX6_lowBits_15 ?_
  refine x_l (y := lN (v % 18446744073709551616)) ((wO hd0 (by omega)).trans (congrArg lN (wv_low v))) ?_
  exact x_retl (pc := 16) hx hb hr hlk () rfl hP hK hD hS dX6_lowBits_16
abbrev rm_w_high : Room := { frames := 0, cells := 0, slots := 0, locals := 0 }
set_option maxHeartbeats 4000000 in
set_option maxRecDepth 100000 in
theorem w_high (l : Launch) (D : va_G) (cI cL cC cB cZ cR : ClassId) (sz : Nat) (w wa v : Nat) (f : Nat → Int64) (hf : wR f v) : Met l yX6_highBits wsX6_highBits rm_w_high (xPc D vwCl (tyAll cI cL cC cB cZ cR) [.ref w] [(w, .inr (6, [.ref wa])), (wa, .inl (cL, 6, .inr (.inl f)))] sz) (va_Qi (fun (z : Int32) (_ : Unit) => z = nI (dg 4294967296 v 2)) (xB D vwCl (tyAll cI cL cC cB cZ cR) (va_A [(w, .inr (6, [.ref wa])), (wa, .inl (cL, 6, .inr (.inl f)))] sz) (fun u : Unit => [(w, .inr (6, [.ref wa])), (wa, .inl (cL, 6, .inr (.inl f)))])) (va_A [(w, .inr (6, [.ref wa])), (wa, .inl (cL, 6, .inr (.inl f)))] sz)) 0 0 (va_A [(w, .inr (6, [.ref wa])), (wa, .inl (cL, 6, .inr (.inl f)))] sz) := by
  refine x_of (Qc := fun A => va_Qi (fun (z : Int32) (_ : Unit) => z = nI (dg 4294967296 v 2)) (xB D vwCl (tyAll cI cL cC cB cZ cR) A (fun u : Unit => [(w, .inr (6, [.ref wa])), (wa, .inl (cL, 6, .inr (.inl f)))])) A) (by decide) rfl (Nat.le_of_ble_eq_true rfl) ?_
  intro p e s m args below meth c A H locs ls hx hb hr hts0 hown hlk hml hnm hP hK hD hN hA hS hl
  have hts : ∀ w ∈ wsA, w.before args s = true := fun w h => hts0 w (List.mem_cons_of_mem _ h)
  have hown : s.vm.findClass "WideDecimalDesk$Whole" = some m.cls := hown
  have hl : lv_has ls 1 [(0, .ref w)] := hl
  refine lv_aload_n (pc := 0) hx hb dX6_highBits_0 rfl (lv_at hl 0 rfl) ?_
  refine va_get (D := D) (ci := 6) (v := .ref wa) (C := RX6) (T := TX6) (N := 1) (pc := 1) hx hb hts in_X6 hown hK hP 0 rfl rfl 0 (by decide) (hts _ kw_82) (fun _ h9 => h9) rfl dX6_highBits_1 ?_
  refine lv_iconst (v := nI 2) (pc := 4) hx hb dX6_highBits_4 kI_2 ?_
  refine x_lald (v := lN (dg 4294967296 v 2)) (pc := 5) hx hb hK hP 1 1 rfl rfl (by omega) (by decide) (hf 2 (by omega)) dX6_highBits_5 ?_
  have hd2 := dgW v 2
  refine lv_l2i (v := nI (dg 4294967296 v 2)) (pc := 6) hx hb dX6_highBits_6 (lN_i (dg 4294967296 v 2)) ?_
  exact x_reti (pc := 7) hx hb hr hlk () rfl hP hK hD hS dX6_highBits_7
abbrev rm_w_isCoef : Room := { frames := 0, cells := 0, slots := 0, locals := 0 }
set_option maxHeartbeats 4000000 in
set_option maxRecDepth 100000 in
theorem w_isCoef (l : Launch) (D : va_G) (cI cL cC cB cZ cR : ClassId) (sz : Nat) (w wa v : Nat) (f : Nat → Int64) (hf : wR f v) (hv : v < 4294967296 ^ 6) : Met l yX6_isCoefficient wsX6_isCoefficient rm_w_isCoef (xPc D vwCl (tyAll cI cL cC cB cZ cR) [.ref w] [(w, .inr (6, [.ref wa])), (wa, .inl (cL, 6, .inr (.inl f)))] sz) (va_Qi (fun (z : Int32) (_ : Unit) => z = nI (cfN v)) (xB D vwCl (tyAll cI cL cC cB cZ cR) (va_A [(w, .inr (6, [.ref wa])), (wa, .inl (cL, 6, .inr (.inl f)))] sz) (fun u : Unit => [(w, .inr (6, [.ref wa])), (wa, .inl (cL, 6, .inr (.inl f)))])) (va_A [(w, .inr (6, [.ref wa])), (wa, .inl (cL, 6, .inr (.inl f)))] sz)) 0 0 (va_A [(w, .inr (6, [.ref wa])), (wa, .inl (cL, 6, .inr (.inl f)))] sz) := by
  refine x_of (Qc := fun A => va_Qi (fun (z : Int32) (_ : Unit) => z = nI (cfN v)) (xB D vwCl (tyAll cI cL cC cB cZ cR) A (fun u : Unit => [(w, .inr (6, [.ref wa])), (wa, .inl (cL, 6, .inr (.inl f)))])) A) (by decide) rfl (Nat.le_of_ble_eq_true rfl) ?_
  intro p e s m args below meth c A H locs ls hx hb hr hts0 hown hlk hml hnm hP hK hD hN hA hS hl
  have hts : ∀ w ∈ wsA, w.before args s = true := fun w h => hts0 w (List.mem_cons_of_mem _ h)
  have hown : s.vm.findClass "WideDecimalDesk$Whole" = some m.cls := hown
  have hl : lv_has ls 1 [(0, .ref w)] := hl
  refine lv_aload_n (pc := 0) hx hb dX6_isCoefficient_0 rfl (lv_at hl 0 rfl) ?_
  refine va_get (D := D) (ci := 6) (v := .ref wa) (C := RX6) (T := TX6) (N := 1) (pc := 1) hx hb hts in_X6 hown hK hP 0 rfl rfl 0 (by decide) (hts _ kw_82) (fun _ h9 => h9) rfl dX6_isCoefficient_1 ?_
  refine lv_iconst (v := nI 3) (pc := 4) hx hb dX6_isCoefficient_4 kI_3 ?_
  refine x_lald (v := lN (dg 4294967296 v 3)) (pc := 5) hx hb hK hP 1 1 rfl rfl (by omega) (by decide) (hf 3 (by omega)) dX6_isCoefficient_5 ?_
  have hd3 := dgW v 3
  refine lv_lconst (v := lN 0) (pc := 6) hx hb dX6_isCoefficient_6 rfl ?_
  refine W.lcmp (pc := 7) hx hb dX6_isCoefficient_7 ?_
  refine x_i (y := ord3 (dg 4294967296 v 3) 0) (lc3 (by omega) (by omega)) ?_
  refine x_o_ne (tgt := 37) (pc := 8) hx hb dX6_isCoefficient_8 (by decide) (fun h1 => ?_) (fun h1 => ?_)
  · refine lv_iconst (v := nI 0) (pc := 37) hx hb dX6_isCoefficient_37 kI_0 ?_
    exact x_retz (pc := 38) rfl hx hb hr hlk () (congrArg nI (by have a := cfN_sp v; have b := w_cf hv; omega)) hP hK hD hS dX6_isCoefficient_38
  · refine lv_aload_n (pc := 11) hx hb dX6_isCoefficient_11 rfl (lv_at hl 0 rfl) ?_
    refine va_get (D := D) (ci := 6) (v := .ref wa) (C := RX6) (T := TX6) (N := 1) (pc := 12) hx hb hts in_X6 hown hK hP 0 rfl rfl 0 (by decide) (hts _ kw_82) (fun _ h9 => h9) rfl dX6_isCoefficient_12 ?_
    refine lv_iconst (v := nI 4) (pc := 15) hx hb dX6_isCoefficient_15 kI_4 ?_
    refine x_lald (v := lN (dg 4294967296 v 4)) (pc := 16) hx hb hK hP 1 1 rfl rfl (by omega) (by decide) (hf 4 (by omega)) dX6_isCoefficient_16 ?_
    have hd4 := dgW v 4
    refine lv_lconst (v := lN 0) (pc := 17) hx hb dX6_isCoefficient_17 rfl ?_
    refine W.lcmp (pc := 18) hx hb dX6_isCoefficient_18 ?_
    refine x_i (y := ord3 (dg 4294967296 v 4) 0) (lc3 (by omega) (by omega)) ?_
    refine x_o_ne (tgt := 37) (pc := 19) hx hb dX6_isCoefficient_19 (by decide) (fun h2 => ?_) (fun h2 => ?_)
    · refine lv_iconst (v := nI 0) (pc := 37) hx hb dX6_isCoefficient_37 kI_0 ?_
      exact x_retz (pc := 38) rfl hx hb hr hlk () (congrArg nI (by have a := cfN_sp v; have b := w_cf hv; omega)) hP hK hD hS dX6_isCoefficient_38
    · refine lv_aload_n (pc := 22) hx hb dX6_isCoefficient_22 rfl (lv_at hl 0 rfl) ?_
      refine va_get (D := D) (ci := 6) (v := .ref wa) (C := RX6) (T := TX6) (N := 1) (pc := 23) hx hb hts in_X6 hown hK hP 0 rfl rfl 0 (by decide) (hts _ kw_82) (fun _ h9 => h9) rfl dX6_isCoefficient_23 ?_
      refine lv_iconst (v := nI 5) (pc := 26) hx hb dX6_isCoefficient_26 kI_5 ?_
      refine x_lald (v := lN (dg 4294967296 v 5)) (pc := 27) hx hb hK hP 1 1 rfl rfl (by omega) (by decide) (hf 5 (by omega)) dX6_isCoefficient_27 ?_
      have hd5 := dgW v 5
      refine lv_lconst (v := lN 0) (pc := 28) hx hb dX6_isCoefficient_28 rfl ?_
      refine W.lcmp (pc := 29) hx hb dX6_isCoefficient_29 ?_
      refine x_i (y := ord3 (dg 4294967296 v 5) 0) (lc3 (by omega) (by omega)) ?_
      refine x_o_ne (tgt := 37) (pc := 30) hx hb dX6_isCoefficient_30 (by decide) (fun h3 => ?_) (fun h3 => ?_)
      · refine lv_iconst (v := nI 0) (pc := 37) hx hb dX6_isCoefficient_37 kI_0 ?_
        exact x_retz (pc := 38) rfl hx hb hr hlk () (congrArg nI (by have a := cfN_sp v; have b := w_cf hv; omega)) hP hK hD hS dX6_isCoefficient_38
      · refine lv_iconst (v := nI 1) (pc := 33) hx hb dX6_isCoefficient_33 kI_1 ?_
        refine lv_goto (tgt := 38) (pc := 34) hx hb dX6_isCoefficient_34 (by decide) ?_
        exact x_retz (pc := 38) rfl hx hb hr hlk () (congrArg nI (by have a := cfN_sp v; have b := w_cf hv; omega)) hP hK hD hS dX6_isCoefficient_38
abbrev rm_w_isZero : Room := { frames := 1, cells := 0, slots := 0, locals := 20 }
set_option maxHeartbeats 4000000 in
set_option maxRecDepth 100000 in
theorem w_isZero (l : Launch) (D : va_G) (cI cL cC cB cZ cR : ClassId) (sz : Nat) (w wa v : Nat) (f : Nat → Int64) (hf : wR f v) (hv : v < 4294967296 ^ 6) : Met l yX6_isZero wsX6_isZero rm_w_isZero (xPc D vwCl (tyAll cI cL cC cB cZ cR) [.ref w] [(w, .inr (6, [.ref wa])), (wa, .inl (cL, 6, .inr (.inl f)))] sz) (va_Qi (fun (z : Int32) (_ : Unit) => z = nI (iz v)) (xB D vwCl (tyAll cI cL cC cB cZ cR) (va_A [(w, .inr (6, [.ref wa])), (wa, .inl (cL, 6, .inr (.inl f)))] sz) (fun u : Unit => [(w, .inr (6, [.ref wa])), (wa, .inl (cL, 6, .inr (.inl f)))])) (va_A [(w, .inr (6, [.ref wa])), (wa, .inl (cL, 6, .inr (.inl f)))] sz)) 0 0 (va_A [(w, .inr (6, [.ref wa])), (wa, .inl (cL, 6, .inr (.inl f)))] sz) := by
  refine x_of (Qc := fun A => va_Qi (fun (z : Int32) (_ : Unit) => z = nI (iz v)) (xB D vwCl (tyAll cI cL cC cB cZ cR) A (fun u : Unit => [(w, .inr (6, [.ref wa])), (wa, .inl (cL, 6, .inr (.inl f)))])) A) (by decide) rfl (Nat.le_of_ble_eq_true rfl) ?_
  intro p e s m args below meth c A H locs ls hx hb hr hts0 hown hlk hml hnm hP hK hD hN hA hS hl
  have hts : ∀ w ∈ wsA, w.before args s = true := fun w h => hts0 w (List.mem_cons_of_mem _ h)
  have hown : s.vm.findClass "WideDecimalDesk$Whole" = some m.cls := hown
  have hl : lv_has ls 1 [(0, .ref w)] := hl
  refine lv_aload_n (pc := 0) hx hb dX6_isZero_0 rfl (lv_at hl 0 rfl) ?_
  refine x_Vi (pc := 1) (As := []) (rest := []) (b := w) (wr := []) ⟨hx, hb, hml, hown, hts⟩ (w_isCoef l D cI cL cC cB cZ cR H.size w wa v f hf hv) ⟨callB_of 0 hts (x_good kw_293) rfl rfl rfl (hts _ kw_5) (hts _ kw_306) dc_X6_isCoefficient ⟨Nat.le_of_ble_eq_true rfl, Nat.le_of_ble_eq_true rfl⟩, hts _ kw_291, hts _ kw_292⟩ (q0 := 0) rfl rfl rfl rfl hl.1 rfl (Nat.le_of_ble_eq_true rfl) dX6_isZero_1 ⟨Nat.le_refl _, Nat.le_refl _⟩ hN hK hP hD hS hA [0, 1] [] rfl rfl (by decide) (by decide) (by decide) (fun r1 u1 H locs q1 hP hD hS => ?_)
  have hP : va_P D vwCl [(w, .inr (6, [.ref wa])), (wa, .inl (cL, 6, .inr (.inl f)))] H := hP
  have hD : va_D A [(w, .inr (6, [.ref wa])), (wa, .inl (cL, 6, .inr (.inl f)))] := hD
  obtain rfl := q1
  have a := cfN_sp v
  refine x_if_eq (tgt := 44) (pc := 4) hx hb (by omega) dX6_isZero_4 (by decide) (fun h0 => ?_) (fun h0 => ?_)
  · have hlp : 0 < lim := by decide +kernel
    refine lv_iconst (v := nI 0) (pc := 44) hx hb dX6_isZero_44 kI_0 ?_
    exact x_retz (pc := 45) rfl hx hb hr hlk () (congrArg nI (by have b := iz_sp v; omega)) hP hK hD hS dX6_isZero_45
  · have e3 := w_lo3 (v := v) (by omega)
    refine lv_aload_n (pc := 7) hx hb dX6_isZero_7 rfl (lv_at hl 0 rfl) ?_
    refine va_get (D := D) (ci := 6) (v := .ref wa) (C := RX6) (T := TX6) (N := 1) (pc := 8) hx hb hts in_X6 hown hK hP 0 rfl rfl 0 (by decide) (hts _ kw_82) (fun _ h9 => h9) rfl dX6_isZero_8 ?_
    refine lv_iconst (v := nI 0) (pc := 11) hx hb dX6_isZero_11 kI_0 ?_
    refine x_lald (v := lN (dg 4294967296 v 0)) (pc := 12) hx hb hK hP 1 1 rfl rfl (by omega) (by decide) (hf 0 (by omega)) dX6_isZero_12 ?_
    have hd0 := dgW v 0
    refine lv_lconst (v := lN 0) (pc := 13) hx hb dX6_isZero_13 rfl ?_
    refine W.lcmp (pc := 14) hx hb dX6_isZero_14 ?_
    refine x_i (y := ord3 (dg 4294967296 v 0) 0) (lc3 (by omega) (by omega)) ?_
    refine x_o_ne (tgt := 44) (pc := 15) hx hb dX6_isZero_15 (by decide) (fun h1 => ?_) (fun h1 => ?_)
    · refine lv_iconst (v := nI 0) (pc := 44) hx hb dX6_isZero_44 kI_0 ?_
      exact x_retz (pc := 45) rfl hx hb hr hlk () (congrArg nI (by have b := iz_sp v; omega)) hP hK hD hS dX6_isZero_45
    · refine lv_aload_n (pc := 18) hx hb dX6_isZero_18 rfl (lv_at hl 0 rfl) ?_
      refine va_get (D := D) (ci := 6) (v := .ref wa) (C := RX6) (T := TX6) (N := 1) (pc := 19) hx hb hts in_X6 hown hK hP 0 rfl rfl 0 (by decide) (hts _ kw_82) (fun _ h9 => h9) rfl dX6_isZero_19 ?_
      refine lv_iconst (v := nI 1) (pc := 22) hx hb dX6_isZero_22 kI_1 ?_
      refine x_lald (v := lN (dg 4294967296 v 1)) (pc := 23) hx hb hK hP 1 1 rfl rfl (by omega) (by decide) (hf 1 (by omega)) dX6_isZero_23 ?_
      have hd1 := dgW v 1
      refine lv_lconst (v := lN 0) (pc := 24) hx hb dX6_isZero_24 rfl ?_
      refine W.lcmp (pc := 25) hx hb dX6_isZero_25 ?_
      refine x_i (y := ord3 (dg 4294967296 v 1) 0) (lc3 (by omega) (by omega)) ?_
      refine x_o_ne (tgt := 44) (pc := 26) hx hb dX6_isZero_26 (by decide) (fun h2 => ?_) (fun h2 => ?_)
      · refine lv_iconst (v := nI 0) (pc := 44) hx hb dX6_isZero_44 kI_0 ?_
        exact x_retz (pc := 45) rfl hx hb hr hlk () (congrArg nI (by have b := iz_sp v; omega)) hP hK hD hS dX6_isZero_45
      · refine lv_aload_n (pc := 29) hx hb dX6_isZero_29 rfl (lv_at hl 0 rfl) ?_
        refine va_get (D := D) (ci := 6) (v := .ref wa) (C := RX6) (T := TX6) (N := 1) (pc := 30) hx hb hts in_X6 hown hK hP 0 rfl rfl 0 (by decide) (hts _ kw_82) (fun _ h9 => h9) rfl dX6_isZero_30 ?_
        refine lv_iconst (v := nI 2) (pc := 33) hx hb dX6_isZero_33 kI_2 ?_
        refine x_lald (v := lN (dg 4294967296 v 2)) (pc := 34) hx hb hK hP 1 1 rfl rfl (by omega) (by decide) (hf 2 (by omega)) dX6_isZero_34 ?_
        have hd2 := dgW v 2
        refine lv_lconst (v := lN 0) (pc := 35) hx hb dX6_isZero_35 rfl ?_
        refine W.lcmp (pc := 36) hx hb dX6_isZero_36 ?_
        refine x_i (y := ord3 (dg 4294967296 v 2) 0) (lc3 (by omega) (by omega)) ?_
        refine x_o_ne (tgt := 44) (pc := 37) hx hb dX6_isZero_37 (by decide) (fun h3 => ?_) (fun h3 => ?_)
        · refine lv_iconst (v := nI 0) (pc := 44) hx hb dX6_isZero_44 kI_0 ?_
          exact x_retz (pc := 45) rfl hx hb hr hlk () (congrArg nI (by have b := iz_sp v; omega)) hP hK hD hS dX6_isZero_45
        · refine lv_iconst (v := nI 1) (pc := 40) hx hb dX6_isZero_40 kI_1 ?_
          refine lv_goto (tgt := 45) (pc := 41) hx hb dX6_isZero_41 (by decide) ?_
          exact x_retz (pc := 45) rfl hx hb hr hlk () (congrArg nI (by have b := iz_sp v; omega)) hP hK hD hS dX6_isZero_45
abbrev rm_w_isOdd : Room := { frames := 0, cells := 0, slots := 0, locals := 0 }
set_option maxHeartbeats 4000000 in
set_option maxRecDepth 100000 in
theorem w_isOdd (l : Launch) (D : va_G) (cI cL cC cB cZ cR : ClassId) (sz : Nat) (w wa v : Nat) (f : Nat → Int64) (hf : wR f v) : Met l yX6_isOdd wsX6_isOdd rm_w_isOdd (xPc D vwCl (tyAll cI cL cC cB cZ cR) [.ref w] [(w, .inr (6, [.ref wa])), (wa, .inl (cL, 6, .inr (.inl f)))] sz) (va_Qi (fun (z : Int32) (_ : Unit) => z = nI (v % 2)) (xB D vwCl (tyAll cI cL cC cB cZ cR) (va_A [(w, .inr (6, [.ref wa])), (wa, .inl (cL, 6, .inr (.inl f)))] sz) (fun u : Unit => [(w, .inr (6, [.ref wa])), (wa, .inl (cL, 6, .inr (.inl f)))])) (va_A [(w, .inr (6, [.ref wa])), (wa, .inl (cL, 6, .inr (.inl f)))] sz)) 0 0 (va_A [(w, .inr (6, [.ref wa])), (wa, .inl (cL, 6, .inr (.inl f)))] sz) := by
  refine x_of (Qc := fun A => va_Qi (fun (z : Int32) (_ : Unit) => z = nI (v % 2)) (xB D vwCl (tyAll cI cL cC cB cZ cR) A (fun u : Unit => [(w, .inr (6, [.ref wa])), (wa, .inl (cL, 6, .inr (.inl f)))])) A) (by decide) rfl (Nat.le_of_ble_eq_true rfl) ?_
  intro p e s m args below meth c A H locs ls hx hb hr hts0 hown hlk hml hnm hP hK hD hN hA hS hl
  have hts : ∀ w ∈ wsA, w.before args s = true := fun w h => hts0 w (List.mem_cons_of_mem _ h)
  have hown : s.vm.findClass "WideDecimalDesk$Whole" = some m.cls := hown
  have hl : lv_has ls 1 [(0, .ref w)] := hl
  refine lv_aload_n (pc := 0) hx hb dX6_isOdd_0 rfl (lv_at hl 0 rfl) ?_
  refine va_get (D := D) (ci := 6) (v := .ref wa) (C := RX6) (T := TX6) (N := 1) (pc := 1) hx hb hts in_X6 hown hK hP 0 rfl rfl 0 (by decide) (hts _ kw_82) (fun _ h9 => h9) rfl dX6_isOdd_1 ?_
  refine lv_iconst (v := nI 0) (pc := 4) hx hb dX6_isOdd_4 kI_0 ?_
  refine x_lald (v := lN (dg 4294967296 v 0)) (pc := 5) hx hb hK hP 1 1 rfl rfl (by omega) (by decide) (hf 0 (by omega)) dX6_isOdd_5 ?_
  have hd0 := dgW v 0
  refine lv_lconst (v := lN 1) (pc := 6) hx hb dX6_isOdd_6 rfl ?_
  refine lv_land (pc := 7) hx hb dX6_isOdd_7 ?_
  refine x_l (y := lN ((dg 4294967296 v 0) % 2)) (w1 (by omega)) ?_
  refine lv_lconst (v := lN 1) (pc := 8) hx hb dX6_isOdd_8 rfl ?_
  refine W.lcmp (pc := 9) hx hb dX6_isOdd_9 ?_
  refine x_i (y := ord3 ((dg 4294967296 v 0) % 2) 1) (lc3 (by omega) (by omega)) ?_
  refine x_o_ne (tgt := 17) (pc := 10) hx hb dX6_isOdd_10 (by decide) (fun h1 => ?_) (fun h1 => ?_)
  · rw [w_odd] at h1
    refine lv_iconst (v := nI 0) (pc := 17) hx hb dX6_isOdd_17 kI_0 ?_
    exact x_retz (pc := 18) rfl hx hb hr hlk () (congrArg nI (by omega)) hP hK hD hS dX6_isOdd_18
  · rw [w_odd] at h1
    refine lv_iconst (v := nI 1) (pc := 13) hx hb dX6_isOdd_13 kI_1 ?_
    refine lv_goto (tgt := 18) (pc := 14) hx hb dX6_isOdd_14 (by decide) ?_
    exact x_retz (pc := 18) rfl hx hb hr hlk () (congrArg nI (by omega)) hP hK hD hS dX6_isOdd_18
abbrev rm_w_isGreat : Room := { frames := 1, cells := 0, slots := 0, locals := 20 }
set_option maxHeartbeats 4000000 in
set_option maxRecDepth 100000 in
theorem w_isGreat (l : Launch) (D : va_G) (cI cL cC cB cZ cR : ClassId) (sz : Nat) (w wa v : Nat) (f : Nat → Int64) (hf : wR f v) (hv : v < 4294967296 ^ 6) : Met l yX6_isGreatestCoefficient wsX6_isGreatestCoefficient rm_w_isGreat (xPc D vwCl (tyAll cI cL cC cB cZ cR) [.ref w] [(w, .inr (6, [.ref wa])), (wa, .inl (cL, 6, .inr (.inl f)))] sz) (va_Qi (fun (z : Int32) (_ : Unit) => z = nI (gcN v)) (xB D vwCl (tyAll cI cL cC cB cZ cR) (va_A [(w, .inr (6, [.ref wa])), (wa, .inl (cL, 6, .inr (.inl f)))] sz) (fun u : Unit => [(w, .inr (6, [.ref wa])), (wa, .inl (cL, 6, .inr (.inl f)))])) (va_A [(w, .inr (6, [.ref wa])), (wa, .inl (cL, 6, .inr (.inl f)))] sz)) 0 0 (va_A [(w, .inr (6, [.ref wa])), (wa, .inl (cL, 6, .inr (.inl f)))] sz) := by
  refine x_of (Qc := fun A => va_Qi (fun (z : Int32) (_ : Unit) => z = nI (gcN v)) (xB D vwCl (tyAll cI cL cC cB cZ cR) A (fun u : Unit => [(w, .inr (6, [.ref wa])), (wa, .inl (cL, 6, .inr (.inl f)))])) A) (by decide) rfl (Nat.le_of_ble_eq_true rfl) ?_
  intro p e s m args below meth c A H locs ls hx hb hr hts0 hown hlk hml hnm hP hK hD hN hA hS hl
  have hts : ∀ w ∈ wsA, w.before args s = true := fun w h => hts0 w (List.mem_cons_of_mem _ h)
  have hown : s.vm.findClass "WideDecimalDesk$Whole" = some m.cls := hown
  have hl : lv_has ls 1 [(0, .ref w)] := hl
  refine lv_aload_n (pc := 0) hx hb dX6_isGreatestCoefficient_0 rfl (lv_at hl 0 rfl) ?_
  refine x_Vi (pc := 1) (As := []) (rest := []) (b := w) (wr := []) ⟨hx, hb, hml, hown, hts⟩ (w_isCoef l D cI cL cC cB cZ cR H.size w wa v f hf hv) ⟨callB_of 0 hts (x_good kw_293) rfl rfl rfl (hts _ kw_5) (hts _ kw_306) dc_X6_isCoefficient ⟨Nat.le_of_ble_eq_true rfl, Nat.le_of_ble_eq_true rfl⟩, hts _ kw_291, hts _ kw_292⟩ (q0 := 0) rfl rfl rfl rfl hl.1 rfl (Nat.le_of_ble_eq_true rfl) dX6_isGreatestCoefficient_1 ⟨Nat.le_refl _, Nat.le_refl _⟩ hN hK hP hD hS hA [0, 1] [] rfl rfl (by decide) (by decide) (by decide) (fun r1 u1 H locs q1 hP hD hS => ?_)
  have hP : va_P D vwCl [(w, .inr (6, [.ref wa])), (wa, .inl (cL, 6, .inr (.inl f)))] H := hP
  have hD : va_D A [(w, .inr (6, [.ref wa])), (wa, .inl (cL, 6, .inr (.inl f)))] := hD
  obtain rfl := q1
  have a := cfN_sp v
  refine x_if_eq (tgt := 50) (pc := 4) hx hb (by omega) dX6_isGreatestCoefficient_4 (by decide) (fun h0 => ?_) (fun h0 => ?_)
  · refine lv_iconst (v := nI 0) (pc := 50) hx hb dX6_isGreatestCoefficient_50 kI_0 ?_
    exact x_retz (pc := 51) rfl hx hb hr hlk () (congrArg nI (by have b := gcN_sp v; omega)) hP hK hD hS dX6_isGreatestCoefficient_51
  · have e3 := w_lo3 (v := v) (by omega)
    have hlp : lim = 79228162514264337593543950336 := rfl
    refine lv_aload_n (pc := 7) hx hb dX6_isGreatestCoefficient_7 rfl (lv_at hl 0 rfl) ?_
    refine va_get (D := D) (ci := 6) (v := .ref wa) (C := RX6) (T := TX6) (N := 1) (pc := 8) hx hb hts in_X6 hown hK hP 0 rfl rfl 0 (by decide) (hts _ kw_82) (fun _ h9 => h9) rfl dX6_isGreatestCoefficient_8 ?_
    refine lv_iconst (v := nI 0) (pc := 11) hx hb dX6_isGreatestCoefficient_11 kI_0 ?_
    refine x_lald (v := lN (dg 4294967296 v 0)) (pc := 12) hx hb hK hP 1 1 rfl rfl (by omega) (by decide) (hf 0 (by omega)) dX6_isGreatestCoefficient_12 ?_
    have hd0 := dgW v 0
    refine lv_ldc2 (v := (4294967295 : Int64)) (pc := 13) hx hb hown (hts _ kw_256) dX6_isGreatestCoefficient_13 ?_
    refine x_l (y := lN 4294967295) rfl ?_
    refine W.lcmp (pc := 16) hx hb dX6_isGreatestCoefficient_16 ?_
    refine x_i (y := ord3 (dg 4294967296 v 0) 4294967295) (lc3 (by omega) (by omega)) ?_
    refine x_o_ne (tgt := 50) (pc := 17) hx hb dX6_isGreatestCoefficient_17 (by decide) (fun h1 => ?_) (fun h1 => ?_)
    · refine lv_iconst (v := nI 0) (pc := 50) hx hb dX6_isGreatestCoefficient_50 kI_0 ?_
      exact x_retz (pc := 51) rfl hx hb hr hlk () (congrArg nI (by have b := gcN_sp v; omega)) hP hK hD hS dX6_isGreatestCoefficient_51
    · refine lv_aload_n (pc := 20) hx hb dX6_isGreatestCoefficient_20 rfl (lv_at hl 0 rfl) ?_
      refine va_get (D := D) (ci := 6) (v := .ref wa) (C := RX6) (T := TX6) (N := 1) (pc := 21) hx hb hts in_X6 hown hK hP 0 rfl rfl 0 (by decide) (hts _ kw_82) (fun _ h9 => h9) rfl dX6_isGreatestCoefficient_21 ?_
      refine lv_iconst (v := nI 1) (pc := 24) hx hb dX6_isGreatestCoefficient_24 kI_1 ?_
      refine x_lald (v := lN (dg 4294967296 v 1)) (pc := 25) hx hb hK hP 1 1 rfl rfl (by omega) (by decide) (hf 1 (by omega)) dX6_isGreatestCoefficient_25 ?_
      have hd1 := dgW v 1
      refine lv_ldc2 (v := (4294967295 : Int64)) (pc := 26) hx hb hown (hts _ kw_256) dX6_isGreatestCoefficient_26 ?_
      refine x_l (y := lN 4294967295) rfl ?_
      refine W.lcmp (pc := 29) hx hb dX6_isGreatestCoefficient_29 ?_
      refine x_i (y := ord3 (dg 4294967296 v 1) 4294967295) (lc3 (by omega) (by omega)) ?_
      refine x_o_ne (tgt := 50) (pc := 30) hx hb dX6_isGreatestCoefficient_30 (by decide) (fun h2 => ?_) (fun h2 => ?_)
      · refine lv_iconst (v := nI 0) (pc := 50) hx hb dX6_isGreatestCoefficient_50 kI_0 ?_
        exact x_retz (pc := 51) rfl hx hb hr hlk () (congrArg nI (by have b := gcN_sp v; omega)) hP hK hD hS dX6_isGreatestCoefficient_51
      · refine lv_aload_n (pc := 33) hx hb dX6_isGreatestCoefficient_33 rfl (lv_at hl 0 rfl) ?_
        refine va_get (D := D) (ci := 6) (v := .ref wa) (C := RX6) (T := TX6) (N := 1) (pc := 34) hx hb hts in_X6 hown hK hP 0 rfl rfl 0 (by decide) (hts _ kw_82) (fun _ h9 => h9) rfl dX6_isGreatestCoefficient_34 ?_
        refine lv_iconst (v := nI 2) (pc := 37) hx hb dX6_isGreatestCoefficient_37 kI_2 ?_
        refine x_lald (v := lN (dg 4294967296 v 2)) (pc := 38) hx hb hK hP 1 1 rfl rfl (by omega) (by decide) (hf 2 (by omega)) dX6_isGreatestCoefficient_38 ?_
        have hd2 := dgW v 2
        refine lv_ldc2 (v := (4294967295 : Int64)) (pc := 39) hx hb hown (hts _ kw_256) dX6_isGreatestCoefficient_39 ?_
        refine x_l (y := lN 4294967295) rfl ?_
        refine W.lcmp (pc := 42) hx hb dX6_isGreatestCoefficient_42 ?_
        refine x_i (y := ord3 (dg 4294967296 v 2) 4294967295) (lc3 (by omega) (by omega)) ?_
        refine x_o_ne (tgt := 50) (pc := 43) hx hb dX6_isGreatestCoefficient_43 (by decide) (fun h3 => ?_) (fun h3 => ?_)
        · refine lv_iconst (v := nI 0) (pc := 50) hx hb dX6_isGreatestCoefficient_50 kI_0 ?_
          exact x_retz (pc := 51) rfl hx hb hr hlk () (congrArg nI (by have b := gcN_sp v; omega)) hP hK hD hS dX6_isGreatestCoefficient_51
        · refine lv_iconst (v := nI 1) (pc := 46) hx hb dX6_isGreatestCoefficient_46 kI_1 ?_
          refine lv_goto (tgt := 51) (pc := 47) hx hb dX6_isGreatestCoefficient_47 (by decide) ?_
          exact x_retz (pc := 51) rfl hx hb hr hlk () (congrArg nI (by have b := gcN_sp v; omega)) hP hK hD hS dX6_isGreatestCoefficient_51
abbrev rm_w_against : Room := { frames := 0, cells := 0, slots := 0, locals := 0 }
set_option maxHeartbeats 4000000 in
set_option maxRecDepth 100000 in
theorem w_against (l : Launch) (D : va_G) (cI cL cC cB cZ cR : ClassId) (sz : Nat) (w wa o oa a b : Nat) (f g : Nat → Int64) (hf : wR f a) (hg : wR g b) (ha : a < 4294967296 ^ 6) (hb9 : b < 4294967296 ^ 6) : Met l yX6_against wsX6_against rm_w_against (xPc D vwCl (tyAll cI cL cC cB cZ cR) [.ref w, .ref o] [(w, .inr (6, [.ref wa])), (wa, .inl (cL, 6, .inr (.inl f))), (o, .inr (6, [.ref oa])), (oa, .inl (cL, 6, .inr (.inl g)))] sz) (va_Qi (fun (z : Int32) (_ : Unit) => z = ord3 a b) (xB D vwCl (tyAll cI cL cC cB cZ cR) (va_A [(w, .inr (6, [.ref wa])), (wa, .inl (cL, 6, .inr (.inl f))), (o, .inr (6, [.ref oa])), (oa, .inl (cL, 6, .inr (.inl g)))] sz) (fun u : Unit => [(w, .inr (6, [.ref wa])), (wa, .inl (cL, 6, .inr (.inl f))), (o, .inr (6, [.ref oa])), (oa, .inl (cL, 6, .inr (.inl g)))])) (va_A [(w, .inr (6, [.ref wa])), (wa, .inl (cL, 6, .inr (.inl f))), (o, .inr (6, [.ref oa])), (oa, .inl (cL, 6, .inr (.inl g)))] sz)) 0 0 (va_A [(w, .inr (6, [.ref wa])), (wa, .inl (cL, 6, .inr (.inl f))), (o, .inr (6, [.ref oa])), (oa, .inl (cL, 6, .inr (.inl g)))] sz) := by
  refine x_of (Qc := fun A => va_Qi (fun (z : Int32) (_ : Unit) => z = ord3 a b) (xB D vwCl (tyAll cI cL cC cB cZ cR) A (fun u : Unit => [(w, .inr (6, [.ref wa])), (wa, .inl (cL, 6, .inr (.inl f))), (o, .inr (6, [.ref oa])), (oa, .inl (cL, 6, .inr (.inl g)))])) A) (by decide) rfl (Nat.le_of_ble_eq_true rfl) ?_
  intro p e s m args below meth c A H locs ls hx hb hr hts0 hown hlk hml hnm hP hK hD hN hA hS hl
  have hts : ∀ w ∈ wsA, w.before args s = true := fun w h => hts0 w (List.mem_cons_of_mem _ h)
  have hown : s.vm.findClass "WideDecimalDesk$Whole" = some m.cls := hown
  have hl : lv_has ls 3 [(0, .ref w), (1, .ref o)] := hl
  have L2 : ∀ (kk : Nat) (k : Nat) (H : Heap) (locs : List Loc) (ls : Array Slot) (hk2 : k < kk) (hk : k ≤ 6) (he : a / 4294967296 ^ k = b / 4294967296 ^ k) (hP : va_P D vwCl [(w, .inr (6, [.ref wa])), (wa, .inl (cL, 6, .inr (.inl f))), (o, .inr (6, [.ref oa])), (oa, .inl (cL, 6, .inr (.inl g)))] H) (hD : va_D A [(w, .inr (6, [.ref wa])), (wa, .inl (cL, 6, .inr (.inl f))), (o, .inr (6, [.ref oa])), (oa, .inl (cL, 6, .inr (.inl g)))]) (hS : va_S A s.heap H locs) (hl : lv_has ls 3 [(2, .int (dn k)), (0, .ref w), (1, .ref o)]), W p l e rm_w_against s m args below meth c H locs 0 0 (MQ below (va_Qi (fun (z : Int32) (_ : Unit) => z = ord3 a b) (xB D vwCl (tyAll cI cL cC cB cZ cR) A (fun u : Unit => [(w, .inr (6, [.ref wa])), (wa, .inl (cL, 6, .inr (.inl f))), (o, .inr (6, [.ref oa])), (oa, .inl (cL, 6, .inr (.inl g)))])) A) args s 0 0 A) (F0 m 2 ls []) := by
    intro kk
    induction kk with
    | zero => intro k H locs ls hk; exact absurd hk (Nat.not_lt_zero _)
    | succ kk ih2 =>
      intro k H locs ls hk2 hk he hP hD hS hl
      refine lv_iload_n (pc := 2) hx hb dX6_against_2 rfl (lv_at hl 0 rfl) ?_
      refine lv_if_lt (tgt := 50) (pc := 3) hx hb dX6_against_3 (by decide) (fun hc => ?_) (fun hc => ?_)
      · have h0 : k = 0 := dn_lt (by omega) hc
        rw [h0, dv_0, dv_0] at he
        refine lv_iconst (v := nI 0) (pc := 50) hx hb dX6_against_50 kI_0 ?_
        exact x_reti (pc := 51) hx hb hr hlk () (ord3_eq he) hP hK hD hS dX6_against_51
      · obtain ⟨i, rfl⟩ := dn_ge hc
        have ha1 := dgW a i
        have hb1 := dgW b i
        have sa := dg_split 4294967296 a i
        have sb := dg_split 4294967296 b i
        have hl : lv_has ls 3 [(2, .int (nI i)), (0, .ref w), (1, .ref o)] := hl
        refine lv_aload_n (pc := 6) hx hb dX6_against_6 rfl (lv_at hl 1 rfl) ?_
        refine va_get (D := D) (ci := 6) (v := .ref wa) (C := RX6) (T := TX6) (N := 1) (pc := 7) hx hb hts in_X6 hown hK hP 0 rfl rfl 0 (by decide) (hts _ kw_82) (fun _ h9 => h9) rfl dX6_against_7 ?_
        refine lv_iload_n (pc := 10) hx hb dX6_against_10 rfl (lv_at hl 0 rfl) ?_
        refine x_lald (v := lN (dg 4294967296 a i)) (pc := 11) hx hb hK hP 1 1 rfl rfl (by omega) (by decide) (hf i (by omega)) dX6_against_11 ?_
        refine lv_aload_n (pc := 12) hx hb dX6_against_12 rfl (lv_at hl 2 rfl) ?_
        refine va_get (D := D) (ci := 6) (v := .ref oa) (C := RX6) (T := TX6) (N := 1) (pc := 13) hx hb hts in_X6 hown hK hP 2 rfl rfl 0 (by decide) (hts _ kw_82) (fun _ h9 => h9) rfl dX6_against_13 ?_
        refine lv_iload_n (pc := 16) hx hb dX6_against_16 rfl (lv_at hl 0 rfl) ?_
        refine x_lald (v := lN (dg 4294967296 b i)) (pc := 17) hx hb hK hP 3 1 rfl rfl (by omega) (by decide) (hg i (by omega)) dX6_against_17 ?_
        refine W.lcmp (pc := 18) hx hb dX6_against_18 ?_
        refine x_i (y := ord3 (dg 4294967296 a i) (dg 4294967296 b i)) (lc3 (by omega) (by omega)) ?_
        refine x_o_eq (tgt := 44) (pc := 19) hx hb dX6_against_19 (by decide) (fun h1 => ?_) (fun h1 => ?_)
        · refine lv_iinc (k := 0) (v := dn i) (pc := 44) (lv' := [(2, .int (dn i)), (0, .ref w), (1, .ref o)]) hx hb dX6_against_44 hl rfl (x_dn i) (by decide) rfl (fun ls hl => ?_)
          refine lv_goto (tgt := 2) (pc := 47) hx hb dX6_against_47 (by decide) ?_
          exact ih2 i H locs ls (by omega) (by omega) (by omega) hP hD hS hl
        · refine lv_aload_n (pc := 22) hx hb dX6_against_22 rfl (lv_at hl 1 rfl) ?_
          refine va_get (D := D) (ci := 6) (v := .ref wa) (C := RX6) (T := TX6) (N := 1) (pc := 23) hx hb hts in_X6 hown hK hP 0 rfl rfl 0 (by decide) (hts _ kw_82) (fun _ h9 => h9) rfl dX6_against_23 ?_
          refine lv_iload_n (pc := 26) hx hb dX6_against_26 rfl (lv_at hl 0 rfl) ?_
          refine x_lald (v := lN (dg 4294967296 a i)) (pc := 27) hx hb hK hP 1 1 rfl rfl (by omega) (by decide) (hf i (by omega)) dX6_against_27 ?_
          refine lv_aload_n (pc := 28) hx hb dX6_against_28 rfl (lv_at hl 2 rfl) ?_
          refine va_get (D := D) (ci := 6) (v := .ref oa) (C := RX6) (T := TX6) (N := 1) (pc := 29) hx hb hts in_X6 hown hK hP 2 rfl rfl 0 (by decide) (hts _ kw_82) (fun _ h9 => h9) rfl dX6_against_29 ?_
          refine lv_iload_n (pc := 32) hx hb dX6_against_32 rfl (lv_at hl 0 rfl) ?_
          refine x_lald (v := lN (dg 4294967296 b i)) (pc := 33) hx hb hK hP 3 1 rfl rfl (by omega) (by decide) (hg i (by omega)) dX6_against_33 ?_
          refine W.lcmp (pc := 34) hx hb dX6_against_34 ?_
          refine x_i (y := ord3 (dg 4294967296 a i) (dg 4294967296 b i)) (lc3 (by omega) (by omega)) ?_
          refine x_o_ge (tgt := 42) (pc := 35) hx hb dX6_against_35 (by decide) (fun h2 => ?_) (fun h2 => ?_)
          · refine lv_iconst (v := nI 1) (pc := 42) hx hb dX6_against_42 kI_1 ?_
            exact x_reti (pc := 43) hx hb hr hlk () (by first | exact ord3_lt (lt_of_dv (P := 4294967296 ^ i) (by omega)) | exact ord3_gt (lt_of_dv (P := 4294967296 ^ i) (by omega))) hP hK hD hS dX6_against_43
          · refine lv_iconst (v := -1) (pc := 38) hx hb dX6_against_38 kI_m1 ?_
            refine lv_goto (tgt := 43) (pc := 39) hx hb dX6_against_39 (by decide) ?_
            exact x_reti (pc := 43) hx hb hr hlk () (by first | exact ord3_lt (lt_of_dv (P := 4294967296 ^ i) (by omega)) | exact ord3_gt (lt_of_dv (P := 4294967296 ^ i) (by omega))) hP hK hD hS dX6_against_43
  refine lv_iconst (v := nI 5) (pc := 0) hx hb dX6_against_0 kI_5 ?_
  refine lv_istore_n (pc := 1) (lv' := [(2, .int (nI 5)), (0, .ref w), (1, .ref o)]) hx hb dX6_against_1 rfl hl (by decide) rfl (fun ls hl => ?_)
  have hl : lv_has ls 3 [(2, .int (dn 6)), (0, .ref w), (1, .ref o)] := hl
  exact L2 _ 6 _ _ ls (Nat.lt_succ_self _) (by omega) (by rw [dv_top ha, dv_top hb9]) hP hD hS hl
abbrev rm_w_add : Room := { frames := 0, cells := 0, slots := 0, locals := 0 }
set_option maxHeartbeats 4000000 in
set_option maxRecDepth 100000 in
theorem w_add (l : Launch) (D : va_G) (cI cL cC cB cZ cR : ClassId) (sz : Nat) (w wa o oa a b : Nat) (f g : Nat → Int64) (hf : wR f a) (hg : wR g b) : Met l yX6_add wsX6_add rm_w_add (xPc D vwCl (tyAll cI cL cC cB cZ cR) [.ref w, .ref o] [(w, .inr (6, [.ref wa])), (wa, .inl (cL, 6, .inr (.inl f))), (o, .inr (6, [.ref oa])), (oa, .inl (cL, 6, .inr (.inl g)))] sz) (va_Qv (fun u : Nat → Int64 => wR u (a + b)) (xB D vwCl (tyAll cI cL cC cB cZ cR) (va_A [(w, .inr (6, [.ref wa])), (wa, .inl (cL, 6, .inr (.inl f))), (o, .inr (6, [.ref oa])), (oa, .inl (cL, 6, .inr (.inl g)))] sz) (fun u : (Nat → Int64) => [(w, .inr (6, [.ref wa])), (wa, .inl (cL, 6, .inr (.inl u))), (o, .inr (6, [.ref oa])), (oa, .inl (cL, 6, .inr (.inl g)))])) (va_A [(w, .inr (6, [.ref wa])), (wa, .inl (cL, 6, .inr (.inl f))), (o, .inr (6, [.ref oa])), (oa, .inl (cL, 6, .inr (.inl g)))] sz)) 0 0 (va_A [(w, .inr (6, [.ref wa])), (wa, .inl (cL, 6, .inr (.inl f))), (o, .inr (6, [.ref oa])), (oa, .inl (cL, 6, .inr (.inl g)))] sz) := by
  refine x_of (Qc := fun A => va_Qv (fun u : Nat → Int64 => wR u (a + b)) (xB D vwCl (tyAll cI cL cC cB cZ cR) A (fun u : (Nat → Int64) => [(w, .inr (6, [.ref wa])), (wa, .inl (cL, 6, .inr (.inl u))), (o, .inr (6, [.ref oa])), (oa, .inl (cL, 6, .inr (.inl g)))])) A) (by decide) rfl (Nat.le_of_ble_eq_true rfl) ?_
  intro p e s m args below meth c A H locs ls hx hb hr hts0 hown hlk hml hnm hP hK hD hN hA hS hl
  have hts : ∀ w ∈ wsA, w.before args s = true := fun w h => hts0 w (List.mem_cons_of_mem _ h)
  have hown : s.vm.findClass "WideDecimalDesk$Whole" = some m.cls := hown
  have hl : lv_has ls 7 [(0, .ref w), (1, .ref o)] := hl
  have L5 : ∀ (kk : Nat) (i : Nat) (k : Nat) (f : (Nat → Int64)) (H : Heap) (locs : List Loc) (ls : Array Slot) (hk5 : 6 - i < kk) (hi : i ≤ 6) (hk : k = cy 4294967296 a b i) (hf : rL 6 f (mx (dg 4294967296 (a + b)) (dg 4294967296 a) i)) (hP : va_P D vwCl [(w, .inr (6, [.ref wa])), (wa, .inl (cL, 6, .inr (.inl f))), (o, .inr (6, [.ref oa])), (oa, .inl (cL, 6, .inr (.inl g)))] H) (hD : va_D A [(w, .inr (6, [.ref wa])), (wa, .inl (cL, 6, .inr (.inl f))), (o, .inr (6, [.ref oa])), (oa, .inl (cL, 6, .inr (.inl g)))]) (hS : va_S A s.heap H locs) (hl : lv_has ls 7 [(4, .int (nI i)), (2, .long (lN k)), (0, .ref w), (1, .ref o)]), W p l e rm_w_add s m args below meth c H locs 0 0 (MQ below (va_Qv (fun u : Nat → Int64 => wR u (a + b)) (xB D vwCl (tyAll cI cL cC cB cZ cR) A (fun u : (Nat → Int64) => [(w, .inr (6, [.ref wa])), (wa, .inl (cL, 6, .inr (.inl u))), (o, .inr (6, [.ref oa])), (oa, .inl (cL, 6, .inr (.inl g)))])) A) args s 0 0 A) (F0 m 5 ls []) := by
    intro kk
    induction kk with
    | zero => intro i k f H locs ls hk; exact absurd hk (Nat.not_lt_zero _)
    | succ kk ih5 =>
      intro i k f H locs ls hk5 hi hk hf hP hD hS hl
      have ha1 := dgW a i
      have hb1 := dgW b i
      have hk1 := cy_le (B := 4294967296) (by decide) a b i
      rw [← hk] at hk1
      refine lv_iload (pc := 5) hx hb dX6_add_5 (lv_at hl 0 rfl) ?_
      refine lv_bipush (v := nI 6) (pc := 7) hx hb dX6_add_7 (by decide +kernel) ?_
      refine x_icmp_ge (tgt := 56) (pc := 9) hx hb (by omega) (by omega) dX6_add_9 (by decide) (fun hc => ?_) (fun hc => ?_)
      · exact x_retv (pc := 56) hx hb hr hlk f (by have h : i = 6 := (by omega); subst h; exact rL_all hf) hP hK hD hS dX6_add_56
      · refine lv_aload_n (pc := 12) hx hb dX6_add_12 rfl (lv_at hl 2 rfl) ?_
        refine va_get (D := D) (ci := 6) (v := .ref wa) (C := RX6) (T := TX6) (N := 1) (pc := 13) hx hb hts in_X6 hown hK hP 0 rfl rfl 0 (by decide) (hts _ kw_82) (fun _ h9 => h9) rfl dX6_add_13 ?_
        refine lv_iload (pc := 16) hx hb dX6_add_16 (lv_at hl 0 rfl) ?_
        refine x_lald (v := lN (dg 4294967296 a i)) (pc := 18) hx hb hK hP 1 1 rfl rfl (by omega) (by decide) (rL_ge hf (by omega) (Nat.le_refl _)) dX6_add_18 ?_
        refine lv_aload_n (pc := 19) hx hb dX6_add_19 rfl (lv_at hl 3 rfl) ?_
        refine va_get (D := D) (ci := 6) (v := .ref oa) (C := RX6) (T := TX6) (N := 1) (pc := 20) hx hb hts in_X6 hown hK hP 2 rfl rfl 0 (by decide) (hts _ kw_82) (fun _ h9 => h9) rfl dX6_add_20 ?_
        refine lv_iload (pc := 23) hx hb dX6_add_23 (lv_at hl 0 rfl) ?_
        refine x_lald (v := lN (dg 4294967296 b i)) (pc := 25) hx hb hK hP 3 1 rfl rfl (by omega) (by decide) (hg i (by omega)) dX6_add_25 ?_
        refine lv_ladd (pc := 26) hx hb dX6_add_26 ?_
        refine x_l (y := lN (dg 4294967296 a i + dg 4294967296 b i)) (lN_add _ _) ?_
        refine lv_lload_n (pc := 27) hx hb dX6_add_27 rfl (lv_at hl 1 rfl) ?_
        refine lv_ladd (pc := 28) hx hb dX6_add_28 ?_
        refine x_l (y := lN (dg 4294967296 a i + dg 4294967296 b i + k)) (lN_add _ _) ?_
        refine lv_lstore (pc := 29) (lv' := [(5, .long (lN (dg 4294967296 a i + dg 4294967296 b i + k))), (4, .int (nI i)), (2, .long (lN k)), (0, .ref w), (1, .ref o)]) hx hb dX6_add_29 hl (by decide) rfl (fun ls hl => ?_)
        refine lv_aload_n (pc := 31) hx hb dX6_add_31 rfl (lv_at hl 3 rfl) ?_
        refine va_get (D := D) (ci := 6) (v := .ref wa) (C := RX6) (T := TX6) (N := 1) (pc := 32) hx hb hts in_X6 hown hK hP 0 rfl rfl 0 (by decide) (hts _ kw_82) (fun _ h9 => h9) rfl dX6_add_32 ?_
        refine lv_iload (pc := 35) hx hb dX6_add_35 (lv_at hl 1 rfl) ?_
        refine lv_lload (pc := 37) hx hb dX6_add_37 (lv_at hl 0 rfl) ?_
        refine lv_ldc2 (v := (4294967295 : Int64)) (pc := 39) hx hb hown (hts _ kw_256) dX6_add_39 ?_
        refine x_l (y := lN 4294967295) rfl ?_
        refine lv_land (pc := 42) hx hb dX6_add_42 ?_
        refine x_l (y := lN ((dg 4294967296 a i + dg 4294967296 b i + k) % 4294967296)) (wM (by omega)) ?_
        refine x_last (pc := 43) hx hb hK hP hD hS 1 1 rfl rfl (by omega) (by decide) dX6_add_43 (fun H locs hP hD hS => ?_)
        have hP : va_P D vwCl [(w, .inr (6, [.ref wa])), (wa, .inl (cL, 6, .inr (.inl (vp_updL f i (lN ((dg 4294967296 a i + dg 4294967296 b i + k) % 4294967296)))))), (o, .inr (6, [.ref oa])), (oa, .inl (cL, 6, .inr (.inl g)))] H := hP
        have hD : va_D A [(w, .inr (6, [.ref wa])), (wa, .inl (cL, 6, .inr (.inl (vp_updL f i (lN ((dg 4294967296 a i + dg 4294967296 b i + k) % 4294967296)))))), (o, .inr (6, [.ref oa])), (oa, .inl (cL, 6, .inr (.inl g)))] := hD
        refine lv_lload (pc := 44) hx hb dX6_add_44 (lv_at hl 0 rfl) ?_
        refine lv_bipush (v := nI 32) (pc := 46) hx hb dX6_add_46 (by decide +kernel) ?_
        refine lv_lushr (v := lN ((dg 4294967296 a i + dg 4294967296 b i + k) / 4294967296)) (pc := 48) hx hb dX6_add_48 (wS (by omega)) ?_
        refine lv_lstore_n (pc := 49) (lv' := [(2, .long (lN ((dg 4294967296 a i + dg 4294967296 b i + k) / 4294967296))), (5, .long (lN (dg 4294967296 a i + dg 4294967296 b i + k))), (4, .int (nI i)), (0, .ref w), (1, .ref o)]) hx hb dX6_add_49 rfl hl (by decide) rfl (fun ls hl => ?_)
        refine lv_iinc (k := 2) (v := nI (i + 1)) (pc := 50) (lv' := [(4, .int (nI (i + 1))), (2, .long (lN ((dg 4294967296 a i + dg 4294967296 b i + k) / 4294967296))), (5, .long (lN (dg 4294967296 a i + dg 4294967296 b i + k))), (0, .ref w), (1, .ref o)]) hx hb dX6_add_50 hl rfl (x_inc i) (by decide) rfl (fun ls hl => ?_)
        refine lv_goto (tgt := 5) (pc := 53) hx hb dX6_add_53 (by decide) ?_
        have hl := lv_sub (l' := [(4, .int (nI (i + 1))), (2, .long (lN ((dg 4294967296 a i + dg 4294967296 b i + k) / 4294967296))), (0, .ref w), (1, .ref o)]) hl [0, 1, 3, 4] rfl
        exact ih5 (i + 1) ((dg 4294967296 a i + dg 4294967296 b i + k) / 4294967296) (vp_updL f i (lN ((dg 4294967296 a i + dg 4294967296 b i + k) % 4294967296))) H locs ls (by omega) (by omega) (by rw [cy_succ (by decide), ← hk]) (rL_up hf (by rw [dg_add (by decide), ← hk])) hP hD hS hl
  refine lv_lconst (v := lN 0) (pc := 0) hx hb dX6_add_0 rfl ?_
  refine lv_lstore_n (pc := 1) (lv' := [(2, .long (lN 0)), (0, .ref w), (1, .ref o)]) hx hb dX6_add_1 rfl hl (by decide) rfl (fun ls hl => ?_)
  refine lv_iconst (v := nI 0) (pc := 2) hx hb dX6_add_2 kI_0 ?_
  refine lv_istore (pc := 3) (lv' := [(4, .int (nI 0)), (2, .long (lN 0)), (0, .ref w), (1, .ref o)]) hx hb dX6_add_3 hl (by decide) rfl (fun ls hl => ?_)
  exact L5 _ 0 0 f _ _ ls (Nat.lt_succ_self _) (by omega) (cy_0 _ _ _).symm (rL_0 hf) hP hD hS hl
abbrev rm_w_add2 : Room := { frames := 0, cells := 0, slots := 0, locals := 0 }
set_option maxHeartbeats 4000000 in
set_option maxRecDepth 100000 in
theorem w_add2 (l : Launch) (D : va_G) (cI cL cC cB cZ cR : ClassId) (sz : Nat) (w wa a : Nat) (f : Nat → Int64) (hf : wR f a) : Met l yX6_add wsX6_add rm_w_add2 (xPc D vwCl (tyAll cI cL cC cB cZ cR) [.ref w, .ref w] [(w, .inr (6, [.ref wa])), (wa, .inl (cL, 6, .inr (.inl f)))] sz) (va_Qv (fun u : Nat → Int64 => wR u (a + a)) (xB D vwCl (tyAll cI cL cC cB cZ cR) (va_A [(w, .inr (6, [.ref wa])), (wa, .inl (cL, 6, .inr (.inl f)))] sz) (fun u : (Nat → Int64) => [(w, .inr (6, [.ref wa])), (wa, .inl (cL, 6, .inr (.inl u)))])) (va_A [(w, .inr (6, [.ref wa])), (wa, .inl (cL, 6, .inr (.inl f)))] sz)) 0 0 (va_A [(w, .inr (6, [.ref wa])), (wa, .inl (cL, 6, .inr (.inl f)))] sz) := by
  refine x_of (Qc := fun A => va_Qv (fun u : Nat → Int64 => wR u (a + a)) (xB D vwCl (tyAll cI cL cC cB cZ cR) A (fun u : (Nat → Int64) => [(w, .inr (6, [.ref wa])), (wa, .inl (cL, 6, .inr (.inl u)))])) A) (by decide) rfl (Nat.le_of_ble_eq_true rfl) ?_
  intro p e s m args below meth c A H locs ls hx hb hr hts0 hown hlk hml hnm hP hK hD hN hA hS hl
  have hts : ∀ w ∈ wsA, w.before args s = true := fun w h => hts0 w (List.mem_cons_of_mem _ h)
  have hown : s.vm.findClass "WideDecimalDesk$Whole" = some m.cls := hown
  have hl : lv_has ls 7 [(0, .ref w), (1, .ref w)] := hl
  have L5 : ∀ (kk : Nat) (i : Nat) (k : Nat) (f : (Nat → Int64)) (H : Heap) (locs : List Loc) (ls : Array Slot) (hk5 : 6 - i < kk) (hi : i ≤ 6) (hk : k = cy 4294967296 a a i) (hf : rL 6 f (mx (dg 4294967296 (a + a)) (dg 4294967296 a) i)) (hP : va_P D vwCl [(w, .inr (6, [.ref wa])), (wa, .inl (cL, 6, .inr (.inl f)))] H) (hD : va_D A [(w, .inr (6, [.ref wa])), (wa, .inl (cL, 6, .inr (.inl f)))]) (hS : va_S A s.heap H locs) (hl : lv_has ls 7 [(4, .int (nI i)), (2, .long (lN k)), (0, .ref w), (1, .ref w)]), W p l e rm_w_add2 s m args below meth c H locs 0 0 (MQ below (va_Qv (fun u : Nat → Int64 => wR u (a + a)) (xB D vwCl (tyAll cI cL cC cB cZ cR) A (fun u : (Nat → Int64) => [(w, .inr (6, [.ref wa])), (wa, .inl (cL, 6, .inr (.inl u)))])) A) args s 0 0 A) (F0 m 5 ls []) := by
    intro kk
    induction kk with
    | zero => intro i k f H locs ls hk; exact absurd hk (Nat.not_lt_zero _)
    | succ kk ih5 =>
      intro i k f H locs ls hk5 hi hk hf hP hD hS hl
      have ha1 := dgW a i
      have hb1 := dgW a i
      have hk1 := cy_le (B := 4294967296) (by decide) a a i
      rw [← hk] at hk1
      refine lv_iload (pc := 5) hx hb dX6_add_5 (lv_at hl 0 rfl) ?_
      refine lv_bipush (v := nI 6) (pc := 7) hx hb dX6_add_7 (by decide +kernel) ?_
      refine x_icmp_ge (tgt := 56) (pc := 9) hx hb (by omega) (by omega) dX6_add_9 (by decide) (fun hc => ?_) (fun hc => ?_)
      · exact x_retv (pc := 56) hx hb hr hlk f (by have h : i = 6 := (by omega); subst h; exact rL_all hf) hP hK hD hS dX6_add_56
      · refine lv_aload_n (pc := 12) hx hb dX6_add_12 rfl (lv_at hl 2 rfl) ?_
        refine va_get (D := D) (ci := 6) (v := .ref wa) (C := RX6) (T := TX6) (N := 1) (pc := 13) hx hb hts in_X6 hown hK hP 0 rfl rfl 0 (by decide) (hts _ kw_82) (fun _ h9 => h9) rfl dX6_add_13 ?_
        refine lv_iload (pc := 16) hx hb dX6_add_16 (lv_at hl 0 rfl) ?_
        refine x_lald (v := lN (dg 4294967296 a i)) (pc := 18) hx hb hK hP 1 1 rfl rfl (by omega) (by decide) (rL_ge hf (by omega) (Nat.le_refl _)) dX6_add_18 ?_
        refine lv_aload_n (pc := 19) hx hb dX6_add_19 rfl (lv_at hl 3 rfl) ?_
        refine va_get (D := D) (ci := 6) (v := .ref wa) (C := RX6) (T := TX6) (N := 1) (pc := 20) hx hb hts in_X6 hown hK hP 0 rfl rfl 0 (by decide) (hts _ kw_82) (fun _ h9 => h9) rfl dX6_add_20 ?_
        refine lv_iload (pc := 23) hx hb dX6_add_23 (lv_at hl 0 rfl) ?_
        refine x_lald (v := lN (dg 4294967296 a i)) (pc := 25) hx hb hK hP 1 1 rfl rfl (by omega) (by decide) (rL_ge hf (by omega) (Nat.le_refl _)) dX6_add_25 ?_
        refine lv_ladd (pc := 26) hx hb dX6_add_26 ?_
        refine x_l (y := lN (dg 4294967296 a i + dg 4294967296 a i)) (lN_add _ _) ?_
        refine lv_lload_n (pc := 27) hx hb dX6_add_27 rfl (lv_at hl 1 rfl) ?_
        refine lv_ladd (pc := 28) hx hb dX6_add_28 ?_
        refine x_l (y := lN (dg 4294967296 a i + dg 4294967296 a i + k)) (lN_add _ _) ?_
        refine lv_lstore (pc := 29) (lv' := [(5, .long (lN (dg 4294967296 a i + dg 4294967296 a i + k))), (4, .int (nI i)), (2, .long (lN k)), (0, .ref w), (1, .ref w)]) hx hb dX6_add_29 hl (by decide) rfl (fun ls hl => ?_)
        refine lv_aload_n (pc := 31) hx hb dX6_add_31 rfl (lv_at hl 3 rfl) ?_
        refine va_get (D := D) (ci := 6) (v := .ref wa) (C := RX6) (T := TX6) (N := 1) (pc := 32) hx hb hts in_X6 hown hK hP 0 rfl rfl 0 (by decide) (hts _ kw_82) (fun _ h9 => h9) rfl dX6_add_32 ?_
        refine lv_iload (pc := 35) hx hb dX6_add_35 (lv_at hl 1 rfl) ?_
        refine lv_lload (pc := 37) hx hb dX6_add_37 (lv_at hl 0 rfl) ?_
        refine lv_ldc2 (v := (4294967295 : Int64)) (pc := 39) hx hb hown (hts _ kw_256) dX6_add_39 ?_
        refine x_l (y := lN 4294967295) rfl ?_
        refine lv_land (pc := 42) hx hb dX6_add_42 ?_
        refine x_l (y := lN ((dg 4294967296 a i + dg 4294967296 a i + k) % 4294967296)) (wM (by omega)) ?_
        refine x_last (pc := 43) hx hb hK hP hD hS 1 1 rfl rfl (by omega) (by decide) dX6_add_43 (fun H locs hP hD hS => ?_)
        have hP : va_P D vwCl [(w, .inr (6, [.ref wa])), (wa, .inl (cL, 6, .inr (.inl (vp_updL f i (lN ((dg 4294967296 a i + dg 4294967296 a i + k) % 4294967296))))))] H := hP
        have hD : va_D A [(w, .inr (6, [.ref wa])), (wa, .inl (cL, 6, .inr (.inl (vp_updL f i (lN ((dg 4294967296 a i + dg 4294967296 a i + k) % 4294967296))))))] := hD
        refine lv_lload (pc := 44) hx hb dX6_add_44 (lv_at hl 0 rfl) ?_
        refine lv_bipush (v := nI 32) (pc := 46) hx hb dX6_add_46 (by decide +kernel) ?_
        refine lv_lushr (v := lN ((dg 4294967296 a i + dg 4294967296 a i + k) / 4294967296)) (pc := 48) hx hb dX6_add_48 (wS (by omega)) ?_
        refine lv_lstore_n (pc := 49) (lv' := [(2, .long (lN ((dg 4294967296 a i + dg 4294967296 a i + k) / 4294967296))), (5, .long (lN (dg 4294967296 a i + dg 4294967296 a i + k))), (4, .int (nI i)), (0, .ref w), (1, .ref w)]) hx hb dX6_add_49 rfl hl (by decide) rfl (fun ls hl => ?_)
        refine lv_iinc (k := 2) (v := nI (i + 1)) (pc := 50) (lv' := [(4, .int (nI (i + 1))), (2, .long (lN ((dg 4294967296 a i + dg 4294967296 a i + k) / 4294967296))), (5, .long (lN (dg 4294967296 a i + dg 4294967296 a i + k))), (0, .ref w), (1, .ref w)]) hx hb dX6_add_50 hl rfl (x_inc i) (by decide) rfl (fun ls hl => ?_)
        refine lv_goto (tgt := 5) (pc := 53) hx hb dX6_add_53 (by decide) ?_
        have hl := lv_sub (l' := [(4, .int (nI (i + 1))), (2, .long (lN ((dg 4294967296 a i + dg 4294967296 a i + k) / 4294967296))), (0, .ref w), (1, .ref w)]) hl [0, 1, 3, 4] rfl
        exact ih5 (i + 1) ((dg 4294967296 a i + dg 4294967296 a i + k) / 4294967296) (vp_updL f i (lN ((dg 4294967296 a i + dg 4294967296 a i + k) % 4294967296))) H locs ls (by omega) (by omega) (by rw [cy_succ (by decide), ← hk]) (rL_up hf (by rw [dg_add (by decide), ← hk])) hP hD hS hl
  refine lv_lconst (v := lN 0) (pc := 0) hx hb dX6_add_0 rfl ?_
  refine lv_lstore_n (pc := 1) (lv' := [(2, .long (lN 0)), (0, .ref w), (1, .ref w)]) hx hb dX6_add_1 rfl hl (by decide) rfl (fun ls hl => ?_)
  refine lv_iconst (v := nI 0) (pc := 2) hx hb dX6_add_2 kI_0 ?_
  refine lv_istore (pc := 3) (lv' := [(4, .int (nI 0)), (2, .long (lN 0)), (0, .ref w), (1, .ref w)]) hx hb dX6_add_3 hl (by decide) rfl (fun ls hl => ?_)
  exact L5 _ 0 0 f _ _ ls (Nat.lt_succ_self _) (by omega) (cy_0 _ _ _).symm (rL_0 hf) hP hD hS hl
abbrev rm_w_one : Room := { frames := 0, cells := 0, slots := 0, locals := 0 }
set_option maxHeartbeats 4000000 in
set_option maxRecDepth 100000 in
theorem w_one (l : Launch) (D : va_G) (cI cL cC cB cZ cR : ClassId) (sz : Nat) (w wa a : Nat) (f : Nat → Int64) (hf : wR f a) : Met l yX6_addOne wsX6_addOne rm_w_one (xPc D vwCl (tyAll cI cL cC cB cZ cR) [.ref w] [(w, .inr (6, [.ref wa])), (wa, .inl (cL, 6, .inr (.inl f)))] sz) (va_Qv (fun u : Nat → Int64 => wR u (1 * a + 1)) (xB D vwCl (tyAll cI cL cC cB cZ cR) (va_A [(w, .inr (6, [.ref wa])), (wa, .inl (cL, 6, .inr (.inl f)))] sz) (fun u : (Nat → Int64) => [(w, .inr (6, [.ref wa])), (wa, .inl (cL, 6, .inr (.inl u)))])) (va_A [(w, .inr (6, [.ref wa])), (wa, .inl (cL, 6, .inr (.inl f)))] sz)) 0 0 (va_A [(w, .inr (6, [.ref wa])), (wa, .inl (cL, 6, .inr (.inl f)))] sz) := by
  refine x_of (Qc := fun A => va_Qv (fun u : Nat → Int64 => wR u (1 * a + 1)) (xB D vwCl (tyAll cI cL cC cB cZ cR) A (fun u : (Nat → Int64) => [(w, .inr (6, [.ref wa])), (wa, .inl (cL, 6, .inr (.inl u)))])) A) (by decide) rfl (Nat.le_of_ble_eq_true rfl) ?_
  intro p e s m args below meth c A H locs ls hx hb hr hts0 hown hlk hml hnm hP hK hD hN hA hS hl
  have hts : ∀ w ∈ wsA, w.before args s = true := fun w h => hts0 w (List.mem_cons_of_mem _ h)
  have hown : s.vm.findClass "WideDecimalDesk$Whole" = some m.cls := hown
  have hl : lv_has ls 6 [(0, .ref w)] := hl
  have L4 : ∀ (kk : Nat) (i : Nat) (k : Nat) (f : (Nat → Int64)) (H : Heap) (locs : List Loc) (ls : Array Slot) (hk4 : 6 - i < kk) (hi : i ≤ 6) (hk : k = ap 4294967296 1 1 a i) (hk1 : k ≤ 1) (hf : rL 6 f (mx (dg 4294967296 (1 * a + 1)) (dg 4294967296 a) i)) (hP : va_P D vwCl [(w, .inr (6, [.ref wa])), (wa, .inl (cL, 6, .inr (.inl f)))] H) (hD : va_D A [(w, .inr (6, [.ref wa])), (wa, .inl (cL, 6, .inr (.inl f)))]) (hS : va_S A s.heap H locs) (hl : lv_has ls 6 [(3, .int (nI i)), (1, .long (lN k)), (0, .ref w)]), W p l e rm_w_one s m args below meth c H locs 0 0 (MQ below (va_Qv (fun u : Nat → Int64 => wR u (1 * a + 1)) (xB D vwCl (tyAll cI cL cC cB cZ cR) A (fun u : (Nat → Int64) => [(w, .inr (6, [.ref wa])), (wa, .inl (cL, 6, .inr (.inl u)))])) A) args s 0 0 A) (F0 m 4 ls []) := by
    intro kk
    induction kk with
    | zero => intro i k f H locs ls hk; exact absurd hk (Nat.not_lt_zero _)
    | succ kk ih4 =>
      intro i k f H locs ls hk4 hi hk hk1 hf hP hD hS hl
      have ha1 := dgW a i
      refine lv_iload_n (pc := 4) hx hb dX6_addOne_4 rfl (lv_at hl 0 rfl) ?_
      refine lv_bipush (v := nI 6) (pc := 5) hx hb dX6_addOne_5 (by decide +kernel) ?_
      refine x_icmp_ge (tgt := 44) (pc := 7) hx hb (by omega) (by omega) dX6_addOne_7 (by decide) (fun hc => ?_) (fun hc => ?_)
      · exact x_retv (pc := 44) hx hb hr hlk f (by have h : i = 6 := (by omega); subst h; exact rL_all hf) hP hK hD hS dX6_addOne_44
      · refine lv_aload_n (pc := 10) hx hb dX6_addOne_10 rfl (lv_at hl 2 rfl) ?_
        refine va_get (D := D) (ci := 6) (v := .ref wa) (C := RX6) (T := TX6) (N := 1) (pc := 11) hx hb hts in_X6 hown hK hP 0 rfl rfl 0 (by decide) (hts _ kw_82) (fun _ h9 => h9) rfl dX6_addOne_11 ?_
        refine lv_iload_n (pc := 14) hx hb dX6_addOne_14 rfl (lv_at hl 0 rfl) ?_
        refine x_lald (v := lN (dg 4294967296 a i)) (pc := 15) hx hb hK hP 1 1 rfl rfl (by omega) (by decide) (rL_ge hf (by omega) (Nat.le_refl _)) dX6_addOne_15 ?_
        refine lv_lload_n (pc := 16) hx hb dX6_addOne_16 rfl (lv_at hl 1 rfl) ?_
        refine lv_ladd (pc := 17) hx hb dX6_addOne_17 ?_
        refine x_l (y := lN (dg 4294967296 a i + k)) (lN_add _ _) ?_
        refine lv_lstore (pc := 18) (lv' := [(4, .long (lN (dg 4294967296 a i + k))), (3, .int (nI i)), (1, .long (lN k)), (0, .ref w)]) hx hb dX6_addOne_18 hl (by decide) rfl (fun ls hl => ?_)
        refine lv_aload_n (pc := 20) hx hb dX6_addOne_20 rfl (lv_at hl 3 rfl) ?_
        refine va_get (D := D) (ci := 6) (v := .ref wa) (C := RX6) (T := TX6) (N := 1) (pc := 21) hx hb hts in_X6 hown hK hP 0 rfl rfl 0 (by decide) (hts _ kw_82) (fun _ h9 => h9) rfl dX6_addOne_21 ?_
        refine lv_iload_n (pc := 24) hx hb dX6_addOne_24 rfl (lv_at hl 1 rfl) ?_
        refine lv_lload (pc := 25) hx hb dX6_addOne_25 (lv_at hl 0 rfl) ?_
        refine lv_ldc2 (v := (4294967295 : Int64)) (pc := 27) hx hb hown (hts _ kw_256) dX6_addOne_27 ?_
        refine x_l (y := lN 4294967295) rfl ?_
        refine lv_land (pc := 30) hx hb dX6_addOne_30 ?_
        refine x_l (y := lN ((dg 4294967296 a i + k) % 4294967296)) (wM (by omega)) ?_
        refine x_last (pc := 31) hx hb hK hP hD hS 1 1 rfl rfl (by omega) (by decide) dX6_addOne_31 (fun H locs hP hD hS => ?_)
        have hP : va_P D vwCl [(w, .inr (6, [.ref wa])), (wa, .inl (cL, 6, .inr (.inl (vp_updL f i (lN ((dg 4294967296 a i + k) % 4294967296))))))] H := hP
        have hD : va_D A [(w, .inr (6, [.ref wa])), (wa, .inl (cL, 6, .inr (.inl (vp_updL f i (lN ((dg 4294967296 a i + k) % 4294967296))))))] := hD
        refine lv_lload (pc := 32) hx hb dX6_addOne_32 (lv_at hl 0 rfl) ?_
        refine lv_bipush (v := nI 32) (pc := 34) hx hb dX6_addOne_34 (by decide +kernel) ?_
        refine lv_lushr (v := lN ((dg 4294967296 a i + k) / 4294967296)) (pc := 36) hx hb dX6_addOne_36 (wS (by omega)) ?_
        refine lv_lstore_n (pc := 37) (lv' := [(1, .long (lN ((dg 4294967296 a i + k) / 4294967296))), (4, .long (lN (dg 4294967296 a i + k))), (3, .int (nI i)), (0, .ref w)]) hx hb dX6_addOne_37 rfl hl (by decide) rfl (fun ls hl => ?_)
        refine lv_iinc (k := 2) (v := nI (i + 1)) (pc := 38) (lv' := [(3, .int (nI (i + 1))), (1, .long (lN ((dg 4294967296 a i + k) / 4294967296))), (4, .long (lN (dg 4294967296 a i + k))), (0, .ref w)]) hx hb dX6_addOne_38 hl rfl (x_inc i) (by decide) rfl (fun ls hl => ?_)
        refine lv_goto (tgt := 4) (pc := 41) hx hb dX6_addOne_41 (by decide) ?_
        have hl := lv_sub (l' := [(3, .int (nI (i + 1))), (1, .long (lN ((dg 4294967296 a i + k) / 4294967296))), (0, .ref w)]) hl [0, 1, 3] rfl
        exact ih4 (i + 1) ((dg 4294967296 a i + k) / 4294967296) (vp_updL f i (lN ((dg 4294967296 a i + k) % 4294967296))) H locs ls (by omega) (by omega) (by rw [ap_succ (by decide), ← hk, Nat.one_mul]) (by omega) (rL_up hf (by rw [ap_dg (by decide), ← hk, Nat.one_mul])) hP hD hS hl
  refine lv_lconst (v := lN 1) (pc := 0) hx hb dX6_addOne_0 rfl ?_
  refine lv_lstore_n (pc := 1) (lv' := [(1, .long (lN 1)), (0, .ref w)]) hx hb dX6_addOne_1 rfl hl (by decide) rfl (fun ls hl => ?_)
  refine lv_iconst (v := nI 0) (pc := 2) hx hb dX6_addOne_2 kI_0 ?_
  refine lv_istore_n (pc := 3) (lv' := [(3, .int (nI 0)), (1, .long (lN 1)), (0, .ref w)]) hx hb dX6_addOne_3 rfl hl (by decide) rfl (fun ls hl => ?_)
  exact L4 _ 0 1 f _ _ ls (Nat.lt_succ_self _) (by omega) (ap_0 _ _ _ _).symm (by omega) (rL_0 hf) hP hD hS hl
abbrev rm_w_append : Room := { frames := 0, cells := 0, slots := 0, locals := 0 }
set_option maxHeartbeats 4000000 in
set_option maxRecDepth 100000 in
theorem w_append (l : Launch) (D : va_G) (cI cL cC cB cZ cR : ClassId) (sz : Nat) (w wa a d : Nat) (f : Nat → Int64) (hf : wR f a) (hd9 : d < 10) : Met l yX6_appendDigit wsX6_appendDigit rm_w_append (xPc D vwCl (tyAll cI cL cC cB cZ cR) [.ref w, .int (nI d)] [(w, .inr (6, [.ref wa])), (wa, .inl (cL, 6, .inr (.inl f)))] sz) (va_Qv (fun u : Nat → Int64 => wR u (10 * a + d)) (xB D vwCl (tyAll cI cL cC cB cZ cR) (va_A [(w, .inr (6, [.ref wa])), (wa, .inl (cL, 6, .inr (.inl f)))] sz) (fun u : (Nat → Int64) => [(w, .inr (6, [.ref wa])), (wa, .inl (cL, 6, .inr (.inl u)))])) (va_A [(w, .inr (6, [.ref wa])), (wa, .inl (cL, 6, .inr (.inl f)))] sz)) 0 0 (va_A [(w, .inr (6, [.ref wa])), (wa, .inl (cL, 6, .inr (.inl f)))] sz) := by
  refine x_of (Qc := fun A => va_Qv (fun u : Nat → Int64 => wR u (10 * a + d)) (xB D vwCl (tyAll cI cL cC cB cZ cR) A (fun u : (Nat → Int64) => [(w, .inr (6, [.ref wa])), (wa, .inl (cL, 6, .inr (.inl u)))])) A) (by decide) rfl (Nat.le_of_ble_eq_true rfl) ?_
  intro p e s m args below meth c A H locs ls hx hb hr hts0 hown hlk hml hnm hP hK hD hN hA hS hl
  have hts : ∀ w ∈ wsA, w.before args s = true := fun w h => hts0 w (List.mem_cons_of_mem _ h)
  have hown : s.vm.findClass "WideDecimalDesk$Whole" = some m.cls := hown
  have hl : lv_has ls 7 [(0, .ref w), (1, .int (nI d))] := hl
  have L6 : ∀ (kk : Nat) (i : Nat) (k : Nat) (f : (Nat → Int64)) (H : Heap) (locs : List Loc) (ls : Array Slot) (hk6 : 6 - i < kk) (hi : i ≤ 6) (hk : k = ap 4294967296 10 d a i) (hf : rL 6 f (mx (dg 4294967296 (10 * a + d)) (dg 4294967296 a) i)) (hP : va_P D vwCl [(w, .inr (6, [.ref wa])), (wa, .inl (cL, 6, .inr (.inl f)))] H) (hD : va_D A [(w, .inr (6, [.ref wa])), (wa, .inl (cL, 6, .inr (.inl f)))]) (hS : va_S A s.heap H locs) (hl : lv_has ls 7 [(4, .int (nI i)), (2, .long (lN k)), (0, .ref w)]), W p l e rm_w_append s m args below meth c H locs 0 0 (MQ below (va_Qv (fun u : Nat → Int64 => wR u (10 * a + d)) (xB D vwCl (tyAll cI cL cC cB cZ cR) A (fun u : (Nat → Int64) => [(w, .inr (6, [.ref wa])), (wa, .inl (cL, 6, .inr (.inl u)))])) A) args s 0 0 A) (F0 m 6 ls []) := by
    intro kk
    induction kk with
    | zero => intro i k f H locs ls hk; exact absurd hk (Nat.not_lt_zero _)
    | succ kk ih6 =>
      intro i k f H locs ls hk6 hi hk hf hP hD hS hl
      have ha1 := dgW a i
      have hk1 := ap_lt (B := 4294967296) (by decide) hd9 a i
      rw [← hk] at hk1
      refine lv_iload (pc := 6) hx hb dX6_appendDigit_6 (lv_at hl 0 rfl) ?_
      refine lv_bipush (v := nI 6) (pc := 8) hx hb dX6_appendDigit_8 (by decide +kernel) ?_
      refine x_icmp_ge (tgt := 53) (pc := 10) hx hb (by omega) (by omega) dX6_appendDigit_10 (by decide) (fun hc => ?_) (fun hc => ?_)
      · exact x_retv (pc := 53) hx hb hr hlk f (by have h : i = 6 := (by omega); subst h; exact rL_all hf) hP hK hD hS dX6_appendDigit_53
      · refine lv_aload_n (pc := 13) hx hb dX6_appendDigit_13 rfl (lv_at hl 2 rfl) ?_
        refine va_get (D := D) (ci := 6) (v := .ref wa) (C := RX6) (T := TX6) (N := 1) (pc := 14) hx hb hts in_X6 hown hK hP 0 rfl rfl 0 (by decide) (hts _ kw_82) (fun _ h9 => h9) rfl dX6_appendDigit_14 ?_
        refine lv_iload (pc := 17) hx hb dX6_appendDigit_17 (lv_at hl 0 rfl) ?_
        refine x_lald (v := lN (dg 4294967296 a i)) (pc := 19) hx hb hK hP 1 1 rfl rfl (by omega) (by decide) (rL_ge hf (by omega) (Nat.le_refl _)) dX6_appendDigit_19 ?_
        refine lv_ldc2 (v := (10 : Int64)) (pc := 20) hx hb hown (hts _ kw_265) dX6_appendDigit_20 ?_
        refine x_l (y := lN 10) rfl ?_
        refine lv_lmul (pc := 23) hx hb dX6_appendDigit_23 ?_
        refine x_l (y := lN ((dg 4294967296 a i) * 10)) (lN_mul _ _) ?_
        refine lv_lload_n (pc := 24) hx hb dX6_appendDigit_24 rfl (lv_at hl 1 rfl) ?_
        refine lv_ladd (pc := 25) hx hb dX6_appendDigit_25 ?_
        refine x_l (y := lN ((dg 4294967296 a i) * 10 + k)) (lN_add _ _) ?_
        refine lv_lstore (pc := 26) (lv' := [(5, .long (lN ((dg 4294967296 a i) * 10 + k))), (4, .int (nI i)), (2, .long (lN k)), (0, .ref w)]) hx hb dX6_appendDigit_26 hl (by decide) rfl (fun ls hl => ?_)
        refine lv_aload_n (pc := 28) hx hb dX6_appendDigit_28 rfl (lv_at hl 3 rfl) ?_
        refine va_get (D := D) (ci := 6) (v := .ref wa) (C := RX6) (T := TX6) (N := 1) (pc := 29) hx hb hts in_X6 hown hK hP 0 rfl rfl 0 (by decide) (hts _ kw_82) (fun _ h9 => h9) rfl dX6_appendDigit_29 ?_
        refine lv_iload (pc := 32) hx hb dX6_appendDigit_32 (lv_at hl 1 rfl) ?_
        refine lv_lload (pc := 34) hx hb dX6_appendDigit_34 (lv_at hl 0 rfl) ?_
        refine lv_ldc2 (v := (4294967295 : Int64)) (pc := 36) hx hb hown (hts _ kw_256) dX6_appendDigit_36 ?_
        refine x_l (y := lN 4294967295) rfl ?_
        refine lv_land (pc := 39) hx hb dX6_appendDigit_39 ?_
        refine x_l (y := lN (((dg 4294967296 a i) * 10 + k) % 4294967296)) (wM (by omega)) ?_
        refine x_last (pc := 40) hx hb hK hP hD hS 1 1 rfl rfl (by omega) (by decide) dX6_appendDigit_40 (fun H locs hP hD hS => ?_)
        have hP : va_P D vwCl [(w, .inr (6, [.ref wa])), (wa, .inl (cL, 6, .inr (.inl (vp_updL f i (lN (((dg 4294967296 a i) * 10 + k) % 4294967296))))))] H := hP
        have hD : va_D A [(w, .inr (6, [.ref wa])), (wa, .inl (cL, 6, .inr (.inl (vp_updL f i (lN (((dg 4294967296 a i) * 10 + k) % 4294967296))))))] := hD
        refine lv_lload (pc := 41) hx hb dX6_appendDigit_41 (lv_at hl 0 rfl) ?_
        refine lv_bipush (v := nI 32) (pc := 43) hx hb dX6_appendDigit_43 (by decide +kernel) ?_
        refine lv_lushr (v := lN (((dg 4294967296 a i) * 10 + k) / 4294967296)) (pc := 45) hx hb dX6_appendDigit_45 (wS (by omega)) ?_
        refine lv_lstore_n (pc := 46) (lv' := [(2, .long (lN (((dg 4294967296 a i) * 10 + k) / 4294967296))), (5, .long (lN ((dg 4294967296 a i) * 10 + k))), (4, .int (nI i)), (0, .ref w)]) hx hb dX6_appendDigit_46 rfl hl (by decide) rfl (fun ls hl => ?_)
        refine lv_iinc (k := 2) (v := nI (i + 1)) (pc := 47) (lv' := [(4, .int (nI (i + 1))), (2, .long (lN (((dg 4294967296 a i) * 10 + k) / 4294967296))), (5, .long (lN ((dg 4294967296 a i) * 10 + k))), (0, .ref w)]) hx hb dX6_appendDigit_47 hl rfl (x_inc i) (by decide) rfl (fun ls hl => ?_)
        refine lv_goto (tgt := 6) (pc := 50) hx hb dX6_appendDigit_50 (by decide) ?_
        have hl := lv_sub (l' := [(4, .int (nI (i + 1))), (2, .long (lN (((dg 4294967296 a i) * 10 + k) / 4294967296))), (0, .ref w)]) hl [0, 1, 3] rfl
        exact ih6 (i + 1) (((dg 4294967296 a i) * 10 + k) / 4294967296) (vp_updL f i (lN (((dg 4294967296 a i) * 10 + k) % 4294967296))) H locs ls (by omega) (by omega) (by rw [ap_succ (by decide), ← hk, Nat.mul_comm 10]) (rL_up hf (by rw [ap_dg (by decide), ← hk, Nat.mul_comm 10])) hP hD hS hl
  refine lv_iload_n (pc := 0) hx hb dX6_appendDigit_0 rfl (lv_at hl 1 rfl) ?_
  refine lv_i2l (v := lN d) (pc := 1) hx hb dX6_appendDigit_1 (nI_l (by omega)) ?_
  refine lv_lstore_n (pc := 2) (lv' := [(2, .long (lN d)), (0, .ref w), (1, .int (nI d))]) hx hb dX6_appendDigit_2 rfl hl (by decide) rfl (fun ls hl => ?_)
  refine lv_iconst (v := nI 0) (pc := 3) hx hb dX6_appendDigit_3 kI_0 ?_
  refine lv_istore (pc := 4) (lv' := [(4, .int (nI 0)), (2, .long (lN d)), (0, .ref w), (1, .int (nI d))]) hx hb dX6_appendDigit_4 hl (by decide) rfl (fun ls hl => ?_)
  have hl := lv_sub (l' := [(4, .int (nI 0)), (2, .long (lN d)), (0, .ref w)]) hl [0, 1, 2] rfl
  exact L6 _ 0 d f _ _ ls (Nat.lt_succ_self _) (by omega) (ap_0 _ _ _ _).symm (rL_0 hf) hP hD hS hl
abbrev rm_w_drop : Room := { frames := 0, cells := 0, slots := 0, locals := 0 }
set_option maxHeartbeats 4000000 in
set_option maxRecDepth 100000 in
theorem w_drop (l : Launch) (D : va_G) (cI cL cC cB cZ cR : ClassId) (sz : Nat) (w wa a : Nat) (f : Nat → Int64) (hf : wR f a) (ha : a < 4294967296 ^ 6) : Met l yX6_dropDigit wsX6_dropDigit rm_w_drop (xPc D vwCl (tyAll cI cL cC cB cZ cR) [.ref w] [(w, .inr (6, [.ref wa])), (wa, .inl (cL, 6, .inr (.inl f)))] sz) (va_Qi (fun (z : Int32) (u : Nat → Int64) => z = nI (a % 10) ∧ wR u (a / 10)) (xB D vwCl (tyAll cI cL cC cB cZ cR) (va_A [(w, .inr (6, [.ref wa])), (wa, .inl (cL, 6, .inr (.inl f)))] sz) (fun u : (Nat → Int64) => [(w, .inr (6, [.ref wa])), (wa, .inl (cL, 6, .inr (.inl u)))])) (va_A [(w, .inr (6, [.ref wa])), (wa, .inl (cL, 6, .inr (.inl f)))] sz)) 0 0 (va_A [(w, .inr (6, [.ref wa])), (wa, .inl (cL, 6, .inr (.inl f)))] sz) := by
  refine x_of (Qc := fun A => va_Qi (fun (z : Int32) (u : Nat → Int64) => z = nI (a % 10) ∧ wR u (a / 10)) (xB D vwCl (tyAll cI cL cC cB cZ cR) A (fun u : (Nat → Int64) => [(w, .inr (6, [.ref wa])), (wa, .inl (cL, 6, .inr (.inl u)))])) A) (by decide) rfl (Nat.le_of_ble_eq_true rfl) ?_
  intro p e s m args below meth c A H locs ls hx hb hr hts0 hown hlk hml hnm hP hK hD hN hA hS hl
  have hts : ∀ w ∈ wsA, w.before args s = true := fun w h => hts0 w (List.mem_cons_of_mem _ h)
  have hown : s.vm.findClass "WideDecimalDesk$Whole" = some m.cls := hown
  have hl : lv_has ls 6 [(0, .ref w)] := hl
  have L4 : ∀ (kk : Nat) (k : Nat) (r9 : Nat) (f : (Nat → Int64)) (H : Heap) (locs : List Loc) (ls : Array Slot) (hk4 : k < kk) (hk : k ≤ 6) (hr9 : r9 = a / 4294967296 ^ k % 10) (hf : rL 6 f (mx (dg 4294967296 a) (dg 4294967296 (a / 10)) k)) (hP : va_P D vwCl [(w, .inr (6, [.ref wa])), (wa, .inl (cL, 6, .inr (.inl f)))] H) (hD : va_D A [(w, .inr (6, [.ref wa])), (wa, .inl (cL, 6, .inr (.inl f)))]) (hS : va_S A s.heap H locs) (hl : lv_has ls 6 [(3, .int (dn k)), (1, .long (lN r9)), (0, .ref w)]), W p l e rm_w_drop s m args below meth c H locs 0 0 (MQ below (va_Qi (fun (z : Int32) (u : Nat → Int64) => z = nI (a % 10) ∧ wR u (a / 10)) (xB D vwCl (tyAll cI cL cC cB cZ cR) A (fun u : (Nat → Int64) => [(w, .inr (6, [.ref wa])), (wa, .inl (cL, 6, .inr (.inl u)))])) A) args s 0 0 A) (F0 m 4 ls []) := by
    intro kk
    induction kk with
    | zero => intro k r9 f H locs ls hk; exact absurd hk (Nat.not_lt_zero _)
    | succ kk ih4 =>
      intro k r9 f H locs ls hk4 hk hr9 hf hP hD hS hl
      have hr1 : r9 < 10 := by omega
      refine lv_iload_n (pc := 4) hx hb dX6_dropDigit_4 rfl (lv_at hl 0 rfl) ?_
      refine lv_if_lt (tgt := 46) (pc := 5) hx hb dX6_dropDigit_5 (by decide) (fun hc => ?_) (fun hc => ?_)
      · have h0 : k = 0 := dn_lt (by omega) hc
        rw [h0] at hf hr9
        rw [dv_0] at hr9
        refine lv_lload_n (pc := 46) hx hb dX6_dropDigit_46 rfl (lv_at hl 1 rfl) ?_
        refine lv_l2i (v := nI r9) (pc := 47) hx hb dX6_dropDigit_47 (lN_i r9) ?_
        exact x_reti (pc := 48) hx hb hr hlk f (⟨by rw [hr9], rL_z hf⟩) hP hK hD hS dX6_dropDigit_48
      · obtain ⟨j, rfl⟩ := dn_ge hc
        have ha1 := dgW a j
        have hl : lv_has ls 6 [(3, .int (nI j)), (1, .long (lN r9)), (0, .ref w)] := hl
        refine lv_lload_n (pc := 8) hx hb dX6_dropDigit_8 rfl (lv_at hl 1 rfl) ?_
        refine lv_bipush (v := nI 32) (pc := 9) hx hb dX6_dropDigit_9 (by decide +kernel) ?_
        refine lv_lshl (v := lN (r9 * 4294967296)) (pc := 11) hx hb dX6_dropDigit_11 (wL _) ?_
        refine lv_aload_n (pc := 12) hx hb dX6_dropDigit_12 rfl (lv_at hl 2 rfl) ?_
        refine va_get (D := D) (ci := 6) (v := .ref wa) (C := RX6) (T := TX6) (N := 1) (pc := 13) hx hb hts in_X6 hown hK hP 0 rfl rfl 0 (by decide) (hts _ kw_82) (fun _ h9 => h9) rfl dX6_dropDigit_13 ?_
        refine lv_iload_n (pc := 16) hx hb dX6_dropDigit_16 rfl (lv_at hl 0 rfl) ?_
        refine x_lald (v := lN (dg 4294967296 a j)) (pc := 17) hx hb hK hP 1 1 rfl rfl (by omega) (by decide) (rL_lt hf (by omega) (by omega)) dX6_dropDigit_17 ?_
        refine lv_lor (pc := 18) hx hb dX6_dropDigit_18 ?_
        refine x_l (y := lN (r9 * 4294967296 + dg 4294967296 a j)) (wO2 ha1 (by omega)) ?_
        refine lv_lstore (pc := 19) (lv' := [(4, .long (lN (r9 * 4294967296 + dg 4294967296 a j))), (3, .int (nI j)), (1, .long (lN r9)), (0, .ref w)]) hx hb dX6_dropDigit_19 hl (by decide) rfl (fun ls hl => ?_)
        refine lv_aload_n (pc := 21) hx hb dX6_dropDigit_21 rfl (lv_at hl 3 rfl) ?_
        refine va_get (D := D) (ci := 6) (v := .ref wa) (C := RX6) (T := TX6) (N := 1) (pc := 22) hx hb hts in_X6 hown hK hP 0 rfl rfl 0 (by decide) (hts _ kw_82) (fun _ h9 => h9) rfl dX6_dropDigit_22 ?_
        refine lv_iload_n (pc := 25) hx hb dX6_dropDigit_25 rfl (lv_at hl 1 rfl) ?_
        refine lv_lload (pc := 26) hx hb dX6_dropDigit_26 (lv_at hl 0 rfl) ?_
        refine lv_ldc2 (v := (10 : Int64)) (pc := 28) hx hb hown (hts _ kw_265) dX6_dropDigit_28 ?_
        refine x_l (y := lN 10) rfl ?_
        refine lv_ldiv (pc := 31) hx hb dX6_dropDigit_31 (by decide +kernel) ?_
        refine x_l (y := lN ((r9 * 4294967296 + dg 4294967296 a j) / 10)) (pk_lDiv (by omega) (by omega) (by omega)) ?_
        refine x_last (pc := 32) hx hb hK hP hD hS 1 1 rfl rfl (by omega) (by decide) dX6_dropDigit_32 (fun H locs hP hD hS => ?_)
        have hP : va_P D vwCl [(w, .inr (6, [.ref wa])), (wa, .inl (cL, 6, .inr (.inl (vp_updL f j (lN ((r9 * 4294967296 + dg 4294967296 a j) / 10))))))] H := hP
        have hD : va_D A [(w, .inr (6, [.ref wa])), (wa, .inl (cL, 6, .inr (.inl (vp_updL f j (lN ((r9 * 4294967296 + dg 4294967296 a j) / 10))))))] := hD
        refine lv_lload (pc := 33) hx hb dX6_dropDigit_33 (lv_at hl 0 rfl) ?_
        refine lv_ldc2 (v := (10 : Int64)) (pc := 35) hx hb hown (hts _ kw_265) dX6_dropDigit_35 ?_
        refine x_l (y := lN 10) rfl ?_
        refine lv_lrem (pc := 38) hx hb dX6_dropDigit_38 (by decide +kernel) ?_
        refine x_l (y := lN ((r9 * 4294967296 + dg 4294967296 a j) % 10)) (pk_lRem (by omega) (by omega) (by omega)) ?_
        refine lv_lstore_n (pc := 39) (lv' := [(1, .long (lN ((r9 * 4294967296 + dg 4294967296 a j) % 10))), (4, .long (lN (r9 * 4294967296 + dg 4294967296 a j))), (3, .int (nI j)), (0, .ref w)]) hx hb dX6_dropDigit_39 rfl hl (by decide) rfl (fun ls hl => ?_)
        refine lv_iinc (k := 2) (v := dn j) (pc := 40) (lv' := [(3, .int (dn j)), (1, .long (lN ((r9 * 4294967296 + dg 4294967296 a j) % 10))), (4, .long (lN (r9 * 4294967296 + dg 4294967296 a j))), (0, .ref w)]) hx hb dX6_dropDigit_40 hl rfl (x_dn j) (by decide) rfl (fun ls hl => ?_)
        refine lv_goto (tgt := 4) (pc := 43) hx hb dX6_dropDigit_43 (by decide) ?_
        have hl := lv_sub (l' := [(3, .int (dn j)), (1, .long (lN ((r9 * 4294967296 + dg 4294967296 a j) % 10))), (0, .ref w)]) hl [0, 1, 3] rfl
        exact ih4 j ((r9 * 4294967296 + dg 4294967296 a j) % 10) (vp_updL f j (lN ((r9 * 4294967296 + dg 4294967296 a j) / 10))) H locs ls (by omega) (by omega) (by rw [hr9, dd_rem]) (rL_dn hf (by rw [hr9, dd_quo (by decide) (by decide)])) hP hD hS hl
  refine lv_lconst (v := lN 0) (pc := 0) hx hb dX6_dropDigit_0 rfl ?_
  refine lv_lstore_n (pc := 1) (lv' := [(1, .long (lN 0)), (0, .ref w)]) hx hb dX6_dropDigit_1 rfl hl (by decide) rfl (fun ls hl => ?_)
  refine lv_iconst (v := nI 5) (pc := 2) hx hb dX6_dropDigit_2 kI_5 ?_
  refine lv_istore_n (pc := 3) (lv' := [(3, .int (nI 5)), (1, .long (lN 0)), (0, .ref w)]) hx hb dX6_dropDigit_3 rfl hl (by decide) rfl (fun ls hl => ?_)
  have hl : lv_has ls 6 [(3, .int (dn 6)), (1, .long (lN 0)), (0, .ref w)] := hl
  exact L4 _ 6 0 f _ _ ls (Nat.lt_succ_self _) (by omega) (by rw [dv_top ha]) (rL_n hf) hP hD hS hl
