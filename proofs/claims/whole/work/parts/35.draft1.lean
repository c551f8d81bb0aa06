abbrev rm_w_difA : Room := { frames := 0, cells := 0, slots := 0, locals := 0 }
set_option maxHeartbeats 4000000 in
set_option maxRecDepth 100000 in
theorem w_difA (l : Launch) (D : va_G) (cI cL cC cB cZ cR : ClassId) (sz : Nat) (w wa o oa b c9 : Nat) (f g : Nat → Int64) (hf : wR f (b + c9)) (hg : wR g b) : Met l yX6_becomeDifference wsX6_becomeDifference rm_w_difA (xPc D vwCl (tyAll cI cL cC cB cZ cR) [.ref w, .ref w, .ref o] [(w, .inr (6, [.ref wa])), (wa, .inl (cL, 6, .inr (.inl f))), (o, .inr (6, [.ref oa])), (oa, .inl (cL, 6, .inr (.inl g)))] sz) (va_Qv (fun u : Nat → Int64 => wR u c9) (xB D vwCl (tyAll cI cL cC cB cZ cR) (va_A [(w, .inr (6, [.ref wa])), (wa, .inl (cL, 6, .inr (.inl f))), (o, .inr (6, [.ref oa])), (oa, .inl (cL, 6, .inr (.inl g)))] sz) (fun u : (Nat → Int64) => [(w, .inr (6, [.ref wa])), (wa, .inl (cL, 6, .inr (.inl u))), (o, .inr (6, [.ref oa])), (oa, .inl (cL, 6, .inr (.inl g)))])) (va_A [(w, .inr (6, [.ref wa])), (wa, .inl (cL, 6, .inr (.inl f))), (o, .inr (6, [.ref oa])), (oa, .inl (cL, 6, .inr (.inl g)))] sz)) 0 0 (va_A [(w, .inr (6, [.ref wa])), (wa, .inl (cL, 6, .inr (.inl f))), (o, .inr (6, [.ref oa])), (oa, .inl (cL, 6, .inr (.inl g)))] sz) := by
  refine x_of (Qc := fun A => va_Qv (fun u : Nat → Int64 => wR u c9) (xB D vwCl (tyAll cI cL cC cB cZ cR) A (fun u : (Nat → Int64) => [(w, .inr (6, [.ref wa])), (wa, .inl (cL, 6, .inr (.inl u))), (o, .inr (6, [.ref oa])), (oa, .inl (cL, 6, .inr (.inl g)))])) A) (by decide) rfl (Nat.le_of_ble_eq_true rfl) ?_
  intro p e s m args below meth c A H locs ls hx hb hr hts0 hown hlk hml hnm hP hK hD hN hA hS hl
  have hts : ∀ w ∈ wsA, w.before args s = true := fun w h => hts0 w (List.mem_cons_of_mem _ h)
  have hown : s.vm.findClass "WideDecimalDesk$Whole" = some m.cls := hown
  have hl : lv_has ls 8 [(0, .ref w), (1, .ref w), (2, .ref o)] := hl
  have L5 : ∀ (kk : Nat) (i : Nat) (k : Nat) (f : (Nat → Int64)) (H : Heap) (locs : List Loc) (ls : Array Slot) (hk5 : 6 - i < kk) (hi : i ≤ 6) (hk : k = cy 4294967296 b c9 i) (hf : rL 6 f (mx (dg 4294967296 c9) (dg 4294967296 (b + c9)) i)) (hP : va_P D vwCl [(w, .inr (6, [.ref wa])), (wa, .inl (cL, 6, .inr (.inl f))), (o, .inr (6, [.ref oa])), (oa, .inl (cL, 6, .inr (.inl g)))] H) (hD : va_D A [(w, .inr (6, [.ref wa])), (wa, .inl (cL, 6, .inr (.inl f))), (o, .inr (6, [.ref oa])), (oa, .inl (cL, 6, .inr (.inl g)))]) (hS : va_S A s.heap H locs) (hl : lv_has ls 8 [(5, .int (nI i)), (3, .long (lN k)), (0, .ref w), (1, .ref w), (2, .ref o)]), W p l e rm_w_difA s m args below meth c H locs 0 0 (MQ below (va_Qv (fun u : Nat → Int64 => wR u c9) (xB D vwCl (tyAll cI cL cC cB cZ cR) A (fun u : (Nat → Int64) => [(w, .inr (6, [.ref wa])), (wa, .inl (cL, 6, .inr (.inl u))), (o, .inr (6, [.ref oa])), (oa, .inl (cL, 6, .inr (.inl g)))])) A) args s 0 0 A) (F0 m 5 ls []) := by
    intro kk
    induction kk with
    | zero => intro i k f H locs ls hk; exact absurd hk (Nat.not_lt_zero _)
    | succ kk ih5 =>
      intro i k f H locs ls hk5 hi hk hf hP hD hS hl
      have ha1 := dgW (b + c9) i
      have hb1 := dgW b i
      have hc1 := dgW c9 i
      have hk1 := cy_le (B := 4294967296) (by decide) b c9 i
      have hk2 := cy_le (B := 4294967296) (by decide) b c9 (i + 1)
      have he := cy_eq (B := 4294967296) (by decide) b c9 i
      rw [← hk] at hk1 he
      obtain ⟨t1, t2, t3⟩ := sb_wd ha1 hb1 hk1
      refine lv_iload (pc := 5) hx hb dX6_becomeDifference_5 (lv_at hl 0 rfl) ?_
      refine lv_bipush (v := nI 6) (pc := 7) hx hb dX6_becomeDifference_7 (by decide +kernel) ?_
      refine x_icmp_ge (tgt := 63) (pc := 9) hx hb (by omega) (by omega) dX6_becomeDifference_9 (by decide) (fun hc => ?_) (fun hc => ?_)
      · exact x_retv (pc := 63) hx hb hr hlk f (by have h : i = 6 := (by omega); subst h; exact rL_all hf) hP hK hD hS dX6_becomeDifference_63
      · refine lv_aload_n (pc := 12) hx hb dX6_becomeDifference_12 rfl (lv_at hl 3 rfl) ?_
        refine va_get (D := D) (ci := 6) (v := .ref wa) (C := RX6) (T := TX6) (N := 1) (pc := 13) hx hb hts in_X6 hown hK hP 0 rfl rfl 0 (by decide) (hts _ kw_82) (fun _ h9 => h9) rfl dX6_becomeDifference_13 ?_
        refine lv_iload (pc := 16) hx hb dX6_becomeDifference_16 (lv_at hl 0 rfl) ?_
        refine x_lald (v := lN (dg 4294967296 (b + c9) i)) (pc := 18) hx hb hK hP 1 1 rfl rfl (by omega) (by decide) (rL_ge hf (by omega) (Nat.le_refl _)) dX6_becomeDifference_18 ?_
        refine lv_aload_n (pc := 19) hx hb dX6_becomeDifference_19 rfl (lv_at hl 4 rfl) ?_
        refine va_get (D := D) (ci := 6) (v := .ref oa) (C := RX6) (T := TX6) (N := 1) (pc := 20) hx hb hts in_X6 hown hK hP 2 rfl rfl 0 (by decide) (hts _ kw_82) (fun _ h9 => h9) rfl dX6_becomeDifference_20 ?_
        refine lv_iload (pc := 23) hx hb dX6_becomeDifference_23 (lv_at hl 0 rfl) ?_
        refine x_lald (v := lN (dg 4294967296 b i)) (pc := 25) hx hb hK hP 3 1 rfl rfl (by omega) (by decide) (hg i (by omega)) dX6_becomeDifference_25 ?_
        refine lv_lsub (pc := 26) hx hb dX6_becomeDifference_26 ?_
        refine lv_lload_n (pc := 27) hx hb dX6_becomeDifference_27 rfl (lv_at hl 1 rfl) ?_
        refine lv_lsub (pc := 28) hx hb dX6_becomeDifference_28 ?_
        refine lv_topl (fun d hd => ?_)
        rw [← hd] at t1 t2 t3
        refine lv_lstore (pc := 29) (lv' := [(6, .long d), (5, .int (nI i)), (3, .long (lN k)), (0, .ref w), (1, .ref w), (2, .ref o)]) hx hb dX6_becomeDifference_29 hl (by decide) rfl (fun ls hl => ?_)
        refine lv_aload_n (pc := 31) hx hb dX6_becomeDifference_31 rfl (lv_at hl 3 rfl) ?_
        refine va_get (D := D) (ci := 6) (v := .ref wa) (C := RX6) (T := TX6) (N := 1) (pc := 32) hx hb hts in_X6 hown hK hP 0 rfl rfl 0 (by decide) (hts _ kw_82) (fun _ h9 => h9) rfl dX6_becomeDifference_32 ?_
        refine lv_iload (pc := 35) hx hb dX6_becomeDifference_35 (lv_at hl 1 rfl) ?_
        refine lv_lload (pc := 37) hx hb dX6_becomeDifference_37 (lv_at hl 0 rfl) ?_
        refine lv_ldc2 (v := (4294967295 : Int64)) (pc := 39) hx hb hown (hts _ kw_256) dX6_becomeDifference_39 ?_
        refine x_l (y := lN 4294967295) rfl ?_
        refine lv_land (pc := 42) hx hb dX6_becomeDifference_42 ?_
        refine x_l (y := lN (dg 4294967296 c9 i)) (sb_pick (c9 := c9) he hc1 ha1 hb1 hk1 hk2 t2 t3) ?_
        refine x_last (pc := 43) hx hb hK hP hD hS 1 1 rfl rfl (by omega) (by decide) dX6_becomeDifference_43 (fun H locs hP hD hS => ?_)
        have hP : va_P D vwCl [(w, .inr (6, [.ref wa])), (wa, .inl (cL, 6, .inr (.inl (vp_updL f i (lN (dg 4294967296 c9 i)))))), (o, .inr (6, [.ref oa])), (oa, .inl (cL, 6, .inr (.inl g)))] H := hP
        have hD : va_D A [(w, .inr (6, [.ref wa])), (wa, .inl (cL, 6, .inr (.inl (vp_updL f i (lN (dg 4294967296 c9 i)))))), (o, .inr (6, [.ref oa])), (oa, .inl (cL, 6, .inr (.inl g)))] := hD
        refine lv_lload (pc := 44) hx hb dX6_becomeDifference_44 (lv_at hl 0 rfl) ?_
        refine lv_lconst (v := lN 0) (pc := 46) hx hb dX6_becomeDifference_46 rfl ?_
        refine W.lcmp (pc := 47) hx hb dX6_becomeDifference_47 ?_
        refine lv_if_ge (tgt := 55) (pc := 48) hx hb dX6_becomeDifference_48 (by decide) (fun hq => ?_) (fun hq => ?_)
        · have hge := t1.mp hq
          refine lv_lconst (v := lN 0) (pc := 55) hx hb dX6_becomeDifference_55 rfl ?_
          refine lv_lstore_n (pc := 56) (lv' := [(3, .long (lN 0)), (6, .long d), (5, .int (nI i)), (0, .ref w), (1, .ref w), (2, .ref o)]) hx hb dX6_becomeDifference_56 rfl hl (by decide) rfl (fun ls hl => ?_)
          refine lv_iinc (k := 2) (v := nI (i + 1)) (pc := 57) (lv' := [(5, .int (nI (i + 1))), (3, .long (lN 0)), (6, .long d), (0, .ref w), (1, .ref w), (2, .ref o)]) hx hb dX6_becomeDifference_57 hl rfl (x_inc i) (by decide) rfl (fun ls hl => ?_)
          refine lv_goto (tgt := 5) (pc := 60) hx hb dX6_becomeDifference_60 (by decide) ?_
          have hl := lv_sub (l' := [(5, .int (nI (i + 1))), (3, .long (lN 0)), (0, .ref w), (1, .ref w), (2, .ref o)]) hl [0, 1, 3, 4, 5] rfl
          exact ih5 (i + 1) 0 (vp_updL f i (lN (dg 4294967296 c9 i))) H locs ls (by omega) (by omega) (by omega) (rL_up hf rfl) hP hD hS hl
        · have hge := Nat.lt_of_not_le (fun z => hq (t1.mpr z))
          refine lv_lconst (v := lN 1) (pc := 51) hx hb dX6_becomeDifference_51 rfl ?_
          refine lv_goto (tgt := 56) (pc := 52) hx hb dX6_becomeDifference_52 (by decide) ?_
          refine lv_lstore_n (pc := 56) (lv' := [(3, .long (lN 1)), (6, .long d), (5, .int (nI i)), (0, .ref w), (1, .ref w), (2, .ref o)]) hx hb dX6_becomeDifference_56 rfl hl (by decide) rfl (fun ls hl => ?_)
          refine lv_iinc (k := 2) (v := nI (i + 1)) (pc := 57) (lv' := [(5, .int (nI (i + 1))), (3, .long (lN 1)), (6, .long d), (0, .ref w), (1, .ref w), (2, .ref o)]) hx hb dX6_becomeDifference_57 hl rfl (x_inc i) (by decide) rfl (fun ls hl => ?_)
          refine lv_goto (tgt := 5) (pc := 60) hx hb dX6_becomeDifference_60 (by decide) ?_
          have hl := lv_sub (l' := [(5, .int (nI (i + 1))), (3, .long (lN 1)), (0, .ref w), (1, .ref w), (2, .ref o)]) hl [0, 1, 3, 4, 5] rfl
          exact ih5 (i + 1) 1 (vp_updL f i (lN (dg 4294967296 c9 i))) H locs ls (by omega) (by omega) (by omega) (rL_up hf rfl) hP hD hS hl
  refine lv_lconst (v := lN 0) (pc := 0) hx hb dX6_becomeDifference_0 rfl ?_
  refine lv_lstore_n (pc := 1) (lv' := [(3, .long (lN 0)), (0, .ref w), (1, .ref w), (2, .ref o)]) hx hb dX6_becomeDifference_1 rfl hl (by decide) rfl (fun ls hl => ?_)
  refine lv_iconst (v := nI 0) (pc := 2) hx hb dX6_becomeDifference_2 kI_0 ?_
  refine lv_istore (pc := 3) (lv' := [(5, .int (nI 0)), (3, .long (lN 0)), (0, .ref w), (1, .ref w), (2, .ref o)]) hx hb dX6_becomeDifference_3 hl (by decide) rfl (fun ls hl => ?_)
  exact L5 _ 0 0 f _ _ ls (Nat.lt_succ_self _) (by omega) (cy_0 _ _ _).symm (rL_0 hf) hP hD hS hl
abbrev rm_w_difB : Room := { frames := 0, cells := 0, slots := 0, locals := 0 }
set_option maxHeartbeats 4000000 in
set_option maxRecDepth 100000 in
theorem w_difB (l : Launch) (D : va_G) (cI cL cC cB cZ cR : ClassId) (sz : Nat) (w wa o oa b c9 : Nat) (f g : Nat → Int64) (hf : wR f b) (hg : wR g (b + c9)) : Met l yX6_becomeDifference wsX6_becomeDifference rm_w_difB (xPc D vwCl (tyAll cI cL cC cB cZ cR) [.ref w, .ref o, .ref w] [(w, .inr (6, [.ref wa])), (wa, .inl (cL, 6, .inr (.inl f))), (o, .inr (6, [.ref oa])), (oa, .inl (cL, 6, .inr (.inl g)))] sz) (va_Qv (fun u : Nat → Int64 => wR u c9) (xB D vwCl (tyAll cI cL cC cB cZ cR) (va_A [(w, .inr (6, [.ref wa])), (wa, .inl (cL, 6, .inr (.inl f))), (o, .inr (6, [.ref oa])), (oa, .inl (cL, 6, .inr (.inl g)))] sz) (fun u : (Nat → Int64) => [(w, .inr (6, [.ref wa])), (wa, .inl (cL, 6, .inr (.inl u))), (o, .inr (6, [.ref oa])), (oa, .inl (cL, 6, .inr (.inl g)))])) (va_A [(w, .inr (6, [.ref wa])), (wa, .inl (cL, 6, .inr (.inl f))), (o, .inr (6, [.ref oa])), (oa, .inl (cL, 6, .inr (.inl g)))] sz)) 0 0 (va_A [(w, .inr (6, [.ref wa])), (wa, .inl (cL, 6, .inr (.inl f))), (o, .inr (6, [.ref oa])), (oa, .inl (cL, 6, .inr (.inl g)))] sz) := by
  refine x_of (Qc := fun A => va_Qv (fun u : Nat → Int64 => wR u c9) (xB D vwCl (tyAll cI cL cC cB cZ cR) A (fun u : (Nat → Int64) => [(w, .inr (6, [.ref wa])), (wa, .inl (cL, 6, .inr (.inl u))), (o, .inr (6, [.ref oa])), (oa, .inl (cL, 6, .inr (.inl g)))])) A) (by decide) rfl (Nat.le_of_ble_eq_true rfl) ?_
  intro p e s m args below meth c A H locs ls hx hb hr hts0 hown hlk hml hnm hP hK hD hN hA hS hl
  have hts : ∀ w ∈ wsA, w.before args s = true := fun w h => hts0 w (List.mem_cons_of_mem _ h)
  have hown : s.vm.findClass "WideDecimalDesk$Whole" = some m.cls := hown
  have hl : lv_has ls 8 [(0, .ref w), (1, .ref o), (2, .ref w)] := hl
  have L5 : ∀ (kk : Nat) (i : Nat) (k : Nat) (f : (Nat → Int64)) (H : Heap) (locs : List Loc) (ls : Array Slot) (hk5 : 6 - i < kk) (hi : i ≤ 6) (hk : k = cy 4294967296 b c9 i) (hf : rL 6 f (mx (dg 4294967296 c9) (dg 4294967296 b) i)) (hP : va_P D vwCl [(w, .inr (6, [.ref wa])), (wa, .inl (cL, 6, .inr (.inl f))), (o, .inr (6, [.ref oa])), (oa, .inl (cL, 6, .inr (.inl g)))] H) (hD : va_D A [(w, .inr (6, [.ref wa])), (wa, .inl (cL, 6, .inr (.inl f))), (o, .inr (6, [.ref oa])), (oa, .inl (cL, 6, .inr (.inl g)))]) (hS : va_S A s.heap H locs) (hl : lv_has ls 8 [(5, .int (nI i)), (3, .long (lN k)), (0, .ref w), (1, .ref o), (2, .ref w)]), W p l e rm_w_difB s m args below meth c H locs 0 0 (MQ below (va_Qv (fun u : Nat → Int64 => wR u c9) (xB D vwCl (tyAll cI cL cC cB cZ cR) A (fun u : (Nat → Int64) => [(w, .inr (6, [.ref wa])), (wa, .inl (cL, 6, .inr (.inl u))), (o, .inr (6, [.ref oa])), (oa, .inl (cL, 6, .inr (.inl g)))])) A) args s 0 0 A) (F0 m 5 ls []) := by
    intro kk
    induction kk with
    | zero => intro i k f H locs ls hk; exact absurd hk (Nat.not_lt_zero _)
    | succ kk ih5 =>
      intro i k f H locs ls hk5 hi hk hf hP hD hS hl
      have ha1 := dgW (b + c9) i
      have hb1 := dgW b i
      have hc1 := dgW c9 i
      have hk1 := cy_le (B := 4294967296) (by decide) b c9 i
      have hk2 := cy_le (B := 4294967296) (by decide) b c9 (i + 1)
      have he := cy_eq (B := 4294967296) (by decide) b c9 i
      rw [← hk] at hk1 he
      obtain ⟨t1, t2, t3⟩ := sb_wd ha1 hb1 hk1
      refine lv_iload (pc := 5) hx hb dX6_becomeDifference_5 (lv_at hl 0 rfl) ?_
      refine lv_bipush (v := nI 6) (pc := 7) hx hb dX6_becomeDifference_7 (by decide +kernel) ?_
      refine x_icmp_ge (tgt := 63) (pc := 9) hx hb (by omega) (by omega) dX6_becomeDifference_9 (by decide) (fun hc => ?_) (fun hc => ?_)
      · exact x_retv (pc := 63) hx hb hr hlk f (by have h : i = 6 := (by omega); subst h; exact rL_all hf) hP hK hD hS dX6_becomeDifference_63
      · refine lv_aload_n (pc := 12) hx hb dX6_becomeDifference_12 rfl (lv_at hl 3 rfl) ?_
        refine va_get (D := D) (ci := 6) (v := .ref oa) (C := RX6) (T := TX6) (N := 1) (pc := 13) hx hb hts in_X6 hown hK hP 2 rfl rfl 0 (by decide) (hts _ kw_82) (fun _ h9 => h9) rfl dX6_becomeDifference_13 ?_
        refine lv_iload (pc := 16) hx hb dX6_becomeDifference_16 (lv_at hl 0 rfl) ?_
        refine x_lald (v := lN (dg 4294967296 (b + c9) i)) (pc := 18) hx hb hK hP 3 1 rfl rfl (by omega) (by decide) (hg i (by omega)) dX6_becomeDifference_18 ?_
        refine lv_aload_n (pc := 19) hx hb dX6_becomeDifference_19 rfl (lv_at hl 4 rfl) ?_
        refine va_get (D := D) (ci := 6) (v := .ref wa) (C := RX6) (T := TX6) (N := 1) (pc := 20) hx hb hts in_X6 hown hK hP 0 rfl rfl 0 (by decide) (hts _ kw_82) (fun _ h9 => h9) rfl dX6_becomeDifference_20 ?_
        refine lv_iload (pc := 23) hx hb dX6_becomeDifference_23 (lv_at hl 0 rfl) ?_
        refine x_lald (v := lN (dg 4294967296 b i)) (pc := 25) hx hb hK hP 1 1 rfl rfl (by omega) (by decide) (rL_ge hf (by omega) (Nat.le_refl _)) dX6_becomeDifference_25 ?_
        refine lv_lsub (pc := 26) hx hb dX6_becomeDifference_26 ?_
        refine lv_lload_n (pc := 27) hx hb dX6_becomeDifference_27 rfl (lv_at hl 1 rfl) ?_
        refine lv_lsub (pc := 28) hx hb dX6_becomeDifference_28 ?_
        refine lv_topl (fun d hd => ?_)
        rw [← hd] at t1 t2 t3
        refine lv_lstore (pc := 29) (lv' := [(6, .long d), (5, .int (nI i)), (3, .long (lN k)), (0, .ref w), (1, .ref o), (2, .ref w)]) hx hb dX6_becomeDifference_29 hl (by decide) rfl (fun ls hl => ?_)
        refine lv_aload_n (pc := 31) hx hb dX6_becomeDifference_31 rfl (lv_at hl 3 rfl) ?_
        refine va_get (D := D) (ci := 6) (v := .ref wa) (C := RX6) (T := TX6) (N := 1) (pc := 32) hx hb hts in_X6 hown hK hP 0 rfl rfl 0 (by decide) (hts _ kw_82) (fun _ h9 => h9) rfl dX6_becomeDifference_32 ?_
        refine lv_iload (pc := 35) hx hb dX6_becomeDifference_35 (lv_at hl 1 rfl) ?_
        refine lv_lload (pc := 37) hx hb dX6_becomeDifference_37 (lv_at hl 0 rfl) ?_
        refine lv_ldc2 (v := (4294967295 : Int64)) (pc := 39) hx hb hown (hts _ kw_256) dX6_becomeDifference_39 ?_
        refine x_l (y := lN 4294967295) rfl ?_
        refine lv_land (pc := 42) hx hb dX6_becomeDifference_42 ?_
        refine x_l (y := lN (dg 4294967296 c9 i)) (sb_pick (c9 := c9) he hc1 ha1 hb1 hk1 hk2 t2 t3) ?_
        refine x_last (pc := 43) hx hb hK hP hD hS 1 1 rfl rfl (by omega) (by decide) dX6_becomeDifference_43 (fun H locs hP hD hS => ?_)
        have hP : va_P D vwCl [(w, .inr (6, [.ref wa])), (wa, .inl (cL, 6, .inr (.inl (vp_updL f i (lN (dg 4294967296 c9 i)))))), (o, .inr (6, [.ref oa])), (oa, .inl (cL, 6, .inr (.inl g)))] H := hP
        have hD : va_D A [(w, .inr (6, [.ref wa])), (wa, .inl (cL, 6, .inr (.inl (vp_updL f i (lN (dg 4294967296 c9 i)))))), (o, .inr (6, [.ref oa])), (oa, .inl (cL, 6, .inr (.inl g)))] := hD
        refine lv_lload (pc := 44) hx hb dX6_becomeDifference_44 (lv_at hl 0 rfl) ?_
        refine lv_lconst (v := lN 0) (pc := 46) hx hb dX6_becomeDifference_46 rfl ?_
        refine W.lcmp (pc := 47) hx hb dX6_becomeDifference_47 ?_
        refine lv_if_ge (tgt := 55) (pc := 48) hx hb dX6_becomeDifference_48 (by decide) (fun hq => ?_) (fun hq => ?_)
        · have hge := t1.mp hq
          refine lv_lconst (v := lN 0) (pc := 55) hx hb dX6_becomeDifference_55 rfl ?_
          refine lv_lstore_n (pc := 56) (lv' := [(3, .long (lN 0)), (6, .long d), (5, .int (nI i)), (0, .ref w), (1, .ref o), (2, .ref w)]) hx hb dX6_becomeDifference_56 rfl hl (by decide) rfl (fun ls hl => ?_)
          refine lv_iinc (k := 2) (v := nI (i + 1)) (pc := 57) (lv' := [(5, .int (nI (i + 1))), (3, .long (lN 0)), (6, .long d), (0, .ref w), (1, .ref o), (2, .ref w)]) hx hb dX6_becomeDifference_57 hl rfl (x_inc i) (by decide) rfl (fun ls hl => ?_)
          refine lv_goto (tgt := 5) (pc := 60) hx hb dX6_becomeDifference_60 (by decide) ?_
          have hl := lv_sub (l' := [(5, .int (nI (i + 1))), (3, .long (lN 0)), (0, .ref w), (1, .ref o), (2, .ref w)]) hl [0, 1, 3, 4, 5] rfl
          exact ih5 (i + 1) 0 (vp_updL f i (lN (dg 4294967296 c9 i))) H locs ls (by omega) (by omega) (by omega) (rL_up hf rfl) hP hD hS hl
        · have hge := Nat.lt_of_not_le (fun z => hq (t1.mpr z))
          refine lv_lconst (v := lN 1) (pc := 51) hx hb dX6_becomeDifference_51 rfl ?_
          refine lv_goto (tgt := 56) (pc := 52) hx hb dX6_becomeDifference_52 (by decide) ?_
          refine lv_lstore_n (pc := 56) (lv' := [(3, .long (lN 1)), (6, .long d), (5, .int (nI i)), (0, .ref w), (1, .ref o), (2, .ref w)]) hx hb dX6_becomeDifference_56 rfl hl (by decide) rfl (fun ls hl => ?_)
          refine lv_iinc (k := 2) (v := nI (i + 1)) (pc := 57) (lv' := [(5, .int (nI (i + 1))), (3, .long (lN 1)), (6, .long d), (0, .ref w), (1, .ref o), (2, .ref w)]) hx hb dX6_becomeDifference_57 hl rfl (x_inc i) (by decide) rfl (fun ls hl => ?_)
          refine lv_goto (tgt := 5) (pc := 60) hx hb dX6_becomeDifference_60 (by decide) ?_
          have hl := lv_sub (l' := [(5, .int (nI (i + 1))), (3, .long (lN 1)), (0, .ref w), (1, .ref o), (2, .ref w)]) hl [0, 1, 3, 4, 5] rfl
          exact ih5 (i + 1) 1 (vp_updL f i (lN (dg 4294967296 c9 i))) H locs ls (by omega) (by omega) (by omega) (rL_up hf rfl) hP hD hS hl
  refine lv_lconst (v := lN 0) (pc := 0) hx hb dX6_becomeDifference_0 rfl ?_
  refine lv_lstore_n (pc := 1) (lv' := [(3, .long (lN 0)), (0, .ref w), (1, .ref o), (2, .ref w)]) hx hb dX6_becomeDifference_1 rfl hl (by decide) rfl (fun ls hl => ?_)
  refine lv_iconst (v := nI 0) (pc := 2) hx hb dX6_becomeDifference_2 kI_0 ?_
  refine lv_istore (pc := 3) (lv' := [(5, .int (nI 0)), (3, .long (lN 0)), (0, .ref w), (1, .ref o), (2, .ref w)]) hx hb dX6_becomeDifference_3 hl (by decide) rfl (fun ls hl => ?_)
  exact L5 _ 0 0 f _ _ ls (Nat.lt_succ_self _) (by omega) (cy_0 _ _ _).symm (rL_0 hf) hP hD hS hl
abbrev rm_r_isZero : Room := { frames := 0, cells := 0, slots := 0, locals := 0 }
set_option maxHeartbeats 4000000 in
set_option maxRecDepth 100000 in
theorem r_isZero (l : Launch) (D : va_G) (cI cL cC cB cZ cR : ClassId) (sz : Nat) (r lo hi : Nat) (sc ng : Int32) (hl9 : lo < 18446744073709551616) (hh9 : hi < 4294967296) : Met l yX5_isZero wsX5_isZero rm_r_isZero (xPc D vwCl (tyAll cI cL cC cB cZ cR) [.ref r] [(r, .inr (5, [.long (lN lo), .int (nI hi), .int sc, .int ng]))] sz) (va_Qi (fun (z : Int32) (_ : Unit) => z = nI (iz (lo + 18446744073709551616 * hi))) (xB D vwCl (tyAll cI cL cC cB cZ cR) (va_A [(r, .inr (5, [.long (lN lo), .int (nI hi), .int sc, .int ng]))] sz) (fun u : Unit => [(r, .inr (5, [.long (lN lo), .int (nI hi), .int sc, .int ng]))])) (va_A [(r, .inr (5, [.long (lN lo), .int (nI hi), .int sc, .int ng]))] sz)) 0 0 (va_A [(r, .inr (5, [.long (lN lo), .int (nI hi), .int sc, .int ng]))] sz) := by
  refine x_of (Qc := fun A => va_Qi (fun (z : Int32) (_ : Unit) => z = nI (iz (lo + 18446744073709551616 * hi))) (xB D vwCl (tyAll cI cL cC cB cZ cR) A (fun u : Unit => [(r, .inr (5, [.long (lN lo), .int (nI hi), .int sc, .int ng]))])) A) (by decide) rfl (Nat.le_of_ble_eq_true rfl) ?_
  intro p e s m args below meth c A H locs ls hx hb hr hts0 hown hlk hml hnm hP hK hD hN hA hS hl
  have hts : ∀ w ∈ wsA, w.before args s = true := fun w h => hts0 w (List.mem_cons_of_mem _ h)
  have hown : s.vm.findClass "WideDecimalDesk$Register" = some m.cls := hown
  have hl : lv_has ls 1 [(0, .ref r)] := hl
  refine lv_aload_n (pc := 0) hx hb dX5_isZero_0 rfl (lv_at hl 0 rfl) ?_
  refine va_get (D := D) (ci := 5) (v := .long (lN lo)) (C := RX5) (T := TX5) (N := 4) (pc := 1) hx hb hts in_X5 hown hK hP 0 rfl rfl 0 (by decide) (hts _ kw_32) (fun _ h9 => h9) rfl dX5_isZero_1 ?_
  refine lv_lconst (v := lN 0) (pc := 4) hx hb dX5_isZero_4 rfl ?_
  refine W.lcmp (pc := 5) hx hb dX5_isZero_5 ?_
  refine x_i (y := lg_cmp (lN lo) (lN 0)) rfl ?_
  refine lv_if_ne (tgt := 20) (pc := 6) hx hb dX5_isZero_6 (by decide) (fun h1 => ?_) (fun h1 => ?_)
  · refine lv_iconst (v := nI 0) (pc := 20) hx hb dX5_isZero_20 kI_0 ?_
    exact x_retz (pc := 21) rfl hx hb hr hlk () (congrArg nI (by first | exact rz_a hl9 hh9 h1 | exact rz_b hl9 hh9 h2 | exact rz_c hl9 hh9 h1 h2)) hP hK hD hS dX5_isZero_21
  · refine lv_aload_n (pc := 9) hx hb dX5_isZero_9 rfl (lv_at hl 0 rfl) ?_
    refine va_get (D := D) (ci := 5) (v := .int (nI hi)) (C := RX5) (T := TX5) (N := 4) (pc := 10) hx hb hts in_X5 hown hK hP 0 rfl rfl 1 (by decide) (hts _ kw_35) (fun _ h9 => h9) rfl dX5_isZero_10 ?_
    refine lv_if_ne (tgt := 20) (pc := 13) hx hb dX5_isZero_13 (by decide) (fun h2 => ?_) (fun h2 => ?_)
    · refine lv_iconst (v := nI 0) (pc := 20) hx hb dX5_isZero_20 kI_0 ?_
      exact x_retz (pc := 21) rfl hx hb hr hlk () (congrArg nI (by first | exact rz_a hl9 hh9 h1 | exact rz_b hl9 hh9 h2 | exact rz_c hl9 hh9 h1 h2)) hP hK hD hS dX5_isZero_21
    · refine lv_iconst (v := nI 1) (pc := 16) hx hb dX5_isZero_16 kI_1 ?_
      refine lv_goto (tgt := 21) (pc := 17) hx hb dX5_isZero_17 (by decide) ?_
      exact x_retz (pc := 21) rfl hx hb hr hlk () (congrArg nI (by first | exact rz_a hl9 hh9 h1 | exact rz_b hl9 hh9 h2 | exact rz_c hl9 hh9 h1 h2)) hP hK hD hS dX5_isZero_21
