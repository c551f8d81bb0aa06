abbrev rm_w_prod : Room := { frames := 1, cells := 0, slots := 0, locals := 21 }
set_option maxHeartbeats 4000000 in
set_option maxRecDepth 100000 in
theorem w_prod (l : Launch) (D : va_G) (cI cL cC cB cZ cR : ClassId) (sz : Nat) (w wa o oa x xa a b : Nat) (f g h : Nat → Int64) (hg : wR g a) (hh : wR h b) (ha : a < 4294967296 ^ 3) (hb9 : b < 4294967296 ^ 3) : Met l yX6_becomeProduct wsX6_becomeProduct rm_w_prod (xPc D vwCl (tyAll cI cL cC cB cZ cR) [.ref w, .ref o, .ref x] [(w, .inr (6, [.ref wa])), (wa, .inl (cL, 6, .inr (.inl f))), (o, .inr (6, [.ref oa])), (oa, .inl (cL, 6, .inr (.inl g))), (x, .inr (6, [.ref xa])), (xa, .inl (cL, 6, .inr (.inl h)))] sz) (va_Qv (fun u : Nat → Int64 => wR u (a * b)) (xB D vwCl (tyAll cI cL cC cB cZ cR) (va_A [(w, .inr (6, [.ref wa])), (wa, .inl (cL, 6, .inr (.inl f))), (o, .inr (6, [.ref oa])), (oa, .inl (cL, 6, .inr (.inl g))), (x, .inr (6, [.ref xa])), (xa, .inl (cL, 6, .inr (.inl h)))] sz) (fun u : (Nat → Int64) => [(w, .inr (6, [.ref wa])), (wa, .inl (cL, 6, .inr (.inl u))), (o, .inr (6, [.ref oa])), (oa, .inl (cL, 6, .inr (.inl g))), (x, .inr (6, [.ref xa])), (xa, .inl (cL, 6, .inr (.inl h)))])) (va_A [(w, .inr (6, [.ref wa])), (wa, .inl (cL, 6, .inr (.inl f))), (o, .inr (6, [.ref oa])), (oa, .inl (cL, 6, .inr (.inl g))), (x, .inr (6, [.ref xa])), (xa, .inl (cL, 6, .inr (.inl h)))] sz)) 0 0 (va_A [(w, .inr (6, [.ref wa])), (wa, .inl (cL, 6, .inr (.inl f))), (o, .inr (6, [.ref oa])), (oa, .inl (cL, 6, .inr (.inl g))), (x, .inr (6, [.ref xa])), (xa, .inl (cL, 6, .inr (.inl h)))] sz) := by
  refine x_of (Qc := fun A => va_Qv (fun u : Nat → Int64 => wR u (a * b)) (xB D vwCl (tyAll cI cL cC cB cZ cR) A (fun u : (Nat → Int64) => [(w, .inr (6, [.ref wa])), (wa, .inl (cL, 6, .inr (.inl u))), (o, .inr (6, [.ref oa])), (oa, .inl (cL, 6, .inr (.inl g))), (x, .inr (6, [.ref xa])), (xa, .inl (cL, 6, .inr (.inl h)))])) A) (by decide) rfl (Nat.le_of_ble_eq_true rfl) ?_
  intro p e s m args below meth c A H locs ls hx hb hr hts0 hown hlk hml hnm hP hK hD hN hA hS hl
  have hts : ∀ w ∈ wsA, w.before args s = true := fun w h => hts0 w (List.mem_cons_of_mem _ h)
  have hown : s.vm.findClass "WideDecimalDesk$Whole" = some m.cls := hown
  have hl : lv_has ls 9 [(0, .ref w), (1, .ref o), (2, .ref x)] := hl
  have L6 : ∀ (kk : Nat) (i : Nat) (f : (Nat → Int64)) (H : Heap) (locs : List Loc) (ls : Array Slot) (hk6 : 3 - i < kk) (hi : i ≤ 3) (hf : wR f (a % 4294967296 ^ i * b)) (hP : va_P D vwCl [(w, .inr (6, [.ref wa])), (wa, .inl (cL, 6, .inr (.inl f))), (o, .inr (6, [.ref oa])), (oa, .inl (cL, 6, .inr (.inl g))), (x, .inr (6, [.ref xa])), (xa, .inl (cL, 6, .inr (.inl h)))] H) (hD : va_D A [(w, .inr (6, [.ref wa])), (wa, .inl (cL, 6, .inr (.inl f))), (o, .inr (6, [.ref oa])), (oa, .inl (cL, 6, .inr (.inl g))), (x, .inr (6, [.ref xa])), (xa, .inl (cL, 6, .inr (.inl h)))]) (hS : va_S A s.heap H locs) (hl : lv_has ls 9 [(3, .int (nI i)), (0, .ref w), (1, .ref o), (2, .ref x)]), W p l e rm_w_prod s m args below meth c H locs 0 0 (MQ below (va_Qv (fun u : Nat → Int64 => wR u (a * b)) (xB D vwCl (tyAll cI cL cC cB cZ cR) A (fun u : (Nat → Int64) => [(w, .inr (6, [.ref wa])), (wa, .inl (cL, 6, .inr (.inl u))), (o, .inr (6, [.ref oa])), (oa, .inl (cL, 6, .inr (.inl g))), (x, .inr (6, [.ref xa])), (xa, .inl (cL, 6, .inr (.inl h)))])) A) args s 0 0 A) (F0 m 6 ls []) := by
    intro kk
    induction kk with
    | zero => intro i f H locs ls hk; exact absurd hk (Nat.not_lt_zero _)
    | succ kk ih6 =>
      intro i f H locs ls hk6 hi hf hP hD hS hl
      have L17 : ∀ (kk : Nat) (j : Nat) (k : Nat) (f : (Nat → Int64)) (H : Heap) (locs : List Loc) (ls : Array Slot) (hk17 : 3 - j < kk) (hi3 : i < 3) (hj : j ≤ 3) (hk1 : k < 4294967296) (hk : (a % 4294967296 ^ i * b / 4294967296 ^ i) / 4294967296 ^ j + k = ((a % 4294967296 ^ i * b / 4294967296 ^ i) + dg 4294967296 a i * (b % 4294967296 ^ j)) / 4294967296 ^ j) (hf1 : rL 6 f (mx (dg 4294967296 (a % 4294967296 ^ (i + 1) * b)) (dg 4294967296 (a % 4294967296 ^ i * b)) (i + j))) (hP : va_P D vwCl [(w, .inr (6, [.ref wa])), (wa, .inl (cL, 6, .inr (.inl f))), (o, .inr (6, [.ref oa])), (oa, .inl (cL, 6, .inr (.inl g))), (x, .inr (6, [.ref xa])), (xa, .inl (cL, 6, .inr (.inl h)))] H) (hD : va_D A [(w, .inr (6, [.ref wa])), (wa, .inl (cL, 6, .inr (.inl f))), (o, .inr (6, [.ref oa])), (oa, .inl (cL, 6, .inr (.inl g))), (x, .inr (6, [.ref xa])), (xa, .inl (cL, 6, .inr (.inl h)))]) (hS : va_S A s.heap H locs) (hl : lv_has ls 9 [(6, .int (nI j)), (4, .long (lN k)), (3, .int (nI i)), (0, .ref w), (1, .ref o), (2, .ref x)]), W p l e rm_w_prod s m args below meth c H locs 0 0 (MQ below (va_Qv (fun u : Nat → Int64 => wR u (a * b)) (xB D vwCl (tyAll cI cL cC cB cZ cR) A (fun u : (Nat → Int64) => [(w, .inr (6, [.ref wa])), (wa, .inl (cL, 6, .inr (.inl u))), (o, .inr (6, [.ref oa])), (oa, .inl (cL, 6, .inr (.inl g))), (x, .inr (6, [.ref xa])), (xa, .inl (cL, 6, .inr (.inl h)))])) A) args s 0 0 A) (F0 m 17 ls []) := by
        intro kk
        induction kk with
        | zero => intro j k f H locs ls hk; exact absurd hk (Nat.not_lt_zero _)
        | succ kk ih17 =>
          intro j k f H locs ls hk17 hi3 hj hk1 hk hf1 hP hD hS hl
          have q1 := dgW a i
          have q2 := dgW b j
          have q3 := dgW (a % 4294967296 ^ i * b / 4294967296 ^ i) j
          have q4 := ma_bd q1 q2 q3 hk1
          refine lv_iload (pc := 17) hx hb dX6_becomeProduct_17 (lv_at hl 0 rfl) ?_
          refine lv_iconst (v := nI 3) (pc := 19) hx hb dX6_becomeProduct_19 kI_3 ?_
          refine x_icmp_ge (tgt := 80) (pc := 20) hx hb (by omega) (by omega) dX6_becomeProduct_20 (by decide) (fun hc1 => ?_) (fun hc1 => ?_)
          · have hj3 : j = 3 := by omega
            rw [hj3] at hk hf1
            refine lv_aload_n (pc := 80) hx hb dX6_becomeProduct_80 rfl (lv_at hl 3 rfl) ?_
            refine va_get (D := D) (ci := 6) (v := .ref wa) (C := RX6) (T := TX6) (N := 1) (pc := 81) hx hb hts in_X6 hown hK hP 0 rfl rfl 0 (by decide) (hts _ kw_82) (fun _ h9 => h9) rfl dX6_becomeProduct_81 ?_
            refine lv_iload_n (pc := 84) hx hb dX6_becomeProduct_84 rfl (lv_at hl 2 rfl) ?_
            refine lv_iconst (v := nI 3) (pc := 85) hx hb dX6_becomeProduct_85 kI_3 ?_
            refine lv_iadd (pc := 86) hx hb dX6_becomeProduct_86 ?_
            refine x_i (y := nI (i + 3)) (nI_add _ _) ?_
            refine lv_lload (pc := 87) hx hb dX6_becomeProduct_87 (lv_at hl 1 rfl) ?_
            refine x_last (pc := 89) hx hb hK hP hD hS 1 1 rfl rfl (by omega) (by decide) dX6_becomeProduct_89 (fun H locs hP hD hS => ?_)
            have hP : va_P D vwCl [(w, .inr (6, [.ref wa])), (wa, .inl (cL, 6, .inr (.inl (vp_updL f (i + 3) (lN k))))), (o, .inr (6, [.ref oa])), (oa, .inl (cL, 6, .inr (.inl g))), (x, .inr (6, [.ref xa])), (xa, .inl (cL, 6, .inr (.inl h)))] H := hP
            have hD : va_D A [(w, .inr (6, [.ref wa])), (wa, .inl (cL, 6, .inr (.inl (vp_updL f (i + 3) (lN k))))), (o, .inr (6, [.ref oa])), (oa, .inl (cL, 6, .inr (.inl g))), (x, .inr (6, [.ref xa])), (xa, .inl (cL, 6, .inr (.inl h)))] := hD
            refine lv_iinc (k := 2) (v := nI (i + 1)) (pc := 90) (lv' := [(3, .int (nI (i + 1))), (6, .int (nI j)), (4, .long (lN k)), (0, .ref w), (1, .ref o), (2, .ref x)]) hx hb dX6_becomeProduct_90 hl rfl (x_inc i) (by decide) rfl (fun ls hl => ?_)
            refine lv_goto (tgt := 6) (pc := 93) hx hb dX6_becomeProduct_93 (by decide) ?_
            have hl := lv_sub (l' := [(3, .int (nI (i + 1))), (0, .ref w), (1, .ref o), (2, .ref x)]) hl [0, 3, 4, 5] rfl
            exact ih6 (i + 1) (vp_updL f (i + 3) (lN k)) H locs ls (by omega) (by omega) (ma_end (by decide) hb9 hk1 hk hf1) hP hD hS hl
          · refine lv_aload_n (pc := 23) hx hb dX6_becomeProduct_23 rfl (lv_at hl 4 rfl) ?_
            refine va_get (D := D) (ci := 6) (v := .ref oa) (C := RX6) (T := TX6) (N := 1) (pc := 24) hx hb hts in_X6 hown hK hP 2 rfl rfl 0 (by decide) (hts _ kw_82) (fun _ h9 => h9) rfl dX6_becomeProduct_24 ?_
            refine lv_iload_n (pc := 27) hx hb dX6_becomeProduct_27 rfl (lv_at hl 2 rfl) ?_
            refine x_lald (v := lN (dg 4294967296 a i)) (pc := 28) hx hb hK hP 3 1 rfl rfl (by omega) (by decide) (hg i (by omega)) dX6_becomeProduct_28 ?_
            refine lv_aload_n (pc := 29) hx hb dX6_becomeProduct_29 rfl (lv_at hl 5 rfl) ?_
            refine va_get (D := D) (ci := 6) (v := .ref xa) (C := RX6) (T := TX6) (N := 1) (pc := 30) hx hb hts in_X6 hown hK hP 4 rfl rfl 0 (by decide) (hts _ kw_82) (fun _ h9 => h9) rfl dX6_becomeProduct_30 ?_
            refine lv_iload (pc := 33) hx hb dX6_becomeProduct_33 (lv_at hl 0 rfl) ?_
            refine x_lald (v := lN (dg 4294967296 b j)) (pc := 35) hx hb hK hP 5 1 rfl rfl (by omega) (by decide) (hh j (by omega)) dX6_becomeProduct_35 ?_
            refine lv_lmul (pc := 36) hx hb dX6_becomeProduct_36 ?_
            refine x_l (y := lN ((dg 4294967296 a i) * (dg 4294967296 b j))) (lN_mul _ _) ?_
            refine lv_aload_n (pc := 37) hx hb dX6_becomeProduct_37 rfl (lv_at hl 3 rfl) ?_
            refine va_get (D := D) (ci := 6) (v := .ref wa) (C := RX6) (T := TX6) (N := 1) (pc := 38) hx hb hts in_X6 hown hK hP 0 rfl rfl 0 (by decide) (hts _ kw_82) (fun _ h9 => h9) rfl dX6_becomeProduct_38 ?_
            refine lv_iload_n (pc := 41) hx hb dX6_becomeProduct_41 rfl (lv_at hl 2 rfl) ?_
            refine lv_iload (pc := 42) hx hb dX6_becomeProduct_42 (lv_at hl 0 rfl) ?_
            refine lv_iadd (pc := 44) hx hb dX6_becomeProduct_44 ?_
            refine x_i (y := nI (i + j)) (nI_add _ _) ?_
            refine x_lald (v := lN (dg 4294967296 (a % 4294967296 ^ i * b / 4294967296 ^ i) j)) (pc := 45) hx hb hK hP 1 1 rfl rfl (by omega) (by decide) ((rL_ge hf1 (by omega) (Nat.le_refl _)).trans (congrArg lN (ma_hi 4294967296 _ i j))) dX6_becomeProduct_45 ?_
            refine lv_ladd (pc := 46) hx hb dX6_becomeProduct_46 ?_
            refine x_l (y := lN ((dg 4294967296 a i) * (dg 4294967296 b j) + dg 4294967296 (a % 4294967296 ^ i * b / 4294967296 ^ i) j)) (lN_add _ _) ?_
            refine lv_lload (pc := 47) hx hb dX6_becomeProduct_47 (lv_at hl 1 rfl) ?_
            refine lv_ladd (pc := 49) hx hb dX6_becomeProduct_49 ?_
            refine x_l (y := lN ((dg 4294967296 a i) * (dg 4294967296 b j) + dg 4294967296 (a % 4294967296 ^ i * b / 4294967296 ^ i) j + k)) (lN_add _ _) ?_
            refine lv_lstore (pc := 50) (lv' := [(7, .long (lN ((dg 4294967296 a i) * (dg 4294967296 b j) + dg 4294967296 (a % 4294967296 ^ i * b / 4294967296 ^ i) j + k))), (6, .int (nI j)), (4, .long (lN k)), (3, .int (nI i)), (0, .ref w), (1, .ref o), (2, .ref x)]) hx hb dX6_becomeProduct_50 hl (by decide) rfl (fun ls hl => ?_)
            refine lv_aload_n (pc := 52) hx hb dX6_becomeProduct_52 rfl (lv_at hl 4 rfl) ?_
            refine va_get (D := D) (ci := 6) (v := .ref wa) (C := RX6) (T := TX6) (N := 1) (pc := 53) hx hb hts in_X6 hown hK hP 0 rfl rfl 0 (by decide) (hts _ kw_82) (fun _ h9 => h9) rfl dX6_becomeProduct_53 ?_
            refine lv_iload_n (pc := 56) hx hb dX6_becomeProduct_56 rfl (lv_at hl 3 rfl) ?_
            refine lv_iload (pc := 57) hx hb dX6_becomeProduct_57 (lv_at hl 1 rfl) ?_
            refine lv_iadd (pc := 59) hx hb dX6_becomeProduct_59 ?_
            refine x_i (y := nI (i + j)) (nI_add _ _) ?_
            refine lv_lload (pc := 60) hx hb dX6_becomeProduct_60 (lv_at hl 0 rfl) ?_
            refine lv_ldc2 (v := (4294967295 : Int64)) (pc := 62) hx hb hown (hts _ kw_256) dX6_becomeProduct_62 ?_
            refine x_l (y := lN 4294967295) rfl ?_
            refine lv_land (pc := 65) hx hb dX6_becomeProduct_65 ?_
            refine x_l (y := lN (((dg 4294967296 a i) * (dg 4294967296 b j) + dg 4294967296 (a % 4294967296 ^ i * b / 4294967296 ^ i) j + k) % 4294967296)) (wM (by omega)) ?_
            refine x_last (pc := 66) hx hb hK hP hD hS 1 1 rfl rfl (by omega) (by decide) dX6_becomeProduct_66 (fun H locs hP hD hS => ?_)
            have hP : va_P D vwCl [(w, .inr (6, [.ref wa])), (wa, .inl (cL, 6, .inr (.inl (vp_updL f (i + j) (lN (((dg 4294967296 a i) * (dg 4294967296 b j) + dg 4294967296 (a % 4294967296 ^ i * b / 4294967296 ^ i) j + k) % 4294967296)))))), (o, .inr (6, [.ref oa])), (oa, .inl (cL, 6, .inr (.inl g))), (x, .inr (6, [.ref xa])), (xa, .inl (cL, 6, .inr (.inl h)))] H := hP
            have hD : va_D A [(w, .inr (6, [.ref wa])), (wa, .inl (cL, 6, .inr (.inl (vp_updL f (i + j) (lN (((dg 4294967296 a i) * (dg 4294967296 b j) + dg 4294967296 (a % 4294967296 ^ i * b / 4294967296 ^ i) j + k) % 4294967296)))))), (o, .inr (6, [.ref oa])), (oa, .inl (cL, 6, .inr (.inl g))), (x, .inr (6, [.ref xa])), (xa, .inl (cL, 6, .inr (.inl h)))] := hD
            refine lv_lload (pc := 67) hx hb dX6_becomeProduct_67 (lv_at hl 0 rfl) ?_
            refine lv_bipush (v := nI 32) (pc := 69) hx hb dX6_becomeProduct_69 (by decide +kernel) ?_
            refine lv_lushr (v := lN (((dg 4294967296 a i) * (dg 4294967296 b j) + dg 4294967296 (a % 4294967296 ^ i * b / 4294967296 ^ i) j + k) / 4294967296)) (pc := 71) hx hb dX6_becomeProduct_71 (wS (by omega)) ?_
            refine lv_lstore (pc := 72) (lv' := [(4, .long (lN (((dg 4294967296 a i) * (dg 4294967296 b j) + dg 4294967296 (a % 4294967296 ^ i * b / 4294967296 ^ i) j + k) / 4294967296))), (7, .long (lN ((dg 4294967296 a i) * (dg 4294967296 b j) + dg 4294967296 (a % 4294967296 ^ i * b / 4294967296 ^ i) j + k))), (6, .int (nI j)), (3, .int (nI i)), (0, .ref w), (1, .ref o), (2, .ref x)]) hx hb dX6_becomeProduct_72 hl (by decide) rfl (fun ls hl => ?_)
            refine lv_iinc (k := 2) (v := nI (j + 1)) (pc := 74) (lv' := [(6, .int (nI (j + 1))), (4, .long (lN (((dg 4294967296 a i) * (dg 4294967296 b j) + dg 4294967296 (a % 4294967296 ^ i * b / 4294967296 ^ i) j + k) / 4294967296))), (7, .long (lN ((dg 4294967296 a i) * (dg 4294967296 b j) + dg 4294967296 (a % 4294967296 ^ i * b / 4294967296 ^ i) j + k))), (3, .int (nI i)), (0, .ref w), (1, .ref o), (2, .ref x)]) hx hb dX6_becomeProduct_74 hl rfl (x_inc j) (by decide) rfl (fun ls hl => ?_)
            refine lv_goto (tgt := 17) (pc := 77) hx hb dX6_becomeProduct_77 (by decide) ?_
            have hl := lv_sub (l' := [(6, .int (nI (j + 1))), (4, .long (lN (((dg 4294967296 a i) * (dg 4294967296 b j) + dg 4294967296 (a % 4294967296 ^ i * b / 4294967296 ^ i) j + k) / 4294967296))), (3, .int (nI i)), (0, .ref w), (1, .ref o), (2, .ref x)]) hl [0, 1, 3, 4, 5, 6] rfl
            exact ih17 (j + 1) (((dg 4294967296 a i) * (dg 4294967296 b j) + dg 4294967296 (a % 4294967296 ^ i * b / 4294967296 ^ i) j + k) / 4294967296) (vp_updL f (i + j) (lN (((dg 4294967296 a i) * (dg 4294967296 b j) + dg 4294967296 (a % 4294967296 ^ i * b / 4294967296 ^ i) j + k) % 4294967296))) H locs ls (by omega) hi3 (by omega) (by omega) (ma_c (by decide) hk) (rL_up hf1 (congrArg lN (ma_dg (by decide) hk))) hP hD hS hl
      refine lv_iload_n (pc := 6) hx hb dX6_becomeProduct_6 rfl (lv_at hl 0 rfl) ?_
      refine lv_iconst (v := nI 3) (pc := 7) hx hb dX6_becomeProduct_7 kI_3 ?_
      refine x_icmp_ge (tgt := 96) (pc := 8) hx hb (by omega) (by omega) dX6_becomeProduct_8 (by decide) (fun hc => ?_) (fun hc => ?_)
      · exact x_retv (pc := 96) hx hb hr hlk f (wR_of hf (by rw [show i = 3 by omega, Nat.mod_eq_of_lt ha])) hP hK hD hS dX6_becomeProduct_96
      · refine lv_lconst (v := lN 0) (pc := 11) hx hb dX6_becomeProduct_11 rfl ?_
        refine lv_lstore (pc := 12) (lv' := [(4, .long (lN 0)), (3, .int (nI i)), (0, .ref w), (1, .ref o), (2, .ref x)]) hx hb dX6_becomeProduct_12 hl (by decide) rfl (fun ls hl => ?_)
        refine lv_iconst (v := nI 0) (pc := 14) hx hb dX6_becomeProduct_14 kI_0 ?_
        refine lv_istore (pc := 15) (lv' := [(6, .int (nI 0)), (4, .long (lN 0)), (3, .int (nI i)), (0, .ref w), (1, .ref o), (2, .ref x)]) hx hb dX6_becomeProduct_15 hl (by decide) rfl (fun ls hl => ?_)
        exact L17 _ 0 0 f _ _ ls (Nat.lt_succ_self _) (by omega) (by omega) (by omega) (by rw [Nat.pow_zero, Nat.mod_one, Nat.mul_zero, Nat.div_one, Nat.div_one]) (ma_st (by decide) hf) hP hD hS hl
  refine lv_aload_n (pc := 0) hx hb dX6_becomeProduct_0 rfl (lv_at hl 0 rfl) ?_
  refine x_Vv (pc := 1) (As := []) (rest := []) (b := w) (wr := [(o, .inr (6, [.ref oa])), (oa, .inl (cL, 6, .inr (.inl g))), (x, .inr (6, [.ref xa])), (xa, .inl (cL, 6, .inr (.inl h)))]) ⟨hx, hb, hml, hown, hts⟩ (w_zero l D cI cL cC cB cZ cR H.size w wa f ) ⟨callB_of 0 hts (x_good kw_250) rfl rfl rfl (hts _ kw_5) (hts _ kw_255) dc_X6_becomeZero ⟨Nat.le_of_ble_eq_true rfl, Nat.le_of_ble_eq_true rfl⟩, hts _ kw_248, hts _ kw_249⟩ (q0 := 0) rfl rfl rfl rfl hl.1 rfl (Nat.le_of_ble_eq_true rfl) dX6_becomeProduct_1 ⟨Nat.le_refl _, Nat.le_refl _⟩ hN hK hP hD hS hA [0, 1] [2, 3, 4, 5] rfl rfl (by decide) (by decide) (by decide) (fun u1 H locs h0 hP hD hS => ?_)
  obtain ⟨f0, rfl⟩ : ∃ z, z = u1 := ⟨_, rfl⟩
  have hP : va_P D vwCl [(o, .inr (6, [.ref oa])), (oa, .inl (cL, 6, .inr (.inl g))), (x, .inr (6, [.ref xa])), (xa, .inl (cL, 6, .inr (.inl h))), (w, .inr (6, [.ref wa])), (wa, .inl (cL, 6, .inr (.inl f0)))] H := hP
  have hD : va_D A [(o, .inr (6, [.ref oa])), (oa, .inl (cL, 6, .inr (.inl g))), (x, .inr (6, [.ref xa])), (xa, .inl (cL, 6, .inr (.inl h))), (w, .inr (6, [.ref wa])), (wa, .inl (cL, 6, .inr (.inl f0)))] := hD
  refine lv_iconst (v := nI 0) (pc := 4) hx hb dX6_becomeProduct_4 kI_0 ?_
  refine lv_istore_n (pc := 5) (lv' := [(3, .int (nI 0)), (0, .ref w), (1, .ref o), (2, .ref x)]) hx hb dX6_becomeProduct_5 rfl hl (by decide) rfl (fun ls hl => ?_)
  have hP := x_Psub (w := [(w, .inr (6, [.ref wa])), (wa, .inl (cL, 6, .inr (.inl f0))), (o, .inr (6, [.ref oa])), (oa, .inl (cL, 6, .inr (.inl g))), (x, .inr (6, [.ref xa])), (xa, .inl (cL, 6, .inr (.inl h)))]) (is := [4, 5, 0, 1, 2, 3]) hP rfl
  have hD := hD.sub (ws' := [(w, .inr (6, [.ref wa])), (wa, .inl (cL, 6, .inr (.inl f0))), (o, .inr (6, [.ref oa])), (oa, .inl (cL, 6, .inr (.inl g))), (x, .inr (6, [.ref xa])), (xa, .inl (cL, 6, .inr (.inl h)))]) [4, 5, 0, 1, 2, 3] (by decide) rfl
  exact L6 _ 0 f0 _ _ ls (Nat.lt_succ_self _) (by omega) (wR_of h0 (by rw [Nat.pow_zero, Nat.mod_one, Nat.zero_mul])) hP hD hS hl
abbrev rm_l_cd : Room := { frames := 0, cells := 0, slots := 0, locals := 0 }
set_option maxHeartbeats 4000000 in
set_option maxRecDepth 100000 in
theorem l_cd (l : Launch) (D : va_G) (cI cL cC cB cZ cR : ClassId) (sz : Nat) (x ra nn : Nat) (L : List Nat) (f : Nat → Int32) (j : Nat) (hf : oR f L) (hL : L.length ≤ nn) (hnn : nn < 2 ^ 31) (hj : j < 2 ^ 31) : Met l yX2_codeAt wsX2_codeAt rm_l_cd (xPc D vwCl (tyAll cI cL cC cB cZ cR) [.ref x, .int (nI j)] [(x, .inr (2, [.ref ra, .int (nI L.length)])), (ra, .inl (cC, nn, .inl f))] sz) (va_Qi (fun (z : Int32) (_ : Unit) => z = cdI L j) (xB D vwCl (tyAll cI cL cC cB cZ cR) (va_A [(x, .inr (2, [.ref ra, .int (nI L.length)])), (ra, .inl (cC, nn, .inl f))] sz) (fun u : Unit => [(x, .inr (2, [.ref ra, .int (nI L.length)])), (ra, .inl (cC, nn, .inl f))])) (va_A [(x, .inr (2, [.ref ra, .int (nI L.length)])), (ra, .inl (cC, nn, .inl f))] sz)) 0 0 (va_A [(x, .inr (2, [.ref ra, .int (nI L.length)])), (ra, .inl (cC, nn, .inl f))] sz) := by
  refine x_of (Qc := fun A => va_Qi (fun (z : Int32) (_ : Unit) => z = cdI L j) (xB D vwCl (tyAll cI cL cC cB cZ cR) A (fun u : Unit => [(x, .inr (2, [.ref ra, .int (nI L.length)])), (ra, .inl (cC, nn, .inl f))])) A) (by decide) rfl (Nat.le_of_ble_eq_true rfl) ?_
  intro p e s m args below meth c A H locs ls hx hb hr hts0 hown hlk hml hnm hP hK hD hN hA hS hl
  have hts : ∀ w ∈ wsA, w.before args s = true := fun w h => hts0 w (List.mem_cons_of_mem _ h)
  have hown : s.vm.findClass "WideDecimalDesk$Line" = some m.cls := hown
  have hl : lv_has ls 2 [(0, .ref x), (1, .int (nI j))] := hl
  refine lv_iload_n (pc := 0) hx hb dX2_codeAt_0 rfl (lv_at hl 1 rfl) ?_
  refine x_if_lt (tgt := 21) (pc := 1) hx hb (by omega) dX2_codeAt_1 (by decide) ?_
  refine lv_iload_n (pc := 4) hx hb dX2_codeAt_4 rfl (lv_at hl 1 rfl) ?_
  refine lv_aload_n (pc := 5) hx hb dX2_codeAt_5 rfl (lv_at hl 0 rfl) ?_
  refine va_get (D := D) (ci := 2) (v := .int (nI L.length)) (C := RX2) (T := TX2) (N := 2) (pc := 6) hx hb hts in_X2 hown hK hP 0 rfl rfl 1 (by decide) (hts _ kw_60) (fun _ h9 => h9) rfl dX2_codeAt_6 ?_
  refine x_icmp_ge (tgt := 21) (pc := 9) hx hb (by omega) (by omega) dX2_codeAt_9 (by decide) (fun k1 => ?_) (fun k1 => ?_)
  · refine lv_iconst (v := -1) (pc := 21) hx hb dX2_codeAt_21 kI_m1 ?_
    exact x_reti (pc := 22) hx hb hr hlk () (by first | exact cdI_y (by omega) | exact cdI_n (by omega)) hP hK hD hS dX2_codeAt_22
  · refine lv_aload_n (pc := 12) hx hb dX2_codeAt_12 rfl (lv_at hl 0 rfl) ?_
    refine va_get (D := D) (ci := 2) (v := .ref ra) (C := RX2) (T := TX2) (N := 2) (pc := 13) hx hb hts in_X2 hown hK hP 0 rfl rfl 0 (by decide) (hts _ kw_59) (fun _ h9 => h9) rfl dX2_codeAt_13 ?_
    refine lv_iload_n (pc := 16) hx hb dX2_codeAt_16 rfl (lv_at hl 1 rfl) ?_
    refine x_cald (v := nI (L.getD j 0)) (pc := 17) hx hb hK hP 1 2 rfl rfl (by omega) hnn (oR_at hf (by omega)) dX2_codeAt_17 ?_
    refine lv_goto (tgt := 22) (pc := 18) hx hb dX2_codeAt_18 (by decide) ?_
    exact x_reti (pc := 22) hx hb hr hlk () (by first | exact cdI_y (by omega) | exact cdI_n (by omega)) hP hK hD hS dX2_codeAt_22
abbrev rm_d_read : Room := { frames := 2, cells := 0, slots := 0, locals := 43 }
set_option maxHeartbeats 4000000 in
set_option maxRecDepth 100000 in
theorem d_read (l : Launch) (D : va_G) (cI cL cC cB cZ cR : ClassId) (sz : Nat) (d w wa x ra nn : Nat) (L : List Nat) (sc0 ng0 ct0 : Int32) (f : Nat → Int64) (g : Nat → Int32) (hg : oR g L) (hL : L.length ≤ nn) (hn40 : nn < 1000) (hch : ∀ y ∈ L, y < 128) : Met l yX1_read wsX1_read rm_d_read (xPc D vwCl (tyAll cI cL cC cB cZ cR) [.ref d, .ref x] [(d, .inr (1, [.ref w, .int sc0, .int ng0, .int ct0])), (w, .inr (6, [.ref wa])), (wa, .inl (cL, 6, .inr (.inl f))), (x, .inr (2, [.ref ra, .int (nI L.length)])), (ra, .inl (cC, nn, .inl g))] sz) (va_Qi (fun (r : Int32) (u : (Nat × (Nat → Int64))) => rdP L r u.1 u.2) (xB D vwCl (tyAll cI cL cC cB cZ cR) (va_A [(d, .inr (1, [.ref w, .int sc0, .int ng0, .int ct0])), (w, .inr (6, [.ref wa])), (wa, .inl (cL, 6, .inr (.inl f))), (x, .inr (2, [.ref ra, .int (nI L.length)])), (ra, .inl (cC, nn, .inl g))] sz) (fun u : (Nat × (Nat → Int64)) => [(d, .inr (1, [.ref w, .int (nI u.1), .int (nI (prN L)), .int (nI 0)])), (w, .inr (6, [.ref wa])), (wa, .inl (cL, 6, .inr (.inl u.2))), (x, .inr (2, [.ref ra, .int (nI L.length)])), (ra, .inl (cC, nn, .inl g))])) (va_A [(d, .inr (1, [.ref w, .int sc0, .int ng0, .int ct0])), (w, .inr (6, [.ref wa])), (wa, .inl (cL, 6, .inr (.inl f))), (x, .inr (2, [.ref ra, .int (nI L.length)])), (ra, .inl (cC, nn, .inl g))] sz)) 0 0 (va_A [(d, .inr (1, [.ref w, .int sc0, .int ng0, .int ct0])), (w, .inr (6, [.ref wa])), (wa, .inl (cL, 6, .inr (.inl f))), (x, .inr (2, [.ref ra, .int (nI L.length)])), (ra, .inl (cC, nn, .inl g))] sz) := by
  refine x_of (Qc := fun A => va_Qi (fun (r : Int32) (u : (Nat × (Nat → Int64))) => rdP L r u.1 u.2) (xB D vwCl (tyAll cI cL cC cB cZ cR) A (fun u : (Nat × (Nat → Int64)) => [(d, .inr (1, [.ref w, .int (nI u.1), .int (nI (prN L)), .int (nI 0)])), (w, .inr (6, [.ref wa])), (wa, .inl (cL, 6, .inr (.inl u.2))), (x, .inr (2, [.ref ra, .int (nI L.length)])), (ra, .inl (cC, nn, .inl g))])) A) (by decide) rfl (Nat.le_of_ble_eq_true rfl) ?_
  intro p e s m args below meth c A H locs ls hx hb hr hts0 hown hlk hml hnm hP hK hD hN hA hS hl
  have hts : ∀ w ∈ wsA, w.before args s = true := fun w h => hts0 w (List.mem_cons_of_mem _ h)
  have hown : s.vm.findClass "WideDecimalDesk$Draft" = some m.cls := hown
  have hl : lv_has ls 7 [(0, .ref d), (1, .ref x)] := hl
  have L38 : ∀ (kk : Nat) (k : Nat) (p9 : Nat) (n : Nat) (b : Nat) (v : Nat) (ds : Nat) (f : (Nat → Int64)) (H : Heap) (locs : List Loc) (ls : Array Slot) (hk38 : L.length - k < kk) (hk : k ≤ L.length) (hp : p9 ≤ 1) (hds : (n = 0 ∧ ds = 0) ∨ (n ≠ 0 ∧ ds = 1)) (hbk : b ≤ k) (hv : v < 10 ^ k) (hf : wR f v) (hpr : prA L = prF (L.drop k) n p9 b 1 v) (hP : va_P D vwCl [(d, .inr (1, [.ref w, .int (nI b), .int (nI (prN L)), .int (nI 0)])), (w, .inr (6, [.ref wa])), (wa, .inl (cL, 6, .inr (.inl f))), (x, .inr (2, [.ref ra, .int (nI L.length)])), (ra, .inl (cC, nn, .inl g))] H) (hD : va_D A [(d, .inr (1, [.ref w, .int (nI b), .int (nI (prN L)), .int (nI 0)])), (w, .inr (6, [.ref wa])), (wa, .inl (cL, 6, .inr (.inl f))), (x, .inr (2, [.ref ra, .int (nI L.length)])), (ra, .inl (cC, nn, .inl g))]) (hS : va_S A s.heap H locs) (hl : lv_has ls 7 [(5, .int (nI k)), (4, .int (nI ds)), (3, .int (nI p9)), (2, .int (nI (prN L))), (0, .ref d), (1, .ref x)]), W p l e rm_d_read s m args below meth c H locs 0 0 (MQ below (va_Qi (fun (r : Int32) (u : (Nat × (Nat → Int64))) => rdP L r u.1 u.2) (xB D vwCl (tyAll cI cL cC cB cZ cR) A (fun u : (Nat × (Nat → Int64)) => [(d, .inr (1, [.ref w, .int (nI u.1), .int (nI (prN L)), .int (nI 0)])), (w, .inr (6, [.ref wa])), (wa, .inl (cL, 6, .inr (.inl u.2))), (x, .inr (2, [.ref ra, .int (nI L.length)])), (ra, .inl (cC, nn, .inl g))])) A) args s 0 0 A) (F0 m 38 ls []) := by
    intro kk
    induction kk with
    | zero => intro k p9 n b v ds f H locs ls hk; exact absurd hk (Nat.not_lt_zero _)
    | succ kk ih38 =>
      intro k p9 n b v ds f H locs ls hk38 hk hp hds hbk hv hf hpr hP hD hS hl
      have hck := getD_lt (by decide) hch k
      refine lv_iload (pc := 38) hx hb dX1_read_38 (lv_at hl 0 rfl) ?_
      refine lv_aload_n (pc := 40) hx hb dX1_read_40 rfl (lv_at hl 5 rfl) ?_
      refine va_getN (D := D) (ci := 2) (v := .int (nI L.length)) (C := RX2) (T := TX2) (N := 2) (pc := 41) hx hb hts in_X2 hown hK hP 3 rfl rfl 1 (by decide) (va_Nw.use rfl (hN _ kn_62)) (fun _ h9 => h9) rfl dX1_read_41 ?_
      refine x_icmp_ge (tgt := 129) (pc := 44) hx hb (by omega) (by omega) dX1_read_44 (by decide) (fun hc => ?_) (fun hc => ?_)
      · refine lv_iload (pc := 129) hx hb dX1_read_129 (lv_at hl 1 rfl) ?_
        exact x_retz (pc := 131) (x_nz (by omega)) hx hb hr hlk (b, f) (rdP_e (by omega) hp hds hpr hf hv hbk) hP hK hD hS dX1_read_131
      · refine lv_aload_n (pc := 47) hx hb dX1_read_47 rfl (lv_at hl 5 rfl) ?_
        refine lv_iload (pc := 48) hx hb dX1_read_48 (lv_at hl 0 rfl) ?_
        refine x_Vi (pc := 50) (As := [.int (nI k)]) (rest := []) (b := x) (wr := [(d, .inr (1, [.ref w, .int (nI b), .int (nI (prN L)), .int (nI 0)])), (w, .inr (6, [.ref wa])), (wa, .inl (cL, 6, .inr (.inl f)))]) ⟨hx, hb, hml, hown, hts⟩ (l_at l D cI cL cC cB cZ cR H.size x ra nn L g k hg hL (by omega) hc) ⟨callB_of 1 hts (x_good kw_439) rfl rfl rfl (hts _ kw_3) (hts _ kw_599) dc_X2_codeAt ⟨Nat.le_of_ble_eq_true rfl, Nat.le_of_ble_eq_true rfl⟩, hts _ kw_437, hts _ kw_438⟩ (q0 := 3) rfl rfl rfl rfl hl.1 rfl (Nat.le_of_ble_eq_true rfl) dX1_read_50 ⟨Nat.le_refl _, Nat.le_refl _⟩ hN hK hP hD hS hA [3, 4] [0, 1, 2] rfl rfl (by decide) (by decide) (by decide) (fun r50 u50 H locs q50 hP hD hS => ?_)
        have hP : va_P D vwCl [(d, .inr (1, [.ref w, .int (nI b), .int (nI (prN L)), .int (nI 0)])), (w, .inr (6, [.ref wa])), (wa, .inl (cL, 6, .inr (.inl f))), (x, .inr (2, [.ref ra, .int (nI L.length)])), (ra, .inl (cC, nn, .inl g))] H := hP
        have hD : va_D A [(d, .inr (1, [.ref w, .int (nI b), .int (nI (prN L)), .int (nI 0)])), (w, .inr (6, [.ref wa])), (wa, .inl (cL, 6, .inr (.inl f))), (x, .inr (2, [.ref ra, .int (nI L.length)])), (ra, .inl (cC, nn, .inl g))] := hD
        obtain rfl := q50
        refine lv_istore (pc := 53) (lv' := [(6, .int (nI (L.getD k 0))), (5, .int (nI k)), (4, .int (nI ds)), (3, .int (nI p9)), (2, .int (nI (prN L))), (0, .ref d), (1, .ref x)]) hx hb dX1_read_53 hl (by decide) rfl (fun ls hl => ?_)
        refine lv_iload (pc := 55) hx hb dX1_read_55 (lv_at hl 0 rfl) ?_
        refine lv_bipush (v := nI 48) (pc := 57) hx hb dX1_read_57 (by decide +kernel) ?_
        refine x_icmp_lt (tgt := 105) (pc := 59) hx hb (by omega) (by omega) dX1_read_59 (by decide) (fun k1 => ?_) (fun k1 => ?_)
        · refine lv_iload (pc := 105) hx hb dX1_read_105 (lv_at hl 0 rfl) ?_
          refine lv_bipush (v := nI 46) (pc := 107) hx hb dX1_read_107 (by decide +kernel) ?_
          refine x_icmp_ne (tgt := 121) (pc := 109) hx hb (by omega) (by omega) dX1_read_109 (by decide) (fun k5 => ?_) (fun k5 => ?_)
          · refine lv_iconst (v := nI 0) (pc := 121) hx hb dX1_read_121 kI_0 ?_
            exact x_retz (pc := 122) rfl hx hb hr hlk (b, f) (rdP_n (prR_bad hc hp (by omega) hpr (by omega))) hP hK hD hS dX1_read_122
          · refine lv_iload_n (pc := 112) hx hb dX1_read_112 rfl (lv_at hl 3 rfl) ?_
            refine x_if_ne (tgt := 121) (pc := 113) hx hb (by omega) dX1_read_113 (by decide) (fun k6 => ?_) (fun k6 => ?_)
            · refine lv_iconst (v := nI 0) (pc := 121) hx hb dX1_read_121 kI_0 ?_
              exact x_retz (pc := 122) rfl hx hb hr hlk (b, f) (rdP_n (prR_bad hc hp (by omega) hpr (by omega))) hP hK hD hS dX1_read_122
            · refine lv_iconst (v := nI 1) (pc := 116) hx hb dX1_read_116 kI_1 ?_
              refine x_i (y := nI (p9 + 1)) (congrArg nI (by omega)) ?_
              refine lv_istore_n (pc := 117) (lv' := [(3, .int (nI (p9 + 1))), (6, .int (nI (L.getD k 0))), (5, .int (nI k)), (4, .int (nI ds)), (2, .int (nI (prN L))), (0, .ref d), (1, .ref x)]) hx hb dX1_read_117 rfl hl (by decide) rfl (fun ls hl => ?_)
              refine lv_goto (tgt := 123) (pc := 118) hx hb dX1_read_118 (by decide) ?_
              refine lv_iinc (k := 2) (v := nI (k + 1)) (pc := 123) (lv' := [(5, .int (nI (k + 1))), (3, .int (nI (p9 + 1))), (6, .int (nI (L.getD k 0))), (4, .int (nI ds)), (2, .int (nI (prN L))), (0, .ref d), (1, .ref x)]) hx hb dX1_read_123 hl rfl (x_inc k) (by decide) rfl (fun ls hl => ?_)
              refine lv_goto (tgt := 38) (pc := 126) hx hb dX1_read_126 (by decide) ?_
              have hl := lv_sub (l' := [(5, .int (nI (k + 1))), (4, .int (nI ds)), (3, .int (nI (p9 + 1))), (2, .int (nI (prN L))), (0, .ref d), (1, .ref x)]) hl [0, 3, 1, 4, 5, 6] rfl
              exact ih38 (k + 1) (p9 + 1) n b v ds f H locs ls (by omega) (by omega) (by omega) (by omega) (by omega) (by first | exact pr_num hv (by omega) | exact Nat.lt_of_lt_of_le hv (pw_le (by omega))) (by first | exact wR_of h1 (by omega) | exact hf) (by first | exact hpr.trans (prF_d hc (by omega)) | exact hpr.trans (prF_o2 hc (by omega) (by rw [if_pos k5]))) hP hD hS hl
        · refine lv_iload (pc := 62) hx hb dX1_read_62 (lv_at hl 0 rfl) ?_
          refine lv_bipush (v := nI 57) (pc := 64) hx hb dX1_read_64 (by decide +kernel) ?_
          refine x_icmp_gt (tgt := 105) (pc := 66) hx hb (by omega) (by omega) dX1_read_66 (by decide) (fun k2 => ?_) (fun k2 => ?_)
          · refine lv_iload (pc := 105) hx hb dX1_read_105 (lv_at hl 0 rfl) ?_
            refine lv_bipush (v := nI 46) (pc := 107) hx hb dX1_read_107 (by decide +kernel) ?_
            refine x_icmp_ne (tgt := 121) (pc := 109) hx hb (by omega) (by omega) dX1_read_109 (by decide) (fun k5 => ?_) (fun k5 => ?_)
            · refine lv_iconst (v := nI 0) (pc := 121) hx hb dX1_read_121 kI_0 ?_
              exact x_retz (pc := 122) rfl hx hb hr hlk (b, f) (rdP_n (prR_bad hc hp (by omega) hpr (by omega))) hP hK hD hS dX1_read_122
            · refine lv_iload_n (pc := 112) hx hb dX1_read_112 rfl (lv_at hl 3 rfl) ?_
              refine x_if_ne (tgt := 121) (pc := 113) hx hb (by omega) dX1_read_113 (by decide) (fun k6 => ?_) (fun k6 => ?_)
              · refine lv_iconst (v := nI 0) (pc := 121) hx hb dX1_read_121 kI_0 ?_
                exact x_retz (pc := 122) rfl hx hb hr hlk (b, f) (rdP_n (prR_bad hc hp (by omega) hpr (by omega))) hP hK hD hS dX1_read_122
              · refine lv_iconst (v := nI 1) (pc := 116) hx hb dX1_read_116 kI_1 ?_
                refine x_i (y := nI (p9 + 1)) (congrArg nI (by omega)) ?_
                refine lv_istore_n (pc := 117) (lv' := [(3, .int (nI (p9 + 1))), (6, .int (nI (L.getD k 0))), (5, .int (nI k)), (4, .int (nI ds)), (2, .int (nI (prN L))), (0, .ref d), (1, .ref x)]) hx hb dX1_read_117 rfl hl (by decide) rfl (fun ls hl => ?_)
                refine lv_goto (tgt := 123) (pc := 118) hx hb dX1_read_118 (by decide) ?_
                refine lv_iinc (k := 2) (v := nI (k + 1)) (pc := 123) (lv' := [(5, .int (nI (k + 1))), (3, .int (nI (p9 + 1))), (6, .int (nI (L.getD k 0))), (4, .int (nI ds)), (2, .int (nI (prN L))), (0, .ref d), (1, .ref x)]) hx hb dX1_read_123 hl rfl (x_inc k) (by decide) rfl (fun ls hl => ?_)
                refine lv_goto (tgt := 38) (pc := 126) hx hb dX1_read_126 (by decide) ?_
                have hl := lv_sub (l' := [(5, .int (nI (k + 1))), (4, .int (nI ds)), (3, .int (nI (p9 + 1))), (2, .int (nI (prN L))), (0, .ref d), (1, .ref x)]) hl [0, 3, 1, 4, 5, 6] rfl
                exact ih38 (k + 1) (p9 + 1) n b v ds f H locs ls (by omega) (by omega) (by omega) (by omega) (by omega) (by first | exact pr_num hv (by omega) | exact Nat.lt_of_lt_of_le hv (pw_le (by omega))) (by first | exact wR_of h1 (by omega) | exact hf) (by first | exact hpr.trans (prF_d hc (by omega)) | exact hpr.trans (prF_o2 hc (by omega) (by rw [if_pos k5]))) hP hD hS hl
          · refine lv_aload_n (pc := 69) hx hb dX1_read_69 rfl (lv_at hl 5 rfl) ?_
            refine va_get (D := D) (ci := 1) (v := .ref w) (C := RX1) (T := TX1) (N := 4) (pc := 70) hx hb hts in_X1 hown hK hP 0 rfl rfl 0 (by decide) (hts _ kw_87) (fun _ h9 => h9) rfl dX1_read_70 ?_
            refine lv_iload (pc := 73) hx hb dX1_read_73 (lv_at hl 0 rfl) ?_
            refine lv_bipush (v := nI 48) (pc := 75) hx hb dX1_read_75 (by decide +kernel) ?_
            refine lv_isub (pc := 77) hx hb dX1_read_77 ?_
            refine x_i (y := nI (L.getD k 0 - 48)) (pk_sub (by omega)) ?_
            refine x_Vv (pc := 78) (As := [.int (nI (L.getD k 0 - 48))]) (rest := []) (b := w) (wr := [(d, .inr (1, [.ref w, .int (nI b), .int (nI (prN L)), .int (nI 0)])), (x, .inr (2, [.ref ra, .int (nI L.length)])), (ra, .inl (cC, nn, .inl g))]) ⟨hx, hb, hml, hown, hts⟩ (w_append l D cI cL cC cB cZ cR H.size w wa v (L.getD k 0 - 48) f hf (by omega)) ⟨callB_of 1 hts (x_good kw_264) rfl rfl rfl (hts _ kw_5) (hts _ kw_261) dc_X6_appendDigit ⟨Nat.le_of_ble_eq_true rfl, Nat.le_of_ble_eq_true rfl⟩, hts _ kw_262, hts _ kw_263⟩ (q0 := 1) rfl rfl rfl rfl hl.1 rfl (Nat.le_of_ble_eq_true rfl) dX1_read_78 ⟨Nat.le_refl _, Nat.le_refl _⟩ hN hK hP hD hS hA [1, 2] [0, 3, 4] rfl rfl (by decide) (by decide) (by decide) (fun u78 H locs h1 hP hD hS => ?_)
            obtain ⟨f1, rfl⟩ : ∃ z, z = u78 := ⟨_, rfl⟩
            have hP : va_P D vwCl [(d, .inr (1, [.ref w, .int (nI b), .int (nI (prN L)), .int (nI 0)])), (x, .inr (2, [.ref ra, .int (nI L.length)])), (ra, .inl (cC, nn, .inl g)), (w, .inr (6, [.ref wa])), (wa, .inl (cL, 6, .inr (.inl f1)))] H := hP
            have hD : va_D A [(d, .inr (1, [.ref w, .int (nI b), .int (nI (prN L)), .int (nI 0)])), (x, .inr (2, [.ref ra, .int (nI L.length)])), (ra, .inl (cC, nn, .inl g)), (w, .inr (6, [.ref wa])), (wa, .inl (cL, 6, .inr (.inl f1)))] := hD
            refine lv_aload_n (pc := 81) hx hb dX1_read_81 rfl (lv_at hl 5 rfl) ?_
            refine lv_dup (pc := 82) hx hb dX1_read_82 rfl ?_
            refine va_get (D := D) (ci := 1) (v := .int (nI b)) (C := RX1) (T := TX1) (N := 4) (pc := 83) hx hb hts in_X1 hown hK hP 0 rfl rfl 1 (by decide) (hts _ kw_89) (fun _ h9 => h9) rfl dX1_read_83 ?_
            refine lv_iload_n (pc := 86) hx hb dX1_read_86 rfl (lv_at hl 3 rfl) ?_
            refine x_if_eq (tgt := 94) (pc := 87) hx hb (by omega) dX1_read_87 (by decide) (fun k3 => ?_) (fun k3 => ?_)
            · refine lv_iconst (v := nI 0) (pc := 94) hx hb dX1_read_94 kI_0 ?_
              refine x_i (y := nI p9) (congrArg nI (by omega)) ?_
              refine lv_iadd (pc := 95) hx hb dX1_read_95 ?_
              refine x_i (y := nI (b + p9)) (nI_add _ _) ?_
              refine va_put (D := D) (ci := 1) (v := .int (nI (b + p9))) (ty := .int) (C := RX1) (T := TX1) (N := 4) (pc := 96) hx hb hts in_X1 tyX1 ty_X1 nm_X1 hown hK hP hD hS 0 rfl rfl 1 (by decide) (hts _ kw_89) (fun _ h9 => h9) rfl (by decide +kernel) rfl rfl (Nat.le_of_ble_eq_true rfl) dX1_read_96 (fun H locs hP hD hS => ?_)
              have hP : va_P D vwCl [(d, .inr (1, [.ref w, .int (nI (b + p9)), .int (nI (prN L)), .int (nI 0)])), (x, .inr (2, [.ref ra, .int (nI L.length)])), (ra, .inl (cC, nn, .inl g)), (w, .inr (6, [.ref wa])), (wa, .inl (cL, 6, .inr (.inl f1)))] H := hP
              have hD : va_D A [(d, .inr (1, [.ref w, .int (nI (b + p9)), .int (nI (prN L)), .int (nI 0)])), (x, .inr (2, [.ref ra, .int (nI L.length)])), (ra, .inl (cC, nn, .inl g)), (w, .inr (6, [.ref wa])), (wa, .inl (cL, 6, .inr (.inl f1)))] := hD
              refine lv_iconst (v := nI 1) (pc := 99) hx hb dX1_read_99 kI_1 ?_
              refine lv_istore (pc := 100) (lv' := [(4, .int (nI 1)), (6, .int (nI (L.getD k 0))), (5, .int (nI k)), (3, .int (nI p9)), (2, .int (nI (prN L))), (0, .ref d), (1, .ref x)]) hx hb dX1_read_100 hl (by decide) rfl (fun ls hl => ?_)
              refine lv_goto (tgt := 123) (pc := 102) hx hb dX1_read_102 (by decide) ?_
              refine lv_iinc (k := 2) (v := nI (k + 1)) (pc := 123) (lv' := [(5, .int (nI (k + 1))), (4, .int (nI 1)), (6, .int (nI (L.getD k 0))), (3, .int (nI p9)), (2, .int (nI (prN L))), (0, .ref d), (1, .ref x)]) hx hb dX1_read_123 hl rfl (x_inc k) (by decide) rfl (fun ls hl => ?_)
              refine lv_goto (tgt := 38) (pc := 126) hx hb dX1_read_126 (by decide) ?_
              have hP := x_Psub (w := [(d, .inr (1, [.ref w, .int (nI (b + p9)), .int (nI (prN L)), .int (nI 0)])), (w, .inr (6, [.ref wa])), (wa, .inl (cL, 6, .inr (.inl f1))), (x, .inr (2, [.ref ra, .int (nI L.length)])), (ra, .inl (cC, nn, .inl g))]) (is := [0, 3, 4, 1, 2]) hP rfl
              have hD := hD.sub (ws' := [(d, .inr (1, [.ref w, .int (nI (b + p9)), .int (nI (prN L)), .int (nI 0)])), (w, .inr (6, [.ref wa])), (wa, .inl (cL, 6, .inr (.inl f1))), (x, .inr (2, [.ref ra, .int (nI L.length)])), (ra, .inl (cC, nn, .inl g))]) [0, 3, 4, 1, 2] (by decide) rfl
              have hl := lv_sub (l' := [(5, .int (nI (k + 1))), (4, .int (nI 1)), (3, .int (nI p9)), (2, .int (nI (prN L))), (0, .ref d), (1, .ref x)]) hl [0, 1, 3, 4, 5, 6] rfl
              exact ih38 (k + 1) p9 (n + 1) (b + p9) (v * 10 + (L.getD k 0 - 48)) 1 f1 H locs ls (by omega) (by omega) (by omega) (by omega) (by omega) (by first | exact pr_num hv (by omega) | exact Nat.lt_of_lt_of_le hv (pw_le (by omega))) (by first | exact wR_of h1 (by omega) | exact hf) (by first | exact hpr.trans (prF_d hc (by omega)) | exact hpr.trans (prF_o2 hc (by omega) (by rw [if_pos k5]))) hP hD hS hl
            · refine lv_iconst (v := nI 1) (pc := 90) hx hb dX1_read_90 kI_1 ?_
              refine x_i (y := nI p9) (congrArg nI (by omega)) ?_
              refine lv_goto (tgt := 95) (pc := 91) hx hb dX1_read_91 (by decide) ?_
              refine lv_iadd (pc := 95) hx hb dX1_read_95 ?_
              refine x_i (y := nI (b + p9)) (nI_add _ _) ?_
              refine va_put (D := D) (ci := 1) (v := .int (nI (b + p9))) (ty := .int) (C := RX1) (T := TX1) (N := 4) (pc := 96) hx hb hts in_X1 tyX1 ty_X1 nm_X1 hown hK hP hD hS 0 rfl rfl 1 (by decide) (hts _ kw_89) (fun _ h9 => h9) rfl (by decide +kernel) rfl rfl (Nat.le_of_ble_eq_true rfl) dX1_read_96 (fun H locs hP hD hS => ?_)
              have hP : va_P D vwCl [(d, .inr (1, [.ref w, .int (nI (b + p9)), .int (nI (prN L)), .int (nI 0)])), (x, .inr (2, [.ref ra, .int (nI L.length)])), (ra, .inl (cC, nn, .inl g)), (w, .inr (6, [.ref wa])), (wa, .inl (cL, 6, .inr (.inl f1)))] H := hP
              have hD : va_D A [(d, .inr (1, [.ref w, .int (nI (b + p9)), .int (nI (prN L)), .int (nI 0)])), (x, .inr (2, [.ref ra, .int (nI L.length)])), (ra, .inl (cC, nn, .inl g)), (w, .inr (6, [.ref wa])), (wa, .inl (cL, 6, .inr (.inl f1)))] := hD
              refine lv_iconst (v := nI 1) (pc := 99) hx hb dX1_read_99 kI_1 ?_
              refine lv_istore (pc := 100) (lv' := [(4, .int (nI 1)), (6, .int (nI (L.getD k 0))), (5, .int (nI k)), (3, .int (nI p9)), (2, .int (nI (prN L))), (0, .ref d), (1, .ref x)]) hx hb dX1_read_100 hl (by decide) rfl (fun ls hl => ?_)
              refine lv_goto (tgt := 123) (pc := 102) hx hb dX1_read_102 (by decide) ?_
              refine lv_iinc (k := 2) (v := nI (k + 1)) (pc := 123) (lv' := [(5, .int (nI (k + 1))), (4, .int (nI 1)), (6, .int (nI (L.getD k 0))), (3, .int (nI p9)), (2, .int (nI (prN L))), (0, .ref d), (1, .ref x)]) hx hb dX1_read_123 hl rfl (x_inc k) (by decide) rfl (fun ls hl => ?_)
              refine lv_goto (tgt := 38) (pc := 126) hx hb dX1_read_126 (by decide) ?_
              have hP := x_Psub (w := [(d, .inr (1, [.ref w, .int (nI (b + p9)), .int (nI (prN L)), .int (nI 0)])), (w, .inr (6, [.ref wa])), (wa, .inl (cL, 6, .inr (.inl f1))), (x, .inr (2, [.ref ra, .int (nI L.length)])), (ra, .inl (cC, nn, .inl g))]) (is := [0, 3, 4, 1, 2]) hP rfl
              have hD := hD.sub (ws' := [(d, .inr (1, [.ref w, .int (nI (b + p9)), .int (nI (prN L)), .int (nI 0)])), (w, .inr (6, [.ref wa])), (wa, .inl (cL, 6, .inr (.inl f1))), (x, .inr (2, [.ref ra, .int (nI L.length)])), (ra, .inl (cC, nn, .inl g))]) [0, 3, 4, 1, 2] (by decide) rfl
              have hl := lv_sub (l' := [(5, .int (nI (k + 1))), (4, .int (nI 1)), (3, .int (nI p9)), (2, .int (nI (prN L))), (0, .ref d), (1, .ref x)]) hl [0, 1, 3, 4, 5, 6] rfl
              exact ih38 (k + 1) p9 (n + 1) (b + p9) (v * 10 + (L.getD k 0 - 48)) 1 f1 H locs ls (by omega) (by omega) (by omega) (by omega) (by omega) (by first | exact pr_num hv (by omega) | exact Nat.lt_of_lt_of_le hv (pw_le (by omega))) (by first | exact wR_of h1 (by omega) | exact hf) (by first | exact hpr.trans (prF_d hc (by omega)) | exact hpr.trans (prF_o2 hc (by omega) (by rw [if_pos k5]))) hP hD hS hl
  have L16 : ∀  (H : Heap) (locs : List Loc) (ls : Array Slot)  (hP : va_P D vwCl [(d, .inr (1, [.ref w, .int sc0, .int ng0, .int ct0])), (w, .inr (6, [.ref wa])), (wa, .inl (cL, 6, .inr (.inl f))), (x, .inr (2, [.ref ra, .int (nI L.length)])), (ra, .inl (cC, nn, .inl g))] H) (hD : va_D A [(d, .inr (1, [.ref w, .int sc0, .int ng0, .int ct0])), (w, .inr (6, [.ref wa])), (wa, .inl (cL, 6, .inr (.inl f))), (x, .inr (2, [.ref ra, .int (nI L.length)])), (ra, .inl (cC, nn, .inl g))]) (hS : va_S A s.heap H locs) (hl : lv_has ls 7 [(2, .int (nI (prN L))), (0, .ref d), (1, .ref x)]), W p l e rm_d_read s m args below meth c H locs 0 0 (MQ below (va_Qi (fun (r : Int32) (u : (Nat × (Nat → Int64))) => rdP L r u.1 u.2) (xB D vwCl (tyAll cI cL cC cB cZ cR) A (fun u : (Nat × (Nat → Int64)) => [(d, .inr (1, [.ref w, .int (nI u.1), .int (nI (prN L)), .int (nI 0)])), (w, .inr (6, [.ref wa])), (wa, .inl (cL, 6, .inr (.inl u.2))), (x, .inr (2, [.ref ra, .int (nI L.length)])), (ra, .inl (cC, nn, .inl g))])) A) args s 0 0 A) (F0 m 16 ls []) := by
    intro  H locs ls  hP hD hS hl
    have hp1 : prN L ≤ 1 := by unfold prN; split <;> omega
    have hp2 : prN L ≤ L.length := by unfold prN; split <;> omega
    refine lv_aload_n (pc := 16) hx hb dX1_read_16 rfl (lv_at hl 1 rfl) ?_
    refine lv_iconst (v := nI 0) (pc := 17) hx hb dX1_read_17 kI_0 ?_
    refine lv_iload_n (pc := 18) hx hb dX1_read_18 rfl (lv_at hl 0 rfl) ?_
    refine x_Vv (pc := 19) (As := [.int (nI 0), .int (nI (prN L))]) (rest := []) (b := d) (wr := [(x, .inr (2, [.ref ra, .int (nI L.length)])), (ra, .inl (cC, nn, .inl g))]) ⟨hx, hb, hml, hown, hts⟩ (d_begin l D cI cL cC cB cZ cR H.size d w wa 0 (prN L) sc0 ng0 ct0 f hp1) ⟨callB_of 2 hts (x_good kw_246) rfl rfl rfl (hts _ kw_4) (hts _ kw_243) dc_X1_begin ⟨Nat.le_of_ble_eq_true rfl, Nat.le_of_ble_eq_true rfl⟩, hts _ kw_244, hts _ kw_245⟩ (q0 := 0) rfl rfl rfl rfl hl.1 rfl (Nat.le_of_ble_eq_true rfl) dX1_read_19 ⟨Nat.le_refl _, Nat.le_refl _⟩ hN hK hP hD hS hA [0, 1, 2] [3, 4] rfl rfl (by decide) (by decide) (by decide) (fun u19 H locs h0 hP hD hS => ?_)
    obtain ⟨f0, rfl⟩ : ∃ z, z = u19 := ⟨_, rfl⟩
    have hP : va_P D vwCl [(x, .inr (2, [.ref ra, .int (nI L.length)])), (ra, .inl (cC, nn, .inl g)), (d, .inr (1, [.ref w, .int (nI 0), .int (nI (prN L)), .int (nI 0)])), (w, .inr (6, [.ref wa])), (wa, .inl (cL, 6, .inr (.inl f0)))] H := hP
    have hD : va_D A [(x, .inr (2, [.ref ra, .int (nI L.length)])), (ra, .inl (cC, nn, .inl g)), (d, .inr (1, [.ref w, .int (nI 0), .int (nI (prN L)), .int (nI 0)])), (w, .inr (6, [.ref wa])), (wa, .inl (cL, 6, .inr (.inl f0)))] := hD
    refine lv_iconst (v := nI 0) (pc := 22) hx hb dX1_read_22 kI_0 ?_
    refine lv_istore_n (pc := 23) (lv' := [(3, .int (nI 0)), (2, .int (nI (prN L))), (0, .ref d), (1, .ref x)]) hx hb dX1_read_23 rfl hl (by decide) rfl (fun ls hl => ?_)
    refine lv_iconst (v := nI 0) (pc := 24) hx hb dX1_read_24 kI_0 ?_
    refine lv_istore (pc := 25) (lv' := [(4, .int (nI 0)), (3, .int (nI 0)), (2, .int (nI (prN L))), (0, .ref d), (1, .ref x)]) hx hb dX1_read_25 hl (by decide) rfl (fun ls hl => ?_)
    refine lv_iload_n (pc := 27) hx hb dX1_read_27 rfl (lv_at hl 2 rfl) ?_
    refine x_if_eq (tgt := 35) (pc := 28) hx hb (by omega) dX1_read_28 (by decide) (fun k7 => ?_) (fun k7 => ?_)
    · refine lv_iconst (v := nI 0) (pc := 35) hx hb dX1_read_35 kI_0 ?_
      refine x_i (y := nI (prN L)) (congrArg nI (by omega)) ?_
      refine lv_istore (pc := 36) (lv' := [(5, .int (nI (prN L))), (4, .int (nI 0)), (3, .int (nI 0)), (2, .int (nI (prN L))), (0, .ref d), (1, .ref x)]) hx hb dX1_read_36 hl (by decide) rfl (fun ls hl => ?_)
      have hP := x_Psub (w := [(d, .inr (1, [.ref w, .int (nI 0), .int (nI (prN L)), .int (nI 0)])), (w, .inr (6, [.ref wa])), (wa, .inl (cL, 6, .inr (.inl f0))), (x, .inr (2, [.ref ra, .int (nI L.length)])), (ra, .inl (cC, nn, .inl g))]) (is := [2, 3, 4, 0, 1]) hP rfl
      have hD := hD.sub (ws' := [(d, .inr (1, [.ref w, .int (nI 0), .int (nI (prN L)), .int (nI 0)])), (w, .inr (6, [.ref wa])), (wa, .inl (cL, 6, .inr (.inl f0))), (x, .inr (2, [.ref ra, .int (nI L.length)])), (ra, .inl (cC, nn, .inl g))]) [2, 3, 4, 0, 1] (by decide) rfl
      exact L38 _ (prN L) 0 0 0 0 0 f0 _ _ ls (Nat.lt_succ_self _) hp2 (by omega) (by omega) (by omega) (pw_pos (by decide) _) h0 rfl hP hD hS hl
    · refine lv_iconst (v := nI 1) (pc := 31) hx hb dX1_read_31 kI_1 ?_
      refine x_i (y := nI (prN L)) (congrArg nI (by omega)) ?_
      refine lv_goto (tgt := 36) (pc := 32) hx hb dX1_read_32 (by decide) ?_
      refine lv_istore (pc := 36) (lv' := [(5, .int (nI (prN L))), (4, .int (nI 0)), (3, .int (nI 0)), (2, .int (nI (prN L))), (0, .ref d), (1, .ref x)]) hx hb dX1_read_36 hl (by decide) rfl (fun ls hl => ?_)
      have hP := x_Psub (w := [(d, .inr (1, [.ref w, .int (nI 0), .int (nI (prN L)), .int (nI 0)])), (w, .inr (6, [.ref wa])), (wa, .inl (cL, 6, .inr (.inl f0))), (x, .inr (2, [.ref ra, .int (nI L.length)])), (ra, .inl (cC, nn, .inl g))]) (is := [2, 3, 4, 0, 1]) hP rfl
      have hD := hD.sub (ws' := [(d, .inr (1, [.ref w, .int (nI 0), .int (nI (prN L)), .int (nI 0)])), (w, .inr (6, [.ref wa])), (wa, .inl (cL, 6, .inr (.inl f0))), (x, .inr (2, [.ref ra, .int (nI L.length)])), (ra, .inl (cC, nn, .inl g))]) [2, 3, 4, 0, 1] (by decide) rfl
      exact L38 _ (prN L) 0 0 0 0 0 f0 _ _ ls (Nat.lt_succ_self _) hp2 (by omega) (by omega) (by omega) (pw_pos (by decide) _) h0 rfl hP hD hS hl
  refine lv_aload_n (pc := 0) hx hb dX1_read_0 rfl (lv_at hl 1 rfl) ?_
  refine lv_iconst (v := nI 0) (pc := 1) hx hb dX1_read_1 kI_0 ?_
  refine x_Vi (pc := 2) (As := [.int (nI 0)]) (rest := []) (b := x) (wr := [(d, .inr (1, [.ref w, .int sc0, .int ng0, .int ct0])), (w, .inr (6, [.ref wa])), (wa, .inl (cL, 6, .inr (.inl f)))]) ⟨hx, hb, hml, hown, hts⟩ (l_cd l D cI cL cC cB cZ cR H.size x ra nn L g 0 hg hL (by omega) (by decide)) ⟨callB_of 1 hts (x_good kw_439) rfl rfl rfl (hts _ kw_3) (hts _ kw_599) dc_X2_codeAt ⟨Nat.le_of_ble_eq_true rfl, Nat.le_of_ble_eq_true rfl⟩, hts _ kw_437, hts _ kw_438⟩ (q0 := 3) rfl rfl rfl rfl hl.1 rfl (Nat.le_of_ble_eq_true rfl) dX1_read_2 ⟨Nat.le_refl _, Nat.le_refl _⟩ hN hK hP hD hS hA [3, 4] [0, 1, 2] rfl rfl (by decide) (by decide) (by decide) (fun r2 u2 H locs q2 hP hD hS => ?_)
  have hP : va_P D vwCl [(d, .inr (1, [.ref w, .int sc0, .int ng0, .int ct0])), (w, .inr (6, [.ref wa])), (wa, .inl (cL, 6, .inr (.inl f))), (x, .inr (2, [.ref ra, .int (nI L.length)])), (ra, .inl (cC, nn, .inl g))] H := hP
  have hD : va_D A [(d, .inr (1, [.ref w, .int sc0, .int ng0, .int ct0])), (w, .inr (6, [.ref wa])), (wa, .inl (cL, 6, .inr (.inl f))), (x, .inr (2, [.ref ra, .int (nI L.length)])), (ra, .inl (cC, nn, .inl g))] := hD
  obtain rfl := q2
  refine lv_bipush (v := nI 45) (pc := 5) hx hb dX1_read_5 (by decide +kernel) ?_
  refine lv_icmp_ne (tgt := 14) (pc := 7) hx hb dX1_read_7 (by decide) (fun k0 => ?_) (fun k0 => ?_)
  · have e0 := fun z => k0 ((cdI_eq (by decide) hch).mpr z)
    refine lv_iconst (v := nI 0) (pc := 14) hx hb dX1_read_14 kI_0 ?_
    refine x_i (y := nI (prN L)) (congrArg nI (prN_n e0).symm) ?_
    refine lv_istore_n (pc := 15) (lv' := [(2, .int (nI (prN L))), (0, .ref d), (1, .ref x)]) hx hb dX1_read_15 rfl hl (by decide) rfl (fun ls hl => ?_)
    exact L16  _ _ ls  hP hD hS hl
  · have e0 := (cdI_eq (by decide) hch).mp k0
    refine lv_iconst (v := nI 1) (pc := 10) hx hb dX1_read_10 kI_1 ?_
    refine x_i (y := nI (prN L)) (congrArg nI (prN_y e0.1 e0.2).symm) ?_
    refine lv_goto (tgt := 15) (pc := 11) hx hb dX1_read_11 (by decide) ?_
    refine lv_istore_n (pc := 15) (lv' := [(2, .int (nI (prN L))), (0, .ref d), (1, .ref x)]) hx hb dX1_read_15 rfl hl (by decide) rfl (fun ls hl => ?_)
    exact L16  _ _ ls  hP hD hS hl
