abbrev rm_c_bits : Room := { frames := 2, cells := 0, slots := 0, locals := 44 }
set_option maxHeartbeats 4000000 in
set_option maxRecDepth 100000 in
theorem c_bits (l : Launch) (D : va_G) (cI cL cC cB cZ cR : ClassId) (sz : Nat) (m9 ad as9 ab at9 ao al an ae ap9 aq ar am : Nat) (th si le pl fd9 gr bk kp pe : Int32) (r fr9 to9 : Nat) (C : Nat → Nat) (fg fm : Nat → Int32) (hg : mD fg C) (hr6 : r < 6) (hC : C r < 10 ^ 30) (h96 : to9 ≤ 96) (h64 : to9 ≤ fr9 + 64) (hfr : fr9 ≤ 64) : Met l yX8_bits wsX8_bits rm_c_bits (xPc D vwCl (tyAll cI cL cC cB cZ cR) [.ref m9, .int (nI r), .int (nI fr9), .int (nI to9)] [(m9, .inr (8, [.int th, .ref ad, .ref as9, .ref ab, .int si, .ref at9, .int le, .ref ao, .ref al, .ref an, .ref ae, .ref ap9, .ref aq, .ref ar, .ref am, .int pl, .int fd9, .int gr, .int bk, .int kp, .int pe])), (ad, .inl (cI, 180, .inl fg)), (am, .inl (cI, 100, .inl fm))] sz) (va_Ql (fun (z : Int64) (_ : (Nat → Int32)) => z = lN (C r % 2 ^ to9 / 2 ^ fr9)) (xB D vwCl (tyAll cI cL cC cB cZ cR) (va_A [(m9, .inr (8, [.int th, .ref ad, .ref as9, .ref ab, .int si, .ref at9, .int le, .ref ao, .ref al, .ref an, .ref ae, .ref ap9, .ref aq, .ref ar, .ref am, .int pl, .int fd9, .int gr, .int bk, .int kp, .int pe])), (ad, .inl (cI, 180, .inl fg)), (am, .inl (cI, 100, .inl fm))] sz) (fun u : (Nat → Int32) => [(m9, .inr (8, [.int th, .ref ad, .ref as9, .ref ab, .int si, .ref at9, .int le, .ref ao, .ref al, .ref an, .ref ae, .ref ap9, .ref aq, .ref ar, .ref am, .int pl, .int fd9, .int gr, .int bk, .int kp, .int pe])), (ad, .inl (cI, 180, .inl fg)), (am, .inl (cI, 100, .inl u))])) (va_A [(m9, .inr (8, [.int th, .ref ad, .ref as9, .ref ab, .int si, .ref at9, .int le, .ref ao, .ref al, .ref an, .ref ae, .ref ap9, .ref aq, .ref ar, .ref am, .int pl, .int fd9, .int gr, .int bk, .int kp, .int pe])), (ad, .inl (cI, 180, .inl fg)), (am, .inl (cI, 100, .inl fm))] sz)) 0 0 (va_A [(m9, .inr (8, [.int th, .ref ad, .ref as9, .ref ab, .int si, .ref at9, .int le, .ref ao, .ref al, .ref an, .ref ae, .ref ap9, .ref aq, .ref ar, .ref am, .int pl, .int fd9, .int gr, .int bk, .int kp, .int pe])), (ad, .inl (cI, 180, .inl fg)), (am, .inl (cI, 100, .inl fm))] sz) := by
  refine x_of (Qc := fun A => va_Ql (fun (z : Int64) (_ : (Nat → Int32)) => z = lN (C r % 2 ^ to9 / 2 ^ fr9)) (xB D vwCl (tyAll cI cL cC cB cZ cR) A (fun u : (Nat → Int32) => [(m9, .inr (8, [.int th, .ref ad, .ref as9, .ref ab, .int si, .ref at9, .int le, .ref ao, .ref al, .ref an, .ref ae, .ref ap9, .ref aq, .ref ar, .ref am, .int pl, .int fd9, .int gr, .int bk, .int kp, .int pe])), (ad, .inl (cI, 180, .inl fg)), (am, .inl (cI, 100, .inl u))])) A) (by decide) rfl (Nat.le_of_ble_eq_true rfl) ?_
  intro p e s m args below meth c A H locs ls hx hb hr hts0 hown hlk hml hnm hP hK hD hN hA hS hl
  have hts : ∀ w ∈ wsA, w.before args s = true := fun w h => hts0 w (List.mem_cons_of_mem _ h)
  have hown : s.vm.findClass "WideDecimalDeskModel" = some m.cls := hown
  have hl : lv_has ls 12 [(0, .ref m9), (1, .int (nI r)), (2, .int (nI fr9)), (3, .int (nI to9))] := hl
  have L15 : ∀ (kk : Nat) (b : Nat) (al9 : Nat) (fm : (Nat → Int32)) (H : Heap) (locs : List Loc) (ls : Array Slot) (hk15 : to9 - b < kk) (hb9 : b ≤ to9) (hal : al9 = C r % 2 ^ b / 2 ^ fr9) (hm : dR fm (C r / 2 ^ b)) (hP : va_P D vwCl [(m9, .inr (8, [.int th, .ref ad, .ref as9, .ref ab, .int si, .ref at9, .int le, .ref ao, .ref al, .ref an, .ref ae, .ref ap9, .ref aq, .ref ar, .ref am, .int pl, .int fd9, .int gr, .int bk, .int kp, .int pe])), (ad, .inl (cI, 180, .inl fg)), (am, .inl (cI, 100, .inl fm))] H) (hD : va_D A [(m9, .inr (8, [.int th, .ref ad, .ref as9, .ref ab, .int si, .ref at9, .int le, .ref ao, .ref al, .ref an, .ref ae, .ref ap9, .ref aq, .ref ar, .ref am, .int pl, .int fd9, .int gr, .int bk, .int kp, .int pe])), (ad, .inl (cI, 180, .inl fg)), (am, .inl (cI, 100, .inl fm))]) (hS : va_S A s.heap H locs) (hl : lv_has ls 12 [(6, .int (nI b)), (4, .long (lN al9)), (0, .ref m9), (1, .int (nI r)), (2, .int (nI fr9)), (3, .int (nI to9))]), W p l e rm_c_bits s m args below meth c H locs 0 0 (MQ below (va_Ql (fun (z : Int64) (_ : (Nat → Int32)) => z = lN (C r % 2 ^ to9 / 2 ^ fr9)) (xB D vwCl (tyAll cI cL cC cB cZ cR) A (fun u : (Nat → Int32) => [(m9, .inr (8, [.int th, .ref ad, .ref as9, .ref ab, .int si, .ref at9, .int le, .ref ao, .ref al, .ref an, .ref ae, .ref ap9, .ref aq, .ref ar, .ref am, .int pl, .int fd9, .int gr, .int bk, .int kp, .int pe])), (ad, .inl (cI, 180, .inl fg)), (am, .inl (cI, 100, .inl u))])) A) args s 0 0 A) (F0 m 15 ls []) := by
    intro kk
    induction kk with
    | zero => intro b al9 fm H locs ls hk; exact absurd hk (Nat.not_lt_zero _)
    | succ kk ih15 =>
      intro b al9 fm H locs ls hk15 hb9 hal hm hP hD hS hl
      have hbit := bs_bit (C r) b
      have hd9 := dg10 (C r / 2 ^ b) 0
      have L62 : ∀ (kk : Nat) (k : Nat) (cy9 : Nat) (al2 : Nat) (fm : (Nat → Int32)) (H : Heap) (locs : List Loc) (ls : Array Slot) (hk62 : k < kk) (hk : k ≤ 100) (hbt : b < to9) (hcy : cy9 = (C r / 2 ^ b) / 10 ^ k % 2) (hal2 : al2 = C r % 2 ^ (b + 1) / 2 ^ fr9) (hf : rI 100 fm (mx (dg 10 (C r / 2 ^ b)) (dg 10 ((C r / 2 ^ b) / 2)) k)) (hP : va_P D vwCl [(m9, .inr (8, [.int th, .ref ad, .ref as9, .ref ab, .int si, .ref at9, .int le, .ref ao, .ref al, .ref an, .ref ae, .ref ap9, .ref aq, .ref ar, .ref am, .int pl, .int fd9, .int gr, .int bk, .int kp, .int pe])), (ad, .inl (cI, 180, .inl fg)), (am, .inl (cI, 100, .inl fm))] H) (hD : va_D A [(m9, .inr (8, [.int th, .ref ad, .ref as9, .ref ab, .int si, .ref at9, .int le, .ref ao, .ref al, .ref an, .ref ae, .ref ap9, .ref aq, .ref ar, .ref am, .int pl, .int fd9, .int gr, .int bk, .int kp, .int pe])), (ad, .inl (cI, 180, .inl fg)), (am, .inl (cI, 100, .inl fm))]) (hS : va_S A s.heap H locs) (hl : lv_has ls 12 [(10, .int (dn k)), (9, .int (nI cy9)), (6, .int (nI b)), (4, .long (lN al2)), (0, .ref m9), (1, .int (nI r)), (2, .int (nI fr9)), (3, .int (nI to9))]), W p l e rm_c_bits s m args below meth c H locs 0 0 (MQ below (va_Ql (fun (z : Int64) (_ : (Nat → Int32)) => z = lN (C r % 2 ^ to9 / 2 ^ fr9)) (xB D vwCl (tyAll cI cL cC cB cZ cR) A (fun u : (Nat → Int32) => [(m9, .inr (8, [.int th, .ref ad, .ref as9, .ref ab, .int si, .ref at9, .int le, .ref ao, .ref al, .ref an, .ref ae, .ref ap9, .ref aq, .ref ar, .ref am, .int pl, .int fd9, .int gr, .int bk, .int kp, .int pe])), (ad, .inl (cI, 180, .inl fg)), (am, .inl (cI, 100, .inl u))])) A) args s 0 0 A) (F0 m 62 ls []) := by
        intro kk
        induction kk with
        | zero => intro k cy9 al2 fm H locs ls hk; exact absurd hk (Nat.not_lt_zero _)
        | succ kk ih62 =>
          intro k cy9 al2 fm H locs ls hk62 hk hbt hcy hal2 hf hP hD hS hl
          have hcy2 : cy9 < 2 := by omega
          refine lv_iload (pc := 62) hx hb dX8_bits_62 (lv_at hl 0 rfl) ?_
          refine lv_if_lt (tgt := 105) (pc := 64) hx hb dX8_bits_64 (by decide) (fun hc2 => ?_) (fun hc2 => ?_)
          · have h0 : k = 0 := dn_lt (by omega) hc2
            rw [h0] at hf
            refine lv_iinc (k := 2) (v := nI (b + 1)) (pc := 105) (lv' := [(6, .int (nI (b + 1))), (10, .int (dn k)), (9, .int (nI cy9)), (4, .long (lN al2)), (0, .ref m9), (1, .int (nI r)), (2, .int (nI fr9)), (3, .int (nI to9))]) hx hb dX8_bits_105 hl rfl (x_inc b) (by decide) rfl (fun ls hl => ?_)
            refine lv_goto (tgt := 15) (pc := 108) hx hb dX8_bits_108 (by decide) ?_
            have hl := lv_sub (l' := [(6, .int (nI (b + 1))), (4, .long (lN al2)), (0, .ref m9), (1, .int (nI r)), (2, .int (nI fr9)), (3, .int (nI to9))]) hl [0, 3, 4, 5, 6, 7] rfl
            exact ih15 (b + 1) al2 fm H locs ls (by omega) (by omega) hal2 (dR_of (rI_z hf) (bs_half _ _)) hP hD hS hl
          · obtain ⟨j, rfl⟩ := dn_ge hc2
            have hdj := dg10 (C r / 2 ^ b) j
            have hl : lv_has ls 12 [(10, .int (nI j)), (9, .int (nI cy9)), (6, .int (nI b)), (4, .long (lN al2)), (0, .ref m9), (1, .int (nI r)), (2, .int (nI fr9)), (3, .int (nI to9))] := hl
            refine lv_bipush (v := nI 10) (pc := 67) hx hb dX8_bits_67 (by decide +kernel) ?_
            refine lv_iload (pc := 69) hx hb dX8_bits_69 (lv_at hl 1 rfl) ?_
            refine lv_imul (pc := 71) hx hb dX8_bits_71 ?_
            refine x_i (y := nI (10 * cy9)) (pk_mul _ _) ?_
            refine lv_aload_n (pc := 72) hx hb dX8_bits_72 rfl (lv_at hl 4 rfl) ?_
            refine va_get (D := D) (ci := 8) (v := .ref am) (C := RX8) (T := TX8) (N := 21) (pc := 73) hx hb hts in_X8 hown hK hP 0 rfl rfl 14 (by decide) (hts _ kw_711) (fun _ h9 => h9) rfl dX8_bits_73 ?_
            refine lv_iload (pc := 76) hx hb dX8_bits_76 (lv_at hl 0 rfl) ?_
            refine x_iald (v := nI (dg 10 (C r / 2 ^ b) j)) (pc := 78) hx hb hK hP 2 0 rfl rfl (by omega) (by decide) (rI_lt hf (by omega) (by omega)) dX8_bits_78 ?_
            refine lv_iadd (pc := 79) hx hb dX8_bits_79 ?_
            refine x_i (y := nI (10 * cy9 + dg 10 (C r / 2 ^ b) j)) (nI_add _ _) ?_
            refine lv_istore (pc := 80) (lv' := [(11, .int (nI (10 * cy9 + dg 10 (C r / 2 ^ b) j))), (10, .int (nI j)), (9, .int (nI cy9)), (6, .int (nI b)), (4, .long (lN al2)), (0, .ref m9), (1, .int (nI r)), (2, .int (nI fr9)), (3, .int (nI to9))]) hx hb dX8_bits_80 hl (by decide) rfl (fun ls hl => ?_)
            refine lv_aload_n (pc := 82) hx hb dX8_bits_82 rfl (lv_at hl 5 rfl) ?_
            refine va_get (D := D) (ci := 8) (v := .ref am) (C := RX8) (T := TX8) (N := 21) (pc := 83) hx hb hts in_X8 hown hK hP 0 rfl rfl 14 (by decide) (hts _ kw_711) (fun _ h9 => h9) rfl dX8_bits_83 ?_
            refine lv_iload (pc := 86) hx hb dX8_bits_86 (lv_at hl 1 rfl) ?_
            refine lv_iload (pc := 88) hx hb dX8_bits_88 (lv_at hl 0 rfl) ?_
            refine lv_iconst (v := nI 2) (pc := 90) hx hb dX8_bits_90 kI_2 ?_
            refine lv_idiv (pc := 91) hx hb dX8_bits_91 (nI_ne0 (by omega) (by omega)) ?_
            refine x_i (y := nI ((10 * cy9 + dg 10 (C r / 2 ^ b) j) / 2)) (pk_div (by omega) (by omega) (by omega)) ?_
            refine x_iast (pc := 92) hx hb hK hP hD hS 2 0 rfl rfl (by omega) (by decide) dX8_bits_92 (fun H locs hP hD hS => ?_)
            have hP : va_P D vwCl [(m9, .inr (8, [.int th, .ref ad, .ref as9, .ref ab, .int si, .ref at9, .int le, .ref ao, .ref al, .ref an, .ref ae, .ref ap9, .ref aq, .ref ar, .ref am, .int pl, .int fd9, .int gr, .int bk, .int kp, .int pe])), (ad, .inl (cI, 180, .inl fg)), (am, .inl (cI, 100, .inl (upd fm j (nI ((10 * cy9 + dg 10 (C r / 2 ^ b) j) / 2)))))] H := hP
            have hD : va_D A [(m9, .inr (8, [.int th, .ref ad, .ref as9, .ref ab, .int si, .ref at9, .int le, .ref ao, .ref al, .ref an, .ref ae, .ref ap9, .ref aq, .ref ar, .ref am, .int pl, .int fd9, .int gr, .int bk, .int kp, .int pe])), (ad, .inl (cI, 180, .inl fg)), (am, .inl (cI, 100, .inl (upd fm j (nI ((10 * cy9 + dg 10 (C r / 2 ^ b) j) / 2)))))] := hD
            refine lv_iload (pc := 93) hx hb dX8_bits_93 (lv_at hl 0 rfl) ?_
            refine lv_iconst (v := nI 2) (pc := 95) hx hb dX8_bits_95 kI_2 ?_
            refine lv_irem (pc := 96) hx hb dX8_bits_96 (nI_ne0 (by omega) (by omega)) ?_
            refine x_i (y := nI ((10 * cy9 + dg 10 (C r / 2 ^ b) j) % 2)) (pk_rem (by omega) (by omega) (by omega)) ?_
            refine lv_istore (pc := 97) (lv' := [(9, .int (nI ((10 * cy9 + dg 10 (C r / 2 ^ b) j) % 2))), (11, .int (nI (10 * cy9 + dg 10 (C r / 2 ^ b) j))), (10, .int (nI j)), (6, .int (nI b)), (4, .long (lN al2)), (0, .ref m9), (1, .int (nI r)), (2, .int (nI fr9)), (3, .int (nI to9))]) hx hb dX8_bits_97 hl (by decide) rfl (fun ls hl => ?_)
            refine lv_iinc (k := 2) (v := dn j) (pc := 99) (lv' := [(10, .int (dn j)), (9, .int (nI ((10 * cy9 + dg 10 (C r / 2 ^ b) j) % 2))), (11, .int (nI (10 * cy9 + dg 10 (C r / 2 ^ b) j))), (6, .int (nI b)), (4, .long (lN al2)), (0, .ref m9), (1, .int (nI r)), (2, .int (nI fr9)), (3, .int (nI to9))]) hx hb dX8_bits_99 hl rfl (x_dn j) (by decide) rfl (fun ls hl => ?_)
            refine lv_goto (tgt := 62) (pc := 102) hx hb dX8_bits_102 (by decide) ?_
            have hl := lv_sub (l' := [(10, .int (dn j)), (9, .int (nI ((10 * cy9 + dg 10 (C r / 2 ^ b) j) % 2))), (6, .int (nI b)), (4, .long (lN al2)), (0, .ref m9), (1, .int (nI r)), (2, .int (nI fr9)), (3, .int (nI to9))]) hl [0, 1, 3, 4, 5, 6, 7, 8] rfl
            exact ih62 j ((10 * cy9 + dg 10 (C r / 2 ^ b) j) % 2) al2 (upd fm j (nI ((10 * cy9 + dg 10 (C r / 2 ^ b) j) / 2))) H locs ls (by omega) (by omega) hbt (by rw [hcy]; exact bs_dd2 _ _) hal2 (rI_dn hf (by rw [hcy, bs_dd1])) hP hD hS hl
      refine lv_iload (pc := 15) hx hb dX8_bits_15 (lv_at hl 0 rfl) ?_
      refine lv_iload_n (pc := 17) hx hb dX8_bits_17 rfl (lv_at hl 5 rfl) ?_
      refine x_icmp_ge (tgt := 111) (pc := 18) hx hb (by omega) (by omega) dX8_bits_18 (by decide) (fun hc => ?_) (fun hc => ?_)
      · refine lv_lload (pc := 111) hx hb dX8_bits_111 (lv_at hl 1 rfl) ?_
        exact x_retl (pc := 113) hx hb hr hlk fm (by have h : b = to9 := (by omega); subst h; rw [hal]) hP hK hD hS dX8_bits_113
      · refine lv_aload_n (pc := 21) hx hb dX8_bits_21 rfl (lv_at hl 2 rfl) ?_
        refine va_get (D := D) (ci := 8) (v := .ref am) (C := RX8) (T := TX8) (N := 21) (pc := 22) hx hb hts in_X8 hown hK hP 0 rfl rfl 14 (by decide) (hts _ kw_711) (fun _ h9 => h9) rfl dX8_bits_22 ?_
        refine lv_iconst (v := nI 0) (pc := 25) hx hb dX8_bits_25 kI_0 ?_
        refine x_iald (v := nI (dg 10 (C r / 2 ^ b) 0)) (pc := 26) hx hb hK hP 2 0 rfl rfl (by omega) (by decide) (hm 0 (by omega)) dX8_bits_26 ?_
        refine lv_iconst (v := nI 2) (pc := 27) hx hb dX8_bits_27 kI_2 ?_
        refine lv_irem (pc := 28) hx hb dX8_bits_28 (nI_ne0 (by omega) (by omega)) ?_
        refine x_i (y := nI ((dg 10 (C r / 2 ^ b) 0) % 2)) (pk_rem (by omega) (by omega) (by omega)) ?_
        refine lv_i2l (v := lN ((dg 10 (C r / 2 ^ b) 0) % 2)) (pc := 29) hx hb dX8_bits_29 (nI_l (by omega)) ?_
        refine lv_lstore (pc := 30) (lv' := [(7, .long (lN ((dg 10 (C r / 2 ^ b) 0) % 2))), (6, .int (nI b)), (4, .long (lN al9)), (0, .ref m9), (1, .int (nI r)), (2, .int (nI fr9)), (3, .int (nI to9))]) hx hb dX8_bits_30 hl (by decide) rfl (fun ls hl => ?_)
        refine lv_iload (pc := 32) hx hb dX8_bits_32 (lv_at hl 1 rfl) ?_
        refine lv_iload_n (pc := 34) hx hb dX8_bits_34 rfl (lv_at hl 5 rfl) ?_
        refine x_icmp_lt (tgt := 51) (pc := 35) hx hb (by omega) (by omega) dX8_bits_35 (by decide) (fun hbf => ?_) (fun hbf => ?_)
        · refine lv_lload (pc := 51) hx hb dX8_bits_51 (lv_at hl 2 rfl) ?_
          refine lv_lstore (pc := 53) (lv' := [(4, .long (lN al9)), (7, .long (lN ((dg 10 (C r / 2 ^ b) 0) % 2))), (6, .int (nI b)), (0, .ref m9), (1, .int (nI r)), (2, .int (nI fr9)), (3, .int (nI to9))]) hx hb dX8_bits_53 hl (by decide) rfl (fun ls hl => ?_)
          refine lv_iconst (v := nI 0) (pc := 55) hx hb dX8_bits_55 kI_0 ?_
          refine lv_istore (pc := 56) (lv' := [(9, .int (nI 0)), (4, .long (lN al9)), (7, .long (lN ((dg 10 (C r / 2 ^ b) 0) % 2))), (6, .int (nI b)), (0, .ref m9), (1, .int (nI r)), (2, .int (nI fr9)), (3, .int (nI to9))]) hx hb dX8_bits_56 hl (by decide) rfl (fun ls hl => ?_)
          refine lv_bipush (v := nI 99) (pc := 58) hx hb dX8_bits_58 (by decide +kernel) ?_
          refine lv_istore (pc := 60) (lv' := [(10, .int (nI 99)), (9, .int (nI 0)), (4, .long (lN al9)), (7, .long (lN ((dg 10 (C r / 2 ^ b) 0) % 2))), (6, .int (nI b)), (0, .ref m9), (1, .int (nI r)), (2, .int (nI fr9)), (3, .int (nI to9))]) hx hb dX8_bits_60 hl (by decide) rfl (fun ls hl => ?_)
          have hl : lv_has ls 12 [(10, .int (dn 100)), (9, .int (nI 0)), (4, .long (lN al9)), (7, .long (lN ((dg 10 (C r / 2 ^ b) 0) % 2))), (6, .int (nI b)), (0, .ref m9), (1, .int (nI r)), (2, .int (nI fr9)), (3, .int (nI to9))] := hl
          have hl := lv_sub (l' := [(10, .int (dn 100)), (9, .int (nI 0)), (6, .int (nI b)), (4, .long (lN al9)), (0, .ref m9), (1, .int (nI r)), (2, .int (nI fr9)), (3, .int (nI to9))]) hl [0, 1, 4, 2, 5, 6, 7, 8] rfl
          exact L62 _ 100 0 al9 fm _ _ ls (Nat.lt_succ_self _) (by omega) hc (by rw [dv_top (Nat.lt_of_le_of_lt (Nat.div_le_self _ _) (Nat.lt_trans hC (by decide +kernel)))]) (by first | (rw [hal, hbit]; exact bs_hi hbf) | (rw [hal]; exact bs_lo hbf)) (rI_n hm) hP hD hS hl
        · refine lv_lload (pc := 38) hx hb dX8_bits_38 (lv_at hl 2 rfl) ?_
          refine lv_lload (pc := 40) hx hb dX8_bits_40 (lv_at hl 0 rfl) ?_
          refine lv_iload (pc := 42) hx hb dX8_bits_42 (lv_at hl 1 rfl) ?_
          refine lv_iload_n (pc := 44) hx hb dX8_bits_44 rfl (lv_at hl 5 rfl) ?_
          refine lv_isub (pc := 45) hx hb dX8_bits_45 ?_
          refine x_i (y := nI (b - fr9)) (pk_sub (by omega)) ?_
          refine lv_lshl (v := lN (dg 10 (C r / 2 ^ b) 0 % 2 * 2 ^ (b - fr9))) (pc := 46) hx hb dX8_bits_46 (wb_shl _ (by omega)) ?_
          refine lv_lor (pc := 47) hx hb dX8_bits_47 ?_
          refine x_l (y := lN (al9 + dg 10 (C r / 2 ^ b) 0 % 2 * 2 ^ (b - fr9))) (bs_or (by omega) (by rw [hal]; exact bs_lt hbf) (by omega)) ?_
          refine lv_goto (tgt := 53) (pc := 48) hx hb dX8_bits_48 (by decide) ?_
          refine lv_lstore (pc := 53) (lv' := [(4, .long (lN (al9 + dg 10 (C r / 2 ^ b) 0 % 2 * 2 ^ (b - fr9)))), (7, .long (lN ((dg 10 (C r / 2 ^ b) 0) % 2))), (6, .int (nI b)), (0, .ref m9), (1, .int (nI r)), (2, .int (nI fr9)), (3, .int (nI to9))]) hx hb dX8_bits_53 hl (by decide) rfl (fun ls hl => ?_)
          refine lv_iconst (v := nI 0) (pc := 55) hx hb dX8_bits_55 kI_0 ?_
          refine lv_istore (pc := 56) (lv' := [(9, .int (nI 0)), (4, .long (lN (al9 + dg 10 (C r / 2 ^ b) 0 % 2 * 2 ^ (b - fr9)))), (7, .long (lN ((dg 10 (C r / 2 ^ b) 0) % 2))), (6, .int (nI b)), (0, .ref m9), (1, .int (nI r)), (2, .int (nI fr9)), (3, .int (nI to9))]) hx hb dX8_bits_56 hl (by decide) rfl (fun ls hl => ?_)
          refine lv_bipush (v := nI 99) (pc := 58) hx hb dX8_bits_58 (by decide +kernel) ?_
          refine lv_istore (pc := 60) (lv' := [(10, .int (nI 99)), (9, .int (nI 0)), (4, .long (lN (al9 + dg 10 (C r / 2 ^ b) 0 % 2 * 2 ^ (b - fr9)))), (7, .long (lN ((dg 10 (C r / 2 ^ b) 0) % 2))), (6, .int (nI b)), (0, .ref m9), (1, .int (nI r)), (2, .int (nI fr9)), (3, .int (nI to9))]) hx hb dX8_bits_60 hl (by decide) rfl (fun ls hl => ?_)
          have hl : lv_has ls 12 [(10, .int (dn 100)), (9, .int (nI 0)), (4, .long (lN (al9 + dg 10 (C r / 2 ^ b) 0 % 2 * 2 ^ (b - fr9)))), (7, .long (lN ((dg 10 (C r / 2 ^ b) 0) % 2))), (6, .int (nI b)), (0, .ref m9), (1, .int (nI r)), (2, .int (nI fr9)), (3, .int (nI to9))] := hl
          have hl := lv_sub (l' := [(10, .int (dn 100)), (9, .int (nI 0)), (6, .int (nI b)), (4, .long (lN (al9 + dg 10 (C r / 2 ^ b) 0 % 2 * 2 ^ (b - fr9)))), (0, .ref m9), (1, .int (nI r)), (2, .int (nI fr9)), (3, .int (nI to9))]) hl [0, 1, 4, 2, 5, 6, 7, 8] rfl
          exact L62 _ 100 0 (al9 + dg 10 (C r / 2 ^ b) 0 % 2 * 2 ^ (b - fr9)) fm _ _ ls (Nat.lt_succ_self _) (by omega) hc (by rw [dv_top (Nat.lt_of_le_of_lt (Nat.div_le_self _ _) (Nat.lt_trans hC (by decide +kernel)))]) (by first | (rw [hal, hbit]; exact bs_hi hbf) | (rw [hal]; exact bs_lo hbf)) (rI_n hm) hP hD hS hl
  refine lv_aload_n (pc := 0) hx hb dX8_bits_0 rfl (lv_at hl 0 rfl) ?_
  refine lv_iload_n (pc := 1) hx hb dX8_bits_1 rfl (lv_at hl 1 rfl) ?_
  refine lv_aload_n (pc := 2) hx hb dX8_bits_2 rfl (lv_at hl 0 rfl) ?_
  refine va_get (D := D) (ci := 8) (v := .ref am) (C := RX8) (T := TX8) (N := 21) (pc := 3) hx hb hts in_X8 hown hK hP 0 rfl rfl 14 (by decide) (hts _ kw_711) (fun _ h9 => h9) rfl dX8_bits_3 ?_
  refine x_Vv (pc := 6) (As := [.int (nI r), .ref am]) (rest := []) (b := m9) (wr := []) ⟨hx, hb, hml, hown, hts⟩ (c_load l D cI cL cC cB cZ cR H.size m9 ad as9 ab at9 ao al an ae ap9 aq ar am th si le pl fd9 gr bk kp pe r am C fg fm hg hr6 hC) ⟨callB_of 2 hts (x_good kw_795) rfl rfl rfl (hts _ kw_9) (hts _ kw_792) dc_X8_load ⟨Nat.le_of_ble_eq_true rfl, Nat.le_of_ble_eq_true rfl⟩, hts _ kw_794, hts _ kp_22⟩ (q0 := 0) rfl rfl rfl rfl hl.1 rfl (Nat.le_of_ble_eq_true rfl) dX8_bits_6 ⟨Nat.le_refl _, Nat.le_refl _⟩ hN hK hP hD hS hA [0, 1, 2] [] rfl rfl (by decide) (by decide) (by decide) (fun u6 H locs h1 hP hD hS => ?_)
  obtain ⟨fm1, rfl⟩ : ∃ z, z = u6 := ⟨_, rfl⟩
  have hP : va_P D vwCl [(m9, .inr (8, [.int th, .ref ad, .ref as9, .ref ab, .int si, .ref at9, .int le, .ref ao, .ref al, .ref an, .ref ae, .ref ap9, .ref aq, .ref ar, .ref am, .int pl, .int fd9, .int gr, .int bk, .int kp, .int pe])), (ad, .inl (cI, 180, .inl fg)), (am, .inl (cI, 100, .inl fm1))] H := hP
  have hD : va_D A [(m9, .inr (8, [.int th, .ref ad, .ref as9, .ref ab, .int si, .ref at9, .int le, .ref ao, .ref al, .ref an, .ref ae, .ref ap9, .ref aq, .ref ar, .ref am, .int pl, .int fd9, .int gr, .int bk, .int kp, .int pe])), (ad, .inl (cI, 180, .inl fg)), (am, .inl (cI, 100, .inl fm1))] := hD
  refine lv_lconst (v := lN 0) (pc := 9) hx hb dX8_bits_9 rfl ?_
  refine lv_lstore (pc := 10) (lv' := [(4, .long (lN 0)), (0, .ref m9), (1, .int (nI r)), (2, .int (nI fr9)), (3, .int (nI to9))]) hx hb dX8_bits_10 hl (by decide) rfl (fun ls hl => ?_)
  refine lv_iconst (v := nI 0) (pc := 12) hx hb dX8_bits_12 kI_0 ?_
  refine lv_istore (pc := 13) (lv' := [(6, .int (nI 0)), (4, .long (lN 0)), (0, .ref m9), (1, .int (nI r)), (2, .int (nI fr9)), (3, .int (nI to9))]) hx hb dX8_bits_13 hl (by decide) rfl (fun ls hl => ?_)
  exact L15 _ 0 0 fm1 _ _ ls (Nat.lt_succ_self _) (by omega) (by rw [Nat.pow_zero, Nat.mod_one, Nat.zero_div]) (dR_of h1 (by rw [Nat.pow_zero, Nat.div_one])) hP hD hS hl
abbrev rm_c_low : Room := { frames := 3, cells := 0, slots := 0, locals := 75 }
set_option maxHeartbeats 4000000 in
set_option maxRecDepth 100000 in
theorem c_low (l : Launch) (D : va_G) (cI cL cC cB cZ cR : ClassId) (sz : Nat) (m9 ad as9 ab at9 ao al an ae ap9 aq ar am : Nat) (th si le pl fd9 gr bk kp pe : Int32) (r : Nat) (C : Nat → Nat) (fg fm : Nat → Int32) (hg : mD fg C) (hr6 : r < 6) (hC : C r < 10 ^ 30) : Met l yX8_low wsX8_low rm_c_low (xPc D vwCl (tyAll cI cL cC cB cZ cR) [.ref m9, .int (nI r)] [(m9, .inr (8, [.int th, .ref ad, .ref as9, .ref ab, .int si, .ref at9, .int le, .ref ao, .ref al, .ref an, .ref ae, .ref ap9, .ref aq, .ref ar, .ref am, .int pl, .int fd9, .int gr, .int bk, .int kp, .int pe])), (ad, .inl (cI, 180, .inl fg)), (am, .inl (cI, 100, .inl fm))] sz) (va_Ql (fun (z : Int64) (_ : (Nat → Int32)) => z = lN (C r % 2 ^ 64)) (xB D vwCl (tyAll cI cL cC cB cZ cR) (va_A [(m9, .inr (8, [.int th, .ref ad, .ref as9, .ref ab, .int si, .ref at9, .int le, .ref ao, .ref al, .ref an, .ref ae, .ref ap9, .ref aq, .ref ar, .ref am, .int pl, .int fd9, .int gr, .int bk, .int kp, .int pe])), (ad, .inl (cI, 180, .inl fg)), (am, .inl (cI, 100, .inl fm))] sz) (fun u : (Nat → Int32) => [(m9, .inr (8, [.int (nI 0), .ref ad, .ref as9, .ref ab, .int si, .ref at9, .int le, .ref ao, .ref al, .ref an, .ref ae, .ref ap9, .ref aq, .ref ar, .ref am, .int pl, .int fd9, .int gr, .int bk, .int kp, .int pe])), (ad, .inl (cI, 180, .inl fg)), (am, .inl (cI, 100, .inl u))])) (va_A [(m9, .inr (8, [.int th, .ref ad, .ref as9, .ref ab, .int si, .ref at9, .int le, .ref ao, .ref al, .ref an, .ref ae, .ref ap9, .ref aq, .ref ar, .ref am, .int pl, .int fd9, .int gr, .int bk, .int kp, .int pe])), (ad, .inl (cI, 180, .inl fg)), (am, .inl (cI, 100, .inl fm))] sz)) 0 0 (va_A [(m9, .inr (8, [.int th, .ref ad, .ref as9, .ref ab, .int si, .ref at9, .int le, .ref ao, .ref al, .ref an, .ref ae, .ref ap9, .ref aq, .ref ar, .ref am, .int pl, .int fd9, .int gr, .int bk, .int kp, .int pe])), (ad, .inl (cI, 180, .inl fg)), (am, .inl (cI, 100, .inl fm))] sz) := by
  refine x_of (Qc := fun A => va_Ql (fun (z : Int64) (_ : (Nat → Int32)) => z = lN (C r % 2 ^ 64)) (xB D vwCl (tyAll cI cL cC cB cZ cR) A (fun u : (Nat → Int32) => [(m9, .inr (8, [.int (nI 0), .ref ad, .ref as9, .ref ab, .int si, .ref at9, .int le, .ref ao, .ref al, .ref an, .ref ae, .ref ap9, .ref aq, .ref ar, .ref am, .int pl, .int fd9, .int gr, .int bk, .int kp, .int pe])), (ad, .inl (cI, 180, .inl fg)), (am, .inl (cI, 100, .inl u))])) A) (by decide) rfl (Nat.le_of_ble_eq_true rfl) ?_
  intro p e s m args below meth c A H locs ls hx hb hr hts0 hown hlk hml hnm hP hK hD hN hA hS hl
  have hts : ∀ w ∈ wsA, w.before args s = true := fun w h => hts0 w (List.mem_cons_of_mem _ h)
  have hown : s.vm.findClass "WideDecimalDeskModel" = some m.cls := hown
  have hl : lv_has ls 2 [(0, .ref m9), (1, .int (nI r))] := hl
  refine lv_aload_n (pc := 0) hx hb dX8_low_0 rfl (lv_at hl 0 rfl) ?_
  refine lv_iconst (v := nI 0) (pc := 1) hx hb dX8_low_1 kI_0 ?_
  refine va_put (D := D) (ci := 8) (v := .int (nI 0)) (ty := .int) (C := RX8) (T := TX8) (N := 21) (pc := 2) hx hb hts in_X8 tyX8 ty_X8 nm_X8 hown hK hP hD hS 0 rfl rfl 0 (by decide) (hts _ kw_697) (fun _ h9 => h9) rfl (by decide +kernel) rfl rfl (Nat.le_of_ble_eq_true rfl) dX8_low_2 (fun H locs hP hD hS => ?_)
  have hP : va_P D vwCl [(m9, .inr (8, [.int (nI 0), .ref ad, .ref as9, .ref ab, .int si, .ref at9, .int le, .ref ao, .ref al, .ref an, .ref ae, .ref ap9, .ref aq, .ref ar, .ref am, .int pl, .int fd9, .int gr, .int bk, .int kp, .int pe])), (ad, .inl (cI, 180, .inl fg)), (am, .inl (cI, 100, .inl fm))] H := hP
  have hD : va_D A [(m9, .inr (8, [.int (nI 0), .ref ad, .ref as9, .ref ab, .int si, .ref at9, .int le, .ref ao, .ref al, .ref an, .ref ae, .ref ap9, .ref aq, .ref ar, .ref am, .int pl, .int fd9, .int gr, .int bk, .int kp, .int pe])), (ad, .inl (cI, 180, .inl fg)), (am, .inl (cI, 100, .inl fm))] := hD
  refine lv_iload_n (pc := 5) hx hb dX8_low_5 rfl (lv_at hl 1 rfl) ?_
  refine x_Si (pc := 6) (As := [.int (nI r)]) (rest := []) (wr := [(m9, .inr (8, [.int (nI 0), .ref ad, .ref as9, .ref ab, .int si, .ref at9, .int le, .ref ao, .ref al, .ref an, .ref ae, .ref ap9, .ref aq, .ref ar, .ref am, .int pl, .int fd9, .int gr, .int bk, .int kp, .int pe])), (ad, .inl (cI, 180, .inl fg)), (am, .inl (cI, 100, .inl fm))]) ⟨hx, hb, hml, hown, hts⟩ (c_register l D cI cL cC cB cZ cR H.size (nI r) ) ⟨callB_of 1 hts (x_good kw_773) rfl rfl rfl (hts _ kw_9) (hts _ kw_771) dc_X8_register ⟨Nat.le_of_ble_eq_true rfl, Nat.le_of_ble_eq_true rfl⟩, hts _ kw_772⟩ rfl hl.1 rfl (Nat.le_of_ble_eq_true rfl) dX8_low_6 ⟨Nat.le_refl _, Nat.le_refl _⟩ hN hK hP hD hS hA [] [0, 1, 2] rfl rfl (by decide) (by decide) (by decide) (fun r6 u6 H locs q6 hP hD hS => ?_)
  have hP : va_P D vwCl [(m9, .inr (8, [.int (nI 0), .ref ad, .ref as9, .ref ab, .int si, .ref at9, .int le, .ref ao, .ref al, .ref an, .ref ae, .ref ap9, .ref aq, .ref ar, .ref am, .int pl, .int fd9, .int gr, .int bk, .int kp, .int pe])), (ad, .inl (cI, 180, .inl fg)), (am, .inl (cI, 100, .inl fm))] H := hP
  have hD : va_D A [(m9, .inr (8, [.int (nI 0), .ref ad, .ref as9, .ref ab, .int si, .ref at9, .int le, .ref ao, .ref al, .ref an, .ref ae, .ref ap9, .ref aq, .ref ar, .ref am, .int pl, .int fd9, .int gr, .int bk, .int kp, .int pe])), (ad, .inl (cI, 180, .inl fg)), (am, .inl (cI, 100, .inl fm))] := hD
  obtain rfl := q6
  have i_r : inR 6 (nI r) = 1 := inR_j (by decide) hr6
  refine x_if_eq (tgt := 23) (pc := 9) hx hb (by omega) dX8_low_9 (by decide) (fun h9 => absurd h9 (by omega)) (fun h9 => ?_)
  refine lv_aload_n (pc := 12) hx hb dX8_low_12 rfl (lv_at hl 0 rfl) ?_
  refine lv_iload_n (pc := 13) hx hb dX8_low_13 rfl (lv_at hl 1 rfl) ?_
  refine lv_iconst (v := nI 0) (pc := 14) hx hb dX8_low_14 kI_0 ?_
  refine lv_bipush (v := nI 64) (pc := 15) hx hb dX8_low_15 (by decide +kernel) ?_
  refine x_Vl (pc := 17) (As := [.int (nI r), .int (nI 0), .int (nI 64)]) (rest := []) (b := m9) (wr := []) ⟨hx, hb, hml, hown, hts⟩ (c_bits l D cI cL cC cB cZ cR H.size m9 ad as9 ab at9 ao al an ae ap9 aq ar am (nI 0) si le pl fd9 gr bk kp pe r 0 64 C fg fm hg hr6 hC (by omega) (by omega) (by omega)) ⟨callB_of 3 hts (x_good kw_791) rfl rfl rfl (hts _ kw_9) (hts _ kw_788) dc_X8_bits ⟨Nat.le_of_ble_eq_true rfl, Nat.le_of_ble_eq_true rfl⟩, hts _ kw_790, hts _ kp_21⟩ (q0 := 0) rfl rfl rfl rfl hl.1 rfl (Nat.le_of_ble_eq_true rfl) dX8_low_17 ⟨Nat.le_refl _, Nat.le_refl _⟩ hN hK hP hD hS hA [0, 1, 2] [] rfl rfl (by decide) (by decide) (by decide) (fun r17 u17 H locs q17 hP hD hS => ?_)
  obtain ⟨fm1, rfl⟩ : ∃ z, z = u17 := ⟨_, rfl⟩
  have hP : va_P D vwCl [(m9, .inr (8, [.int (nI 0), .ref ad, .ref as9, .ref ab, .int si, .ref at9, .int le, .ref ao, .ref al, .ref an, .ref ae, .ref ap9, .ref aq, .ref ar, .ref am, .int pl, .int fd9, .int gr, .int bk, .int kp, .int pe])), (ad, .inl (cI, 180, .inl fg)), (am, .inl (cI, 100, .inl fm1))] H := hP
  have hD : va_D A [(m9, .inr (8, [.int (nI 0), .ref ad, .ref as9, .ref ab, .int si, .ref at9, .int le, .ref ao, .ref al, .ref an, .ref ae, .ref ap9, .ref aq, .ref ar, .ref am, .int pl, .int fd9, .int gr, .int bk, .int kp, .int pe])), (ad, .inl (cI, 180, .inl fg)), (am, .inl (cI, 100, .inl fm1))] := hD
  obtain rfl := q17
  refine lv_goto (tgt := 24) (pc := 20) hx hb dX8_low_20 (by decide) ?_
  exact x_retl (pc := 24) hx hb hr hlk fm1 (by rw [Nat.pow_zero, Nat.div_one]) hP hK hD hS dX8_low_24
abbrev rm_c_high : Room := { frames := 3, cells := 0, slots := 0, locals := 75 }
set_option maxHeartbeats 4000000 in
set_option maxRecDepth 100000 in
theorem c_high (l : Launch) (D : va_G) (cI cL cC cB cZ cR : ClassId) (sz : Nat) (m9 ad as9 ab at9 ao al an ae ap9 aq ar am : Nat) (th si le pl fd9 gr bk kp pe : Int32) (r : Nat) (C : Nat → Nat) (fg fm : Nat → Int32) (hg : mD fg C) (hr6 : r < 6) (hC : C r < lim) : Met l yX8_high wsX8_high rm_c_high (xPc D vwCl (tyAll cI cL cC cB cZ cR) [.ref m9, .int (nI r)] [(m9, .inr (8, [.int th, .ref ad, .ref as9, .ref ab, .int si, .ref at9, .int le, .ref ao, .ref al, .ref an, .ref ae, .ref ap9, .ref aq, .ref ar, .ref am, .int pl, .int fd9, .int gr, .int bk, .int kp, .int pe])), (ad, .inl (cI, 180, .inl fg)), (am, .inl (cI, 100, .inl fm))] sz) (va_Qi (fun (z : Int32) (_ : (Nat → Int32)) => z = nI (C r / 2 ^ 64)) (xB D vwCl (tyAll cI cL cC cB cZ cR) (va_A [(m9, .inr (8, [.int th, .ref ad, .ref as9, .ref ab, .int si, .ref at9, .int le, .ref ao, .ref al, .ref an, .ref ae, .ref ap9, .ref aq, .ref ar, .ref am, .int pl, .int fd9, .int gr, .int bk, .int kp, .int pe])), (ad, .inl (cI, 180, .inl fg)), (am, .inl (cI, 100, .inl fm))] sz) (fun u : (Nat → Int32) => [(m9, .inr (8, [.int (nI 0), .ref ad, .ref as9, .ref ab, .int si, .ref at9, .int le, .ref ao, .ref al, .ref an, .ref ae, .ref ap9, .ref aq, .ref ar, .ref am, .int pl, .int fd9, .int gr, .int bk, .int kp, .int pe])), (ad, .inl (cI, 180, .inl fg)), (am, .inl (cI, 100, .inl u))])) (va_A [(m9, .inr (8, [.int th, .ref ad, .ref as9, .ref ab, .int si, .ref at9, .int le, .ref ao, .ref al, .ref an, .ref ae, .ref ap9, .ref aq, .ref ar, .ref am, .int pl, .int fd9, .int gr, .int bk, .int kp, .int pe])), (ad, .inl (cI, 180, .inl fg)), (am, .inl (cI, 100, .inl fm))] sz)) 0 0 (va_A [(m9, .inr (8, [.int th, .ref ad, .ref as9, .ref ab, .int si, .ref at9, .int le, .ref ao, .ref al, .ref an, .ref ae, .ref ap9, .ref aq, .ref ar, .ref am, .int pl, .int fd9, .int gr, .int bk, .int kp, .int pe])), (ad, .inl (cI, 180, .inl fg)), (am, .inl (cI, 100, .inl fm))] sz) := by
  refine x_of (Qc := fun A => va_Qi (fun (z : Int32) (_ : (Nat → Int32)) => z = nI (C r / 2 ^ 64)) (xB D vwCl (tyAll cI cL cC cB cZ cR) A (fun u : (Nat → Int32) => [(m9, .inr (8, [.int (nI 0), .ref ad, .ref as9, .ref ab, .int si, .ref at9, .int le, .ref ao, .ref al, .ref an, .ref ae, .ref ap9, .ref aq, .ref ar, .ref am, .int pl, .int fd9, .int gr, .int bk, .int kp, .int pe])), (ad, .inl (cI, 180, .inl fg)), (am, .inl (cI, 100, .inl u))])) A) (by decide) rfl (Nat.le_of_ble_eq_true rfl) ?_
  intro p e s m args below meth c A H locs ls hx hb hr hts0 hown hlk hml hnm hP hK hD hN hA hS hl
  have hts : ∀ w ∈ wsA, w.before args s = true := fun w h => hts0 w (List.mem_cons_of_mem _ h)
  have hown : s.vm.findClass "WideDecimalDeskModel" = some m.cls := hown
  have hl : lv_has ls 2 [(0, .ref m9), (1, .int (nI r))] := hl
  refine lv_aload_n (pc := 0) hx hb dX8_high_0 rfl (lv_at hl 0 rfl) ?_
  refine lv_iconst (v := nI 0) (pc := 1) hx hb dX8_high_1 kI_0 ?_
  refine va_put (D := D) (ci := 8) (v := .int (nI 0)) (ty := .int) (C := RX8) (T := TX8) (N := 21) (pc := 2) hx hb hts in_X8 tyX8 ty_X8 nm_X8 hown hK hP hD hS 0 rfl rfl 0 (by decide) (hts _ kw_697) (fun _ h9 => h9) rfl (by decide +kernel) rfl rfl (Nat.le_of_ble_eq_true rfl) dX8_high_2 (fun H locs hP hD hS => ?_)
  have hP : va_P D vwCl [(m9, .inr (8, [.int (nI 0), .ref ad, .ref as9, .ref ab, .int si, .ref at9, .int le, .ref ao, .ref al, .ref an, .ref ae, .ref ap9, .ref aq, .ref ar, .ref am, .int pl, .int fd9, .int gr, .int bk, .int kp, .int pe])), (ad, .inl (cI, 180, .inl fg)), (am, .inl (cI, 100, .inl fm))] H := hP
  have hD : va_D A [(m9, .inr (8, [.int (nI 0), .ref ad, .ref as9, .ref ab, .int si, .ref at9, .int le, .ref ao, .ref al, .ref an, .ref ae, .ref ap9, .ref aq, .ref ar, .ref am, .int pl, .int fd9, .int gr, .int bk, .int kp, .int pe])), (ad, .inl (cI, 180, .inl fg)), (am, .inl (cI, 100, .inl fm))] := hD
  refine lv_iload_n (pc := 5) hx hb dX8_high_5 rfl (lv_at hl 1 rfl) ?_
  refine x_Si (pc := 6) (As := [.int (nI r)]) (rest := []) (wr := [(m9, .inr (8, [.int (nI 0), .ref ad, .ref as9, .ref ab, .int si, .ref at9, .int le, .ref ao, .ref al, .ref an, .ref ae, .ref ap9, .ref aq, .ref ar, .ref am, .int pl, .int fd9, .int gr, .int bk, .int kp, .int pe])), (ad, .inl (cI, 180, .inl fg)), (am, .inl (cI, 100, .inl fm))]) ⟨hx, hb, hml, hown, hts⟩ (c_register l D cI cL cC cB cZ cR H.size (nI r) ) ⟨callB_of 1 hts (x_good kw_773) rfl rfl rfl (hts _ kw_9) (hts _ kw_771) dc_X8_register ⟨Nat.le_of_ble_eq_true rfl, Nat.le_of_ble_eq_true rfl⟩, hts _ kw_772⟩ rfl hl.1 rfl (Nat.le_of_ble_eq_true rfl) dX8_high_6 ⟨Nat.le_refl _, Nat.le_refl _⟩ hN hK hP hD hS hA [] [0, 1, 2] rfl rfl (by decide) (by decide) (by decide) (fun r6 u6 H locs q6 hP hD hS => ?_)
  have hP : va_P D vwCl [(m9, .inr (8, [.int (nI 0), .ref ad, .ref as9, .ref ab, .int si, .ref at9, .int le, .ref ao, .ref al, .ref an, .ref ae, .ref ap9, .ref aq, .ref ar, .ref am, .int pl, .int fd9, .int gr, .int bk, .int kp, .int pe])), (ad, .inl (cI, 180, .inl fg)), (am, .inl (cI, 100, .inl fm))] H := hP
  have hD : va_D A [(m9, .inr (8, [.int (nI 0), .ref ad, .ref as9, .ref ab, .int si, .ref at9, .int le, .ref ao, .ref al, .ref an, .ref ae, .ref ap9, .ref aq, .ref ar, .ref am, .int pl, .int fd9, .int gr, .int bk, .int kp, .int pe])), (ad, .inl (cI, 180, .inl fg)), (am, .inl (cI, 100, .inl fm))] := hD
  obtain rfl := q6
  have i_r : inR 6 (nI r) = 1 := inR_j (by decide) hr6
  refine x_if_eq (tgt := 25) (pc := 9) hx hb (by omega) dX8_high_9 (by decide) (fun h9 => absurd h9 (by omega)) (fun h9 => ?_)
  refine lv_aload_n (pc := 12) hx hb dX8_high_12 rfl (lv_at hl 0 rfl) ?_
  refine lv_iload_n (pc := 13) hx hb dX8_high_13 rfl (lv_at hl 1 rfl) ?_
  refine lv_bipush (v := nI 64) (pc := 14) hx hb dX8_high_14 (by decide +kernel) ?_
  refine lv_bipush (v := nI 96) (pc := 16) hx hb dX8_high_16 (by decide +kernel) ?_
  refine x_Vl (pc := 18) (As := [.int (nI r), .int (nI 64), .int (nI 96)]) (rest := []) (b := m9) (wr := []) ⟨hx, hb, hml, hown, hts⟩ (c_bits l D cI cL cC cB cZ cR H.size m9 ad as9 ab at9 ao al an ae ap9 aq ar am (nI 0) si le pl fd9 gr bk kp pe r 64 96 C fg fm hg hr6 (by have hl30 := lim30; omega) (by omega) (by omega) (by omega)) ⟨callB_of 3 hts (x_good kw_791) rfl rfl rfl (hts _ kw_9) (hts _ kw_788) dc_X8_bits ⟨Nat.le_of_ble_eq_true rfl, Nat.le_of_ble_eq_true rfl⟩, hts _ kw_790, hts _ kp_21⟩ (q0 := 0) rfl rfl rfl rfl hl.1 rfl (Nat.le_of_ble_eq_true rfl) dX8_high_18 ⟨Nat.le_refl _, Nat.le_refl _⟩ hN hK hP hD hS hA [0, 1, 2] [] rfl rfl (by decide) (by decide) (by decide) (fun r18 u18 H locs q18 hP hD hS => ?_)
  obtain ⟨fm1, rfl⟩ : ∃ z, z = u18 := ⟨_, rfl⟩
  have hP : va_P D vwCl [(m9, .inr (8, [.int (nI 0), .ref ad, .ref as9, .ref ab, .int si, .ref at9, .int le, .ref ao, .ref al, .ref an, .ref ae, .ref ap9, .ref aq, .ref ar, .ref am, .int pl, .int fd9, .int gr, .int bk, .int kp, .int pe])), (ad, .inl (cI, 180, .inl fg)), (am, .inl (cI, 100, .inl fm1))] H := hP
  have hD : va_D A [(m9, .inr (8, [.int (nI 0), .ref ad, .ref as9, .ref ab, .int si, .ref at9, .int le, .ref ao, .ref al, .ref an, .ref ae, .ref ap9, .ref aq, .ref ar, .ref am, .int pl, .int fd9, .int gr, .int bk, .int kp, .int pe])), (ad, .inl (cI, 180, .inl fg)), (am, .inl (cI, 100, .inl fm1))] := hD
  obtain rfl := q18
  refine lv_l2i (v := nI (C r % 2 ^ 96 / 2 ^ 64)) (pc := 21) hx hb dX8_high_21 (lN_i (C r % 2 ^ 96 / 2 ^ 64)) ?_
  refine lv_goto (tgt := 26) (pc := 22) hx hb dX8_high_22 (by decide) ?_
  exact x_reti (pc := 26) hx hb hr hlk fm1 (by rw [Nat.mod_eq_of_lt (show C r < 2 ^ 96 from hC)]) hP hK hD hS dX8_high_26
abbrev rm_c_scale : Room := { frames := 1, cells := 0, slots := 0, locals := 20 }
set_option maxHeartbeats 4000000 in
set_option maxRecDepth 100000 in
theorem c_scale (l : Launch) (D : va_G) (cI cL cC cB cZ cR : ClassId) (sz : Nat) (m9 ad as9 ab at9 ao al an ae ap9 aq ar am : Nat) (th si le pl fd9 gr bk kp pe : Int32) (r : Nat) (X9 : Nat → Nat) (f : Nat → Int32) (hf : rI 6 f X9) (hr6 : r < 6) : Met l yX8_scale wsX8_scale rm_c_scale (xPc D vwCl (tyAll cI cL cC cB cZ cR) [.ref m9, .int (nI r)] [(m9, .inr (8, [.int th, .ref ad, .ref as9, .ref ab, .int si, .ref at9, .int le, .ref ao, .ref al, .ref an, .ref ae, .ref ap9, .ref aq, .ref ar, .ref am, .int pl, .int fd9, .int gr, .int bk, .int kp, .int pe])), (as9, .inl (cI, 6, .inl f))] sz) (va_Qi (fun (z : Int32) (_ : Unit) => z = nI (X9 r)) (xB D vwCl (tyAll cI cL cC cB cZ cR) (va_A [(m9, .inr (8, [.int th, .ref ad, .ref as9, .ref ab, .int si, .ref at9, .int le, .ref ao, .ref al, .ref an, .ref ae, .ref ap9, .ref aq, .ref ar, .ref am, .int pl, .int fd9, .int gr, .int bk, .int kp, .int pe])), (as9, .inl (cI, 6, .inl f))] sz) (fun u : Unit => [(m9, .inr (8, [.int (nI 0), .ref ad, .ref as9, .ref ab, .int si, .ref at9, .int le, .ref ao, .ref al, .ref an, .ref ae, .ref ap9, .ref aq, .ref ar, .ref am, .int pl, .int fd9, .int gr, .int bk, .int kp, .int pe])), (as9, .inl (cI, 6, .inl f))])) (va_A [(m9, .inr (8, [.int th, .ref ad, .ref as9, .ref ab, .int si, .ref at9, .int le, .ref ao, .ref al, .ref an, .ref ae, .ref ap9, .ref aq, .ref ar, .ref am, .int pl, .int fd9, .int gr, .int bk, .int kp, .int pe])), (as9, .inl (cI, 6, .inl f))] sz)) 0 0 (va_A [(m9, .inr (8, [.int th, .ref ad, .ref as9, .ref ab, .int si, .ref at9, .int le, .ref ao, .ref al, .ref an, .ref ae, .ref ap9, .ref aq, .ref ar, .ref am, .int pl, .int fd9, .int gr, .int bk, .int kp, .int pe])), (as9, .inl (cI, 6, .inl f))] sz) := by
  refine x_of (Qc := fun A => va_Qi (fun (z : Int32) (_ : Unit) => z = nI (X9 r)) (xB D vwCl (tyAll cI cL cC cB cZ cR) A (fun u : Unit => [(m9, .inr (8, [.int (nI 0), .ref ad, .ref as9, .ref ab, .int si, .ref at9, .int le, .ref ao, .ref al, .ref an, .ref ae, .ref ap9, .ref aq, .ref ar, .ref am, .int pl, .int fd9, .int gr, .int bk, .int kp, .int pe])), (as9, .inl (cI, 6, .inl f))])) A) (by decide) rfl (Nat.le_of_ble_eq_true rfl) ?_
  intro p e s m args below meth c A H locs ls hx hb hr hts0 hown hlk hml hnm hP hK hD hN hA hS hl
  have hts : ∀ w ∈ wsA, w.before args s = true := fun w h => hts0 w (List.mem_cons_of_mem _ h)
  have hown : s.vm.findClass "WideDecimalDeskModel" = some m.cls := hown
  have hl : lv_has ls 2 [(0, .ref m9), (1, .int (nI r))] := hl
  refine lv_aload_n (pc := 0) hx hb dX8_scale_0 rfl (lv_at hl 0 rfl) ?_
  refine lv_iconst (v := nI 0) (pc := 1) hx hb dX8_scale_1 kI_0 ?_
  refine va_put (D := D) (ci := 8) (v := .int (nI 0)) (ty := .int) (C := RX8) (T := TX8) (N := 21) (pc := 2) hx hb hts in_X8 tyX8 ty_X8 nm_X8 hown hK hP hD hS 0 rfl rfl 0 (by decide) (hts _ kw_697) (fun _ h9 => h9) rfl (by decide +kernel) rfl rfl (Nat.le_of_ble_eq_true rfl) dX8_scale_2 (fun H locs hP hD hS => ?_)
  have hP : va_P D vwCl [(m9, .inr (8, [.int (nI 0), .ref ad, .ref as9, .ref ab, .int si, .ref at9, .int le, .ref ao, .ref al, .ref an, .ref ae, .ref ap9, .ref aq, .ref ar, .ref am, .int pl, .int fd9, .int gr, .int bk, .int kp, .int pe])), (as9, .inl (cI, 6, .inl f))] H := hP
  have hD : va_D A [(m9, .inr (8, [.int (nI 0), .ref ad, .ref as9, .ref ab, .int si, .ref at9, .int le, .ref ao, .ref al, .ref an, .ref ae, .ref ap9, .ref aq, .ref ar, .ref am, .int pl, .int fd9, .int gr, .int bk, .int kp, .int pe])), (as9, .inl (cI, 6, .inl f))] := hD
  refine lv_iload_n (pc := 5) hx hb dX8_scale_5 rfl (lv_at hl 1 rfl) ?_
  refine x_Si (pc := 6) (As := [.int (nI r)]) (rest := []) (wr := [(m9, .inr (8, [.int (nI 0), .ref ad, .ref as9, .ref ab, .int si, .ref at9, .int le, .ref ao, .ref al, .ref an, .ref ae, .ref ap9, .ref aq, .ref ar, .ref am, .int pl, .int fd9, .int gr, .int bk, .int kp, .int pe])), (as9, .inl (cI, 6, .inl f))]) ⟨hx, hb, hml, hown, hts⟩ (c_register l D cI cL cC cB cZ cR H.size (nI r) ) ⟨callB_of 1 hts (x_good kw_773) rfl rfl rfl (hts _ kw_9) (hts _ kw_771) dc_X8_register ⟨Nat.le_of_ble_eq_true rfl, Nat.le_of_ble_eq_true rfl⟩, hts _ kw_772⟩ rfl hl.1 rfl (Nat.le_of_ble_eq_true rfl) dX8_scale_6 ⟨Nat.le_refl _, Nat.le_refl _⟩ hN hK hP hD hS hA [] [0, 1] rfl rfl (by decide) (by decide) (by decide) (fun r6 u6 H locs q6 hP hD hS => ?_)
  have hP : va_P D vwCl [(m9, .inr (8, [.int (nI 0), .ref ad, .ref as9, .ref ab, .int si, .ref at9, .int le, .ref ao, .ref al, .ref an, .ref ae, .ref ap9, .ref aq, .ref ar, .ref am, .int pl, .int fd9, .int gr, .int bk, .int kp, .int pe])), (as9, .inl (cI, 6, .inl f))] H := hP
  have hD : va_D A [(m9, .inr (8, [.int (nI 0), .ref ad, .ref as9, .ref ab, .int si, .ref at9, .int le, .ref ao, .ref al, .ref an, .ref ae, .ref ap9, .ref aq, .ref ar, .ref am, .int pl, .int fd9, .int gr, .int bk, .int kp, .int pe])), (as9, .inl (cI, 6, .inl f))] := hD
  obtain rfl := q6
  have i_r : inR 6 (nI r) = 1 := inR_j (by decide) hr6
  refine x_if_eq (tgt := 21) (pc := 9) hx hb (by omega) dX8_scale_9 (by decide) (fun h9 => absurd h9 (by omega)) (fun h9 => ?_)
  refine lv_aload_n (pc := 12) hx hb dX8_scale_12 rfl (lv_at hl 0 rfl) ?_
  refine va_get (D := D) (ci := 8) (v := .ref as9) (C := RX8) (T := TX8) (N := 21) (pc := 13) hx hb hts in_X8 hown hK hP 0 rfl rfl 2 (by decide) (hts _ kw_699) (fun _ h9 => h9) rfl dX8_scale_13 ?_
  refine lv_iload_n (pc := 16) hx hb dX8_scale_16 rfl (lv_at hl 1 rfl) ?_
  refine x_iald (v := nI (X9 r)) (pc := 17) hx hb hK hP 1 0 rfl rfl (by omega) (by decide) (hf r hr6) dX8_scale_17 ?_
  refine lv_goto (tgt := 22) (pc := 18) hx hb dX8_scale_18 (by decide) ?_
  exact x_reti (pc := 22) hx hb hr hlk () rfl hP hK hD hS dX8_scale_22
abbrev rm_c_negative : Room := { frames := 1, cells := 0, slots := 0, locals := 20 }
set_option maxHeartbeats 4000000 in
set_option maxRecDepth 100000 in
theorem c_negative (l : Launch) (D : va_G) (cI cL cC cB cZ cR : ClassId) (sz : Nat) (m9 ad as9 ab at9 ao al an ae ap9 aq ar am : Nat) (th si le pl fd9 gr bk kp pe : Int32) (r : Nat) (X9 : Nat → Nat) (f : Nat → Int32) (hf : rI 6 f X9) (hr6 : r < 6) (hx9 : X9 r ≤ 1) : Met l yX8_negative wsX8_negative rm_c_negative (xPc D vwCl (tyAll cI cL cC cB cZ cR) [.ref m9, .int (nI r)] [(m9, .inr (8, [.int th, .ref ad, .ref as9, .ref ab, .int si, .ref at9, .int le, .ref ao, .ref al, .ref an, .ref ae, .ref ap9, .ref aq, .ref ar, .ref am, .int pl, .int fd9, .int gr, .int bk, .int kp, .int pe])), (ab, .inl (cZ, 6, .inl f))] sz) (va_Qi (fun (z : Int32) (_ : Unit) => z = nI (X9 r)) (xB D vwCl (tyAll cI cL cC cB cZ cR) (va_A [(m9, .inr (8, [.int th, .ref ad, .ref as9, .ref ab, .int si, .ref at9, .int le, .ref ao, .ref al, .ref an, .ref ae, .ref ap9, .ref aq, .ref ar, .ref am, .int pl, .int fd9, .int gr, .int bk, .int kp, .int pe])), (ab, .inl (cZ, 6, .inl f))] sz) (fun u : Unit => [(m9, .inr (8, [.int (nI 0), .ref ad, .ref as9, .ref ab, .int si, .ref at9, .int le, .ref ao, .ref al, .ref an, .ref ae, .ref ap9, .ref aq, .ref ar, .ref am, .int pl, .int fd9, .int gr, .int bk, .int kp, .int pe])), (ab, .inl (cZ, 6, .inl f))])) (va_A [(m9, .inr (8, [.int th, .ref ad, .ref as9, .ref ab, .int si, .ref at9, .int le, .ref ao, .ref al, .ref an, .ref ae, .ref ap9, .ref aq, .ref ar, .ref am, .int pl, .int fd9, .int gr, .int bk, .int kp, .int pe])), (ab, .inl (cZ, 6, .inl f))] sz)) 0 0 (va_A [(m9, .inr (8, [.int th, .ref ad, .ref as9, .ref ab, .int si, .ref at9, .int le, .ref ao, .ref al, .ref an, .ref ae, .ref ap9, .ref aq, .ref ar, .ref am, .int pl, .int fd9, .int gr, .int bk, .int kp, .int pe])), (ab, .inl (cZ, 6, .inl f))] sz) := by
  refine x_of (Qc := fun A => va_Qi (fun (z : Int32) (_ : Unit) => z = nI (X9 r)) (xB D vwCl (tyAll cI cL cC cB cZ cR) A (fun u : Unit => [(m9, .inr (8, [.int (nI 0), .ref ad, .ref as9, .ref ab, .int si, .ref at9, .int le, .ref ao, .ref al, .ref an, .ref ae, .ref ap9, .ref aq, .ref ar, .ref am, .int pl, .int fd9, .int gr, .int bk, .int kp, .int pe])), (ab, .inl (cZ, 6, .inl f))])) A) (by decide) rfl (Nat.le_of_ble_eq_true rfl) ?_
  intro p e s m args below meth c A H locs ls hx hb hr hts0 hown hlk hml hnm hP hK hD hN hA hS hl
  have hts : ∀ w ∈ wsA, w.before args s = true := fun w h => hts0 w (List.mem_cons_of_mem _ h)
  have hown : s.vm.findClass "WideDecimalDeskModel" = some m.cls := hown
  have hl : lv_has ls 2 [(0, .ref m9), (1, .int (nI r))] := hl
  refine lv_aload_n (pc := 0) hx hb dX8_negative_0 rfl (lv_at hl 0 rfl) ?_
  refine lv_iconst (v := nI 0) (pc := 1) hx hb dX8_negative_1 kI_0 ?_
  refine va_put (D := D) (ci := 8) (v := .int (nI 0)) (ty := .int) (C := RX8) (T := TX8) (N := 21) (pc := 2) hx hb hts in_X8 tyX8 ty_X8 nm_X8 hown hK hP hD hS 0 rfl rfl 0 (by decide) (hts _ kw_697) (fun _ h9 => h9) rfl (by decide +kernel) rfl rfl (Nat.le_of_ble_eq_true rfl) dX8_negative_2 (fun H locs hP hD hS => ?_)
  have hP : va_P D vwCl [(m9, .inr (8, [.int (nI 0), .ref ad, .ref as9, .ref ab, .int si, .ref at9, .int le, .ref ao, .ref al, .ref an, .ref ae, .ref ap9, .ref aq, .ref ar, .ref am, .int pl, .int fd9, .int gr, .int bk, .int kp, .int pe])), (ab, .inl (cZ, 6, .inl f))] H := hP
  have hD : va_D A [(m9, .inr (8, [.int (nI 0), .ref ad, .ref as9, .ref ab, .int si, .ref at9, .int le, .ref ao, .ref al, .ref an, .ref ae, .ref ap9, .ref aq, .ref ar, .ref am, .int pl, .int fd9, .int gr, .int bk, .int kp, .int pe])), (ab, .inl (cZ, 6, .inl f))] := hD
  refine lv_iload_n (pc := 5) hx hb dX8_negative_5 rfl (lv_at hl 1 rfl) ?_
  refine x_Si (pc := 6) (As := [.int (nI r)]) (rest := []) (wr := [(m9, .inr (8, [.int (nI 0), .ref ad, .ref as9, .ref ab, .int si, .ref at9, .int le, .ref ao, .ref al, .ref an, .ref ae, .ref ap9, .ref aq, .ref ar, .ref am, .int pl, .int fd9, .int gr, .int bk, .int kp, .int pe])), (ab, .inl (cZ, 6, .inl f))]) ⟨hx, hb, hml, hown, hts⟩ (c_register l D cI cL cC cB cZ cR H.size (nI r) ) ⟨callB_of 1 hts (x_good kw_773) rfl rfl rfl (hts _ kw_9) (hts _ kw_771) dc_X8_register ⟨Nat.le_of_ble_eq_true rfl, Nat.le_of_ble_eq_true rfl⟩, hts _ kw_772⟩ rfl hl.1 rfl (Nat.le_of_ble_eq_true rfl) dX8_negative_6 ⟨Nat.le_refl _, Nat.le_refl _⟩ hN hK hP hD hS hA [] [0, 1] rfl rfl (by decide) (by decide) (by decide) (fun r6 u6 H locs q6 hP hD hS => ?_)
  have hP : va_P D vwCl [(m9, .inr (8, [.int (nI 0), .ref ad, .ref as9, .ref ab, .int si, .ref at9, .int le, .ref ao, .ref al, .ref an, .ref ae, .ref ap9, .ref aq, .ref ar, .ref am, .int pl, .int fd9, .int gr, .int bk, .int kp, .int pe])), (ab, .inl (cZ, 6, .inl f))] H := hP
  have hD : va_D A [(m9, .inr (8, [.int (nI 0), .ref ad, .ref as9, .ref ab, .int si, .ref at9, .int le, .ref ao, .ref al, .ref an, .ref ae, .ref ap9, .ref aq, .ref ar, .ref am, .int pl, .int fd9, .int gr, .int bk, .int kp, .int pe])), (ab, .inl (cZ, 6, .inl f))] := hD
  obtain rfl := q6
  have i_r : inR 6 (nI r) = 1 := inR_j (by decide) hr6
  refine x_if_eq (tgt := 25) (pc := 9) hx hb (by omega) dX8_negative_9 (by decide) (fun h9 => absurd h9 (by omega)) (fun h9 => ?_)
  refine lv_aload_n (pc := 12) hx hb dX8_negative_12 rfl (lv_at hl 0 rfl) ?_
  refine va_get (D := D) (ci := 8) (v := .ref ab) (C := RX8) (T := TX8) (N := 21) (pc := 13) hx hb hts in_X8 hown hK hP 0 rfl rfl 3 (by decide) (hts _ kw_700) (fun _ h9 => h9) rfl dX8_negative_13 ?_
  refine lv_iload_n (pc := 16) hx hb dX8_negative_16 rfl (lv_at hl 1 rfl) ?_
  refine x_zald (v := nI (X9 r)) (pc := 17) hx hb hK hP 1 4 rfl rfl (by omega) (by decide) (hf r hr6) dX8_negative_17 ?_
  refine x_if_eq (tgt := 25) (pc := 18) hx hb (by omega) dX8_negative_18 (by decide) (fun h1 => ?_) (fun h1 => ?_)
  · refine lv_iconst (v := nI 0) (pc := 25) hx hb dX8_negative_25 kI_0 ?_
    exact x_retz (pc := 26) rfl hx hb hr hlk () (congrArg nI (by omega)) hP hK hD hS dX8_negative_26
  · refine lv_iconst (v := nI 1) (pc := 21) hx hb dX8_negative_21 kI_1 ?_
    refine lv_goto (tgt := 26) (pc := 22) hx hb dX8_negative_22 (by decide) ?_
    exact x_retz (pc := 26) rfl hx hb hr hlk () (congrArg nI (by omega)) hP hK hD hS dX8_negative_26
abbrev rm_c_low_bad : Room := { frames := 1, cells := 0, slots := 0, locals := 20 }
set_option maxHeartbeats 4000000 in
set_option maxRecDepth 100000 in
theorem c_low_bad (l : Launch) (D : va_G) (cI cL cC cB cZ cR : ClassId) (sz : Nat) (m9 ad as9 ab at9 ao al an ae ap9 aq ar am : Nat) (th si le pl fd9 gr bk kp pe : Int32) (r : Int32) (hbad : inR 6 r = 0) : Met l yX8_low wsX8_low rm_c_low_bad (xPc D vwCl (tyAll cI cL cC cB cZ cR) [.ref m9, .int r] [(m9, .inr (8, [.int th, .ref ad, .ref as9, .ref ab, .int si, .ref at9, .int le, .ref ao, .ref al, .ref an, .ref ae, .ref ap9, .ref aq, .ref ar, .ref am, .int pl, .int fd9, .int gr, .int bk, .int kp, .int pe]))] sz) (va_Ql (fun (z : Int64) (_ : Unit) => z = lN 0) (xB D vwCl (tyAll cI cL cC cB cZ cR) (va_A [(m9, .inr (8, [.int th, .ref ad, .ref as9, .ref ab, .int si, .ref at9, .int le, .ref ao, .ref al, .ref an, .ref ae, .ref ap9, .ref aq, .ref ar, .ref am, .int pl, .int fd9, .int gr, .int bk, .int kp, .int pe]))] sz) (fun u : Unit => [(m9, .inr (8, [.int (nI 0), .ref ad, .ref as9, .ref ab, .int si, .ref at9, .int le, .ref ao, .ref al, .ref an, .ref ae, .ref ap9, .ref aq, .ref ar, .ref am, .int pl, .int fd9, .int gr, .int bk, .int kp, .int pe]))])) (va_A [(m9, .inr (8, [.int th, .ref ad, .ref as9, .ref ab, .int si, .ref at9, .int le, .ref ao, .ref al, .ref an, .ref ae, .ref ap9, .ref aq, .ref ar, .ref am, .int pl, .int fd9, .int gr, .int bk, .int kp, .int pe]))] sz)) 0 0 (va_A [(m9, .inr (8, [.int th, .ref ad, .ref as9, .ref ab, .int si, .ref at9, .int le, .ref ao, .ref al, .ref an, .ref ae, .ref ap9, .ref aq, .ref ar, .ref am, .int pl, .int fd9, .int gr, .int bk, .int kp, .int pe]))] sz) := by
  refine x_of (Qc := fun A => va_Ql (fun (z : Int64) (_ : Unit) => z = lN 0) (xB D vwCl (tyAll cI cL cC cB cZ cR) A (fun u : Unit => [(m9, .inr (8, [.int (nI 0), .ref ad, .ref as9, .ref ab, .int si, .ref at9, .int le, .ref ao, .ref al, .ref an, .ref ae, .ref ap9, .ref aq, .ref ar, .ref am, .int pl, .int fd9, .int gr, .int bk, .int kp, .int pe]))])) A) (by decide) rfl (Nat.le_of_ble_eq_true rfl) ?_
  intro p e s m args below meth c A H locs ls hx hb hr hts0 hown hlk hml hnm hP hK hD hN hA hS hl
  have hts : ∀ w ∈ wsA, w.before args s = true := fun w h => hts0 w (List.mem_cons_of_mem _ h)
  have hown : s.vm.findClass "WideDecimalDeskModel" = some m.cls := hown
  have hl : lv_has ls 2 [(0, .ref m9), (1, .int r)] := hl
  refine lv_aload_n (pc := 0) hx hb dX8_low_0 rfl (lv_at hl 0 rfl) ?_
  refine lv_iconst (v := nI 0) (pc := 1) hx hb dX8_low_1 kI_0 ?_
  refine va_put (D := D) (ci := 8) (v := .int (nI 0)) (ty := .int) (C := RX8) (T := TX8) (N := 21) (pc := 2) hx hb hts in_X8 tyX8 ty_X8 nm_X8 hown hK hP hD hS 0 rfl rfl 0 (by decide) (hts _ kw_697) (fun _ h9 => h9) rfl (by decide +kernel) rfl rfl (Nat.le_of_ble_eq_true rfl) dX8_low_2 (fun H locs hP hD hS => ?_)
  have hP : va_P D vwCl [(m9, .inr (8, [.int (nI 0), .ref ad, .ref as9, .ref ab, .int si, .ref at9, .int le, .ref ao, .ref al, .ref an, .ref ae, .ref ap9, .ref aq, .ref ar, .ref am, .int pl, .int fd9, .int gr, .int bk, .int kp, .int pe]))] H := hP
  have hD : va_D A [(m9, .inr (8, [.int (nI 0), .ref ad, .ref as9, .ref ab, .int si, .ref at9, .int le, .ref ao, .ref al, .ref an, .ref ae, .ref ap9, .ref aq, .ref ar, .ref am, .int pl, .int fd9, .int gr, .int bk, .int kp, .int pe]))] := hD
  refine lv_iload_n (pc := 5) hx hb dX8_low_5 rfl (lv_at hl 1 rfl) ?_
  refine x_Si (pc := 6) (As := [.int r]) (rest := []) (wr := [(m9, .inr (8, [.int (nI 0), .ref ad, .ref as9, .ref ab, .int si, .ref at9, .int le, .ref ao, .ref al, .ref an, .ref ae, .ref ap9, .ref aq, .ref ar, .ref am, .int pl, .int fd9, .int gr, .int bk, .int kp, .int pe]))]) ⟨hx, hb, hml, hown, hts⟩ (c_register l D cI cL cC cB cZ cR H.size r ) ⟨callB_of 1 hts (x_good kw_773) rfl rfl rfl (hts _ kw_9) (hts _ kw_771) dc_X8_register ⟨Nat.le_of_ble_eq_true rfl, Nat.le_of_ble_eq_true rfl⟩, hts _ kw_772⟩ rfl hl.1 rfl (Nat.le_of_ble_eq_true rfl) dX8_low_6 ⟨Nat.le_refl _, Nat.le_refl _⟩ hN hK hP hD hS hA [] [0] rfl rfl (by decide) (by decide) (by decide) (fun r6 u6 H locs q6 hP hD hS => ?_)
  have hP : va_P D vwCl [(m9, .inr (8, [.int (nI 0), .ref ad, .ref as9, .ref ab, .int si, .ref at9, .int le, .ref ao, .ref al, .ref an, .ref ae, .ref ap9, .ref aq, .ref ar, .ref am, .int pl, .int fd9, .int gr, .int bk, .int kp, .int pe]))] H := hP
  have hD : va_D A [(m9, .inr (8, [.int (nI 0), .ref ad, .ref as9, .ref ab, .int si, .ref at9, .int le, .ref ao, .ref al, .ref an, .ref ae, .ref ap9, .ref aq, .ref ar, .ref am, .int pl, .int fd9, .int gr, .int bk, .int kp, .int pe]))] := hD
  obtain rfl := q6
  have i_r := inR_le 6 r
  refine x_if_eq (tgt := 23) (pc := 9) hx hb (by omega) dX8_low_9 (by decide) (fun h9 => ?_) (fun h9 => absurd h9 (by omega))
  refine lv_lconst (v := lN 0) (pc := 23) hx hb dX8_low_23 rfl ?_
  exact x_retl (pc := 24) hx hb hr hlk () rfl hP hK hD hS dX8_low_24
abbrev rm_c_high_bad : Room := { frames := 1, cells := 0, slots := 0, locals := 20 }
set_option maxHeartbeats 4000000 in
set_option maxRecDepth 100000 in
theorem c_high_bad (l : Launch) (D : va_G) (cI cL cC cB cZ cR : ClassId) (sz : Nat) (m9 ad as9 ab at9 ao al an ae ap9 aq ar am : Nat) (th si le pl fd9 gr bk kp pe : Int32) (r : Int32) (hbad : inR 6 r = 0) : Met l yX8_high wsX8_high rm_c_high_bad (xPc D vwCl (tyAll cI cL cC cB cZ cR) [.ref m9, .int r] [(m9, .inr (8, [.int th, .ref ad, .ref as9, .ref ab, .int si, .ref at9, .int le, .ref ao, .ref al, .ref an, .ref ae, .ref ap9, .ref aq, .ref ar, .ref am, .int pl, .int fd9, .int gr, .int bk, .int kp, .int pe]))] sz) (va_Qi (fun (z : Int32) (_ : Unit) => z = nI 0) (xB D vwCl (tyAll cI cL cC cB cZ cR) (va_A [(m9, .inr (8, [.int th, .ref ad, .ref as9, .ref ab, .int si, .ref at9, .int le, .ref ao, .ref al, .ref an, .ref ae, .ref ap9, .ref aq, .ref ar, .ref am, .int pl, .int fd9, .int gr, .int bk, .int kp, .int pe]))] sz) (fun u : Unit => [(m9, .inr (8, [.int (nI 0), .ref ad, .ref as9, .ref ab, .int si, .ref at9, .int le, .ref ao, .ref al, .ref an, .ref ae, .ref ap9, .ref aq, .ref ar, .ref am, .int pl, .int fd9, .int gr, .int bk, .int kp, .int pe]))])) (va_A [(m9, .inr (8, [.int th, .ref ad, .ref as9, .ref ab, .int si, .ref at9, .int le, .ref ao, .ref al, .ref an, .ref ae, .ref ap9, .ref aq, .ref ar, .ref am, .int pl, .int fd9, .int gr, .int bk, .int kp, .int pe]))] sz)) 0 0 (va_A [(m9, .inr (8, [.int th, .ref ad, .ref as9, .ref ab, .int si, .ref at9, .int le, .ref ao, .ref al, .ref an, .ref ae, .ref ap9, .ref aq, .ref ar, .ref am, .int pl, .int fd9, .int gr, .int bk, .int kp, .int pe]))] sz) := by
  refine x_of (Qc := fun A => va_Qi (fun (z : Int32) (_ : Unit) => z = nI 0) (xB D vwCl (tyAll cI cL cC cB cZ cR) A (fun u : Unit => [(m9, .inr (8, [.int (nI 0), .ref ad, .ref as9, .ref ab, .int si, .ref at9, .int le, .ref ao, .ref al, .ref an, .ref ae, .ref ap9, .ref aq, .ref ar, .ref am, .int pl, .int fd9, .int gr, .int bk, .int kp, .int pe]))])) A) (by decide) rfl (Nat.le_of_ble_eq_true rfl) ?_
  intro p e s m args below meth c A H locs ls hx hb hr hts0 hown hlk hml hnm hP hK hD hN hA hS hl
  have hts : ∀ w ∈ wsA, w.before args s = true := fun w h => hts0 w (List.mem_cons_of_mem _ h)
  have hown : s.vm.findClass "WideDecimalDeskModel" = some m.cls := hown
  have hl : lv_has ls 2 [(0, .ref m9), (1, .int r)] := hl
  refine lv_aload_n (pc := 0) hx hb dX8_high_0 rfl (lv_at hl 0 rfl) ?_
  refine lv_iconst (v := nI 0) (pc := 1) hx hb dX8_high_1 kI_0 ?_
  refine va_put (D := D) (ci := 8) (v := .int (nI 0)) (ty := .int) (C := RX8) (T := TX8) (N := 21) (pc := 2) hx hb hts in_X8 tyX8 ty_X8 nm_X8 hown hK hP hD hS 0 rfl rfl 0 (by decide) (hts _ kw_697) (fun _ h9 => h9) rfl (by decide +kernel) rfl rfl (Nat.le_of_ble_eq_true rfl) dX8_high_2 (fun H locs hP hD hS => ?_)
  have hP : va_P D vwCl [(m9, .inr (8, [.int (nI 0), .ref ad, .ref as9, .ref ab, .int si, .ref at9, .int le, .ref ao, .ref al, .ref an, .ref ae, .ref ap9, .ref aq, .ref ar, .ref am, .int pl, .int fd9, .int gr, .int bk, .int kp, .int pe]))] H := hP
  have hD : va_D A [(m9, .inr (8, [.int (nI 0), .ref ad, .ref as9, .ref ab, .int si, .ref at9, .int le, .ref ao, .ref al, .ref an, .ref ae, .ref ap9, .ref aq, .ref ar, .ref am, .int pl, .int fd9, .int gr, .int bk, .int kp, .int pe]))] := hD
  refine lv_iload_n (pc := 5) hx hb dX8_high_5 rfl (lv_at hl 1 rfl) ?_
  refine x_Si (pc := 6) (As := [.int r]) (rest := []) (wr := [(m9, .inr (8, [.int (nI 0), .ref ad, .ref as9, .ref ab, .int si, .ref at9, .int le, .ref ao, .ref al, .ref an, .ref ae, .ref ap9, .ref aq, .ref ar, .ref am, .int pl, .int fd9, .int gr, .int bk, .int kp, .int pe]))]) ⟨hx, hb, hml, hown, hts⟩ (c_register l D cI cL cC cB cZ cR H.size r ) ⟨callB_of 1 hts (x_good kw_773) rfl rfl rfl (hts _ kw_9) (hts _ kw_771) dc_X8_register ⟨Nat.le_of_ble_eq_true rfl, Nat.le_of_ble_eq_true rfl⟩, hts _ kw_772⟩ rfl hl.1 rfl (Nat.le_of_ble_eq_true rfl) dX8_high_6 ⟨Nat.le_refl _, Nat.le_refl _⟩ hN hK hP hD hS hA [] [0] rfl rfl (by decide) (by decide) (by decide) (fun r6 u6 H locs q6 hP hD hS => ?_)
  have hP : va_P D vwCl [(m9, .inr (8, [.int (nI 0), .ref ad, .ref as9, .ref ab, .int si, .ref at9, .int le, .ref ao, .ref al, .ref an, .ref ae, .ref ap9, .ref aq, .ref ar, .ref am, .int pl, .int fd9, .int gr, .int bk, .int kp, .int pe]))] H := hP
  have hD : va_D A [(m9, .inr (8, [.int (nI 0), .ref ad, .ref as9, .ref ab, .int si, .ref at9, .int le, .ref ao, .ref al, .ref an, .ref ae, .ref ap9, .ref aq, .ref ar, .ref am, .int pl, .int fd9, .int gr, .int bk, .int kp, .int pe]))] := hD
  obtain rfl := q6
  have i_r := inR_le 6 r
  refine x_if_eq (tgt := 25) (pc := 9) hx hb (by omega) dX8_high_9 (by decide) (fun h9 => ?_) (fun h9 => absurd h9 (by omega))
  refine lv_iconst (v := nI 0) (pc := 25) hx hb dX8_high_25 kI_0 ?_
  exact x_reti (pc := 26) hx hb hr hlk () rfl hP hK hD hS dX8_high_26
abbrev rm_c_scale_bad : Room := { frames := 1, cells := 0, slots := 0, locals := 20 }
set_option maxHeartbeats 4000000 in
set_option maxRecDepth 100000 in
theorem c_scale_bad (l : Launch) (D : va_G) (cI cL cC cB cZ cR : ClassId) (sz : Nat) (m9 ad as9 ab at9 ao al an ae ap9 aq ar am : Nat) (th si le pl fd9 gr bk kp pe : Int32) (r : Int32) (hbad : inR 6 r = 0) : Met l yX8_scale wsX8_scale rm_c_scale_bad (xPc D vwCl (tyAll cI cL cC cB cZ cR) [.ref m9, .int r] [(m9, .inr (8, [.int th, .ref ad, .ref as9, .ref ab, .int si, .ref at9, .int le, .ref ao, .ref al, .ref an, .ref ae, .ref ap9, .ref aq, .ref ar, .ref am, .int pl, .int fd9, .int gr, .int bk, .int kp, .int pe]))] sz) (va_Qi (fun (z : Int32) (_ : Unit) => z = -1) (xB D vwCl (tyAll cI cL cC cB cZ cR) (va_A [(m9, .inr (8, [.int th, .ref ad, .ref as9, .ref ab, .int si, .ref at9, .int le, .ref ao, .ref al, .ref an, .ref ae, .ref ap9, .ref aq, .ref ar, .ref am, .int pl, .int fd9, .int gr, .int bk, .int kp, .int pe]))] sz) (fun u : Unit => [(m9, .inr (8, [.int (nI 0), .ref ad, .ref as9, .ref ab, .int si, .ref at9, .int le, .ref ao, .ref al, .ref an, .ref ae, .ref ap9, .ref aq, .ref ar, .ref am, .int pl, .int fd9, .int gr, .int bk, .int kp, .int pe]))])) (va_A [(m9, .inr (8, [.int th, .ref ad, .ref as9, .ref ab, .int si, .ref at9, .int le, .ref ao, .ref al, .ref an, .ref ae, .ref ap9, .ref aq, .ref ar, .ref am, .int pl, .int fd9, .int gr, .int bk, .int kp, .int pe]))] sz)) 0 0 (va_A [(m9, .inr (8, [.int th, .ref ad, .ref as9, .ref ab, .int si, .ref at9, .int le, .ref ao, .ref al, .ref an, .ref ae, .ref ap9, .ref aq, .ref ar, .ref am, .int pl, .int fd9, .int gr, .int bk, .int kp, .int pe]))] sz) := by
  refine x_of (Qc := fun A => va_Qi (fun (z : Int32) (_ : Unit) => z = -1) (xB D vwCl (tyAll cI cL cC cB cZ cR) A (fun u : Unit => [(m9, .inr (8, [.int (nI 0), .ref ad, .ref as9, .ref ab, .int si, .ref at9, .int le, .ref ao, .ref al, .ref an, .ref ae, .ref ap9, .ref aq, .ref ar, .ref am, .int pl, .int fd9, .int gr, .int bk, .int kp, .int pe]))])) A) (by decide) rfl (Nat.le_of_ble_eq_true rfl) ?_
  intro p e s m args below meth c A H locs ls hx hb hr hts0 hown hlk hml hnm hP hK hD hN hA hS hl
  have hts : ∀ w ∈ wsA, w.before args s = true := fun w h => hts0 w (List.mem_cons_of_mem _ h)
  have hown : s.vm.findClass "WideDecimalDeskModel" = some m.cls := hown
  have hl : lv_has ls 2 [(0, .ref m9), (1, .int r)] := hl
  refine lv_aload_n (pc := 0) hx hb dX8_scale_0 rfl (lv_at hl 0 rfl) ?_
  refine lv_iconst (v := nI 0) (pc := 1) hx hb dX8_scale_1 kI_0 ?_
  refine va_put (D := D) (ci := 8) (v := .int (nI 0)) (ty := .int) (C := RX8) (T := TX8) (N := 21) (pc := 2) hx hb hts in_X8 tyX8 ty_X8 nm_X8 hown hK hP hD hS 0 rfl rfl 0 (by decide) (hts _ kw_697) (fun _ h9 => h9) rfl (by decide +kernel) rfl rfl (Nat.le_of_ble_eq_true rfl) dX8_scale_2 (fun H locs hP hD hS => ?_)
  have hP : va_P D vwCl [(m9, .inr (8, [.int (nI 0), .ref ad, .ref as9, .ref ab, .int si, .ref at9, .int le, .ref ao, .ref al, .ref an, .ref ae, .ref ap9, .ref aq, .ref ar, .ref am, .int pl, .int fd9, .int gr, .int bk, .int kp, .int pe]))] H := hP
  have hD : va_D A [(m9, .inr (8, [.int (nI 0), .ref ad, .ref as9, .ref ab, .int si, .ref at9, .int le, .ref ao, .ref al, .ref an, .ref ae, .ref ap9, .ref aq, .ref ar, .ref am, .int pl, .int fd9, .int gr, .int bk, .int kp, .int pe]))] := hD
  refine lv_iload_n (pc := 5) hx hb dX8_scale_5 rfl (lv_at hl 1 rfl) ?_
  refine x_Si (pc := 6) (As := [.int r]) (rest := []) (wr := [(m9, .inr (8, [.int (nI 0), .ref ad, .ref as9, .ref ab, .int si, .ref at9, .int le, .ref ao, .ref al, .ref an, .ref ae, .ref ap9, .ref aq, .ref ar, .ref am, .int pl, .int fd9, .int gr, .int bk, .int kp, .int pe]))]) ⟨hx, hb, hml, hown, hts⟩ (c_register l D cI cL cC cB cZ cR H.size r ) ⟨callB_of 1 hts (x_good kw_773) rfl rfl rfl (hts _ kw_9) (hts _ kw_771) dc_X8_register ⟨Nat.le_of_ble_eq_true rfl, Nat.le_of_ble_eq_true rfl⟩, hts _ kw_772⟩ rfl hl.1 rfl (Nat.le_of_ble_eq_true rfl) dX8_scale_6 ⟨Nat.le_refl _, Nat.le_refl _⟩ hN hK hP hD hS hA [] [0] rfl rfl (by decide) (by decide) (by decide) (fun r6 u6 H locs q6 hP hD hS => ?_)
  have hP : va_P D vwCl [(m9, .inr (8, [.int (nI 0), .ref ad, .ref as9, .ref ab, .int si, .ref at9, .int le, .ref ao, .ref al, .ref an, .ref ae, .ref ap9, .ref aq, .ref ar, .ref am, .int pl, .int fd9, .int gr, .int bk, .int kp, .int pe]))] H := hP
  have hD : va_D A [(m9, .inr (8, [.int (nI 0), .ref ad, .ref as9, .ref ab, .int si, .ref at9, .int le, .ref ao, .ref al, .ref an, .ref ae, .ref ap9, .ref aq, .ref ar, .ref am, .int pl, .int fd9, .int gr, .int bk, .int kp, .int pe]))] := hD
  obtain rfl := q6
  have i_r := inR_le 6 r
  refine x_if_eq (tgt := 21) (pc := 9) hx hb (by omega) dX8_scale_9 (by decide) (fun h9 => ?_) (fun h9 => absurd h9 (by omega))
  refine lv_iconst (v := -1) (pc := 21) hx hb dX8_scale_21 kI_m1 ?_
  exact x_reti (pc := 22) hx hb hr hlk () rfl hP hK hD hS dX8_scale_22
abbrev rm_c_negative_bad : Room := { frames := 1, cells := 0, slots := 0, locals := 20 }
set_option maxHeartbeats 4000000 in
set_option maxRecDepth 100000 in
theorem c_negative_bad (l : Launch) (D : va_G) (cI cL cC cB cZ cR : ClassId) (sz : Nat) (m9 ad as9 ab at9 ao al an ae ap9 aq ar am : Nat) (th si le pl fd9 gr bk kp pe : Int32) (r : Int32) (hbad : inR 6 r = 0) : Met l yX8_negative wsX8_negative rm_c_negative_bad (xPc D vwCl (tyAll cI cL cC cB cZ cR) [.ref m9, .int r] [(m9, .inr (8, [.int th, .ref ad, .ref as9, .ref ab, .int si, .ref at9, .int le, .ref ao, .ref al, .ref an, .ref ae, .ref ap9, .ref aq, .ref ar, .ref am, .int pl, .int fd9, .int gr, .int bk, .int kp, .int pe]))] sz) (va_Qi (fun (z : Int32) (_ : Unit) => z = nI 0) (xB D vwCl (tyAll cI cL cC cB cZ cR) (va_A [(m9, .inr (8, [.int th, .ref ad, .ref as9, .ref ab, .int si, .ref at9, .int le, .ref ao, .ref al, .ref an, .ref ae, .ref ap9, .ref aq, .ref ar, .ref am, .int pl, .int fd9, .int gr, .int bk, .int kp, .int pe]))] sz) (fun u : Unit => [(m9, .inr (8, [.int (nI 0), .ref ad, .ref as9, .ref ab, .int si, .ref at9, .int le, .ref ao, .ref al, .ref an, .ref ae, .ref ap9, .ref aq, .ref ar, .ref am, .int pl, .int fd9, .int gr, .int bk, .int kp, .int pe]))])) (va_A [(m9, .inr (8, [.int th, .ref ad, .ref as9, .ref ab, .int si, .ref at9, .int le, .ref ao, .ref al, .ref an, .ref ae, .ref ap9, .ref aq, .ref ar, .ref am, .int pl, .int fd9, .int gr, .int bk, .int kp, .int pe]))] sz)) 0 0 (va_A [(m9, .inr (8, [.int th, .ref ad, .ref as9, .ref ab, .int si, .ref at9, .int le, .ref ao, .ref al, .ref an, .ref ae, .ref ap9, .ref aq, .ref ar, .ref am, .int pl, .int fd9, .int gr, .int bk, .int kp, .int pe]))] sz) := by
  refine x_of (Qc := fun A => va_Qi (fun (z : Int32) (_ : Unit) => z = nI 0) (xB D vwCl (tyAll cI cL cC cB cZ cR) A (fun u : Unit => [(m9, .inr (8, [.int (nI 0), .ref ad, .ref as9, .ref ab, .int si, .ref at9, .int le, .ref ao, .ref al, .ref an, .ref ae, .ref ap9, .ref aq, .ref ar, .ref am, .int pl, .int fd9, .int gr, .int bk, .int kp, .int pe]))])) A) (by decide) rfl (Nat.le_of_ble_eq_true rfl) ?_
  intro p e s m args below meth c A H locs ls hx hb hr hts0 hown hlk hml hnm hP hK hD hN hA hS hl
  have hts : ∀ w ∈ wsA, w.before args s = true := fun w h => hts0 w (List.mem_cons_of_mem _ h)
  have hown : s.vm.findClass "WideDecimalDeskModel" = some m.cls := hown
  have hl : lv_has ls 2 [(0, .ref m9), (1, .int r)] := hl
  refine lv_aload_n (pc := 0) hx hb dX8_negative_0 rfl (lv_at hl 0 rfl) ?_
  refine lv_iconst (v := nI 0) (pc := 1) hx hb dX8_negative_1 kI_0 ?_
  refine va_put (D := D) (ci := 8) (v := .int (nI 0)) (ty := .int) (C := RX8) (T := TX8) (N := 21) (pc := 2) hx hb hts in_X8 tyX8 ty_X8 nm_X8 hown hK hP hD hS 0 rfl rfl 0 (by decide) (hts _ kw_697) (fun _ h9 => h9) rfl (by decide +kernel) rfl rfl (Nat.le_of_ble_eq_true rfl) dX8_negative_2 (fun H locs hP hD hS => ?_)
  have hP : va_P D vwCl [(m9, .inr (8, [.int (nI 0), .ref ad, .ref as9, .ref ab, .int si, .ref at9, .int le, .ref ao, .ref al, .ref an, .ref ae, .ref ap9, .ref aq, .ref ar, .ref am, .int pl, .int fd9, .int gr, .int bk, .int kp, .int pe]))] H := hP
  have hD : va_D A [(m9, .inr (8, [.int (nI 0), .ref ad, .ref as9, .ref ab, .int si, .ref at9, .int le, .ref ao, .ref al, .ref an, .ref ae, .ref ap9, .ref aq, .ref ar, .ref am, .int pl, .int fd9, .int gr, .int bk, .int kp, .int pe]))] := hD
  refine lv_iload_n (pc := 5) hx hb dX8_negative_5 rfl (lv_at hl 1 rfl) ?_
  refine x_Si (pc := 6) (As := [.int r]) (rest := []) (wr := [(m9, .inr (8, [.int (nI 0), .ref ad, .ref as9, .ref ab, .int si, .ref at9, .int le, .ref ao, .ref al, .ref an, .ref ae, .ref ap9, .ref aq, .ref ar, .ref am, .int pl, .int fd9, .int gr, .int bk, .int kp, .int pe]))]) ⟨hx, hb, hml, hown, hts⟩ (c_register l D cI cL cC cB cZ cR H.size r ) ⟨callB_of 1 hts (x_good kw_773) rfl rfl rfl (hts _ kw_9) (hts _ kw_771) dc_X8_register ⟨Nat.le_of_ble_eq_true rfl, Nat.le_of_ble_eq_true rfl⟩, hts _ kw_772⟩ rfl hl.1 rfl (Nat.le_of_ble_eq_true rfl) dX8_negative_6 ⟨Nat.le_refl _, Nat.le_refl _⟩ hN hK hP hD hS hA [] [0] rfl rfl (by decide) (by decide) (by decide) (fun r6 u6 H locs q6 hP hD hS => ?_)
  have hP : va_P D vwCl [(m9, .inr (8, [.int (nI 0), .ref ad, .ref as9, .ref ab, .int si, .ref at9, .int le, .ref ao, .ref al, .ref an, .ref ae, .ref ap9, .ref aq, .ref ar, .ref am, .int pl, .int fd9, .int gr, .int bk, .int kp, .int pe]))] H := hP
  have hD : va_D A [(m9, .inr (8, [.int (nI 0), .ref ad, .ref as9, .ref ab, .int si, .ref at9, .int le, .ref ao, .ref al, .ref an, .ref ae, .ref ap9, .ref aq, .ref ar, .ref am, .int pl, .int fd9, .int gr, .int bk, .int kp, .int pe]))] := hD
  obtain rfl := q6
  have i_r := inR_le 6 r
  refine x_if_eq (tgt := 25) (pc := 9) hx hb (by omega) dX8_negative_9 (by decide) (fun h9 => ?_) (fun h9 => absurd h9 (by omega))
  refine lv_iconst (v := nI 0) (pc := 25) hx hb dX8_negative_25 kI_0 ?_
  exact x_retz (pc := 26) rfl hx hb hr hlk () rfl hP hK hD hS dX8_negative_26
abbrev rm_c_thrown : Room := { frames := 0, cells := 0, slots := 0, locals := 0 }
set_option maxHeartbeats 4000000 in
set_option maxRecDepth 100000 in
theorem c_thrown (l : Launch) (D : va_G) (cI cL cC cB cZ cR : ClassId) (sz : Nat) (m9 ad as9 ab at9 ao al an ae ap9 aq ar am : Nat) (th si le pl fd9 gr bk kp pe : Int32)  : Met l yX8_thrown wsX8_thrown rm_c_thrown (xPc D vwCl (tyAll cI cL cC cB cZ cR) [.ref m9] [(m9, .inr (8, [.int th, .ref ad, .ref as9, .ref ab, .int si, .ref at9, .int le, .ref ao, .ref al, .ref an, .ref ae, .ref ap9, .ref aq, .ref ar, .ref am, .int pl, .int fd9, .int gr, .int bk, .int kp, .int pe]))] sz) (va_Qi (fun (z : Int32) (_ : Unit) => z = th) (xB D vwCl (tyAll cI cL cC cB cZ cR) (va_A [(m9, .inr (8, [.int th, .ref ad, .ref as9, .ref ab, .int si, .ref at9, .int le, .ref ao, .ref al, .ref an, .ref ae, .ref ap9, .ref aq, .ref ar, .ref am, .int pl, .int fd9, .int gr, .int bk, .int kp, .int pe]))] sz) (fun u : Unit => [(m9, .inr (8, [.int th, .ref ad, .ref as9, .ref ab, .int si, .ref at9, .int le, .ref ao, .ref al, .ref an, .ref ae, .ref ap9, .ref aq, .ref ar, .ref am, .int pl, .int fd9, .int gr, .int bk, .int kp, .int pe]))])) (va_A [(m9, .inr (8, [.int th, .ref ad, .ref as9, .ref ab, .int si, .ref at9, .int le, .ref ao, .ref al, .ref an, .ref ae, .ref ap9, .ref aq, .ref ar, .ref am, .int pl, .int fd9, .int gr, .int bk, .int kp, .int pe]))] sz)) 0 0 (va_A [(m9, .inr (8, [.int th, .ref ad, .ref as9, .ref ab, .int si, .ref at9, .int le, .ref ao, .ref al, .ref an, .ref ae, .ref ap9, .ref aq, .ref ar, .ref am, .int pl, .int fd9, .int gr, .int bk, .int kp, .int pe]))] sz) := by
  refine x_of (Qc := fun A => va_Qi (fun (z : Int32) (_ : Unit) => z = th) (xB D vwCl (tyAll cI cL cC cB cZ cR) A (fun u : Unit => [(m9, .inr (8, [.int th, .ref ad, .ref as9, .ref ab, .int si, .ref at9, .int le, .ref ao, .ref al, .ref an, .ref ae, .ref ap9, .ref aq, .ref ar, .ref am, .int pl, .int fd9, .int gr, .int bk, .int kp, .int pe]))])) A) (by decide) rfl (Nat.le_of_ble_eq_true rfl) ?_
  intro p e s m args below meth c A H locs ls hx hb hr hts0 hown hlk hml hnm hP hK hD hN hA hS hl
  have hts : ∀ w ∈ wsA, w.before args s = true := fun w h => hts0 w (List.mem_cons_of_mem _ h)
  have hown : s.vm.findClass "WideDecimalDeskModel" = some m.cls := hown
  have hl : lv_has ls 1 [(0, .ref m9)] := hl
  refine lv_aload_n (pc := 0) hx hb dX8_thrown_0 rfl (lv_at hl 0 rfl) ?_
  refine va_get (D := D) (ci := 8) (v := .int th) (C := RX8) (T := TX8) (N := 21) (pc := 1) hx hb hts in_X8 hown hK hP 0 rfl rfl 0 (by decide) (hts _ kw_697) (fun _ h9 => h9) rfl dX8_thrown_1 ?_
  exact x_reti (pc := 4) hx hb hr hlk () rfl hP hK hD hS dX8_thrown_4
abbrev rm_c_clear : Room := { frames := 0, cells := 0, slots := 0, locals := 0 }
set_option maxHeartbeats 4000000 in
set_option maxRecDepth 100000 in
theorem c_clear (l : Launch) (D : va_G) (cI cL cC cB cZ cR : ClassId) (sz : Nat) (m9 ad as9 ab at9 ao al an ae ap9 aq ar am : Nat) (th si le pl fd9 gr bk kp pe : Int32)  : Met l yX8_clear wsX8_clear rm_c_clear (xPc D vwCl (tyAll cI cL cC cB cZ cR) [.ref m9] [(m9, .inr (8, [.int th, .ref ad, .ref as9, .ref ab, .int si, .ref at9, .int le, .ref ao, .ref al, .ref an, .ref ae, .ref ap9, .ref aq, .ref ar, .ref am, .int pl, .int fd9, .int gr, .int bk, .int kp, .int pe]))] sz) (va_Qv (fun _ : Unit => True) (xB D vwCl (tyAll cI cL cC cB cZ cR) (va_A [(m9, .inr (8, [.int th, .ref ad, .ref as9, .ref ab, .int si, .ref at9, .int le, .ref ao, .ref al, .ref an, .ref ae, .ref ap9, .ref aq, .ref ar, .ref am, .int pl, .int fd9, .int gr, .int bk, .int kp, .int pe]))] sz) (fun u : Unit => [(m9, .inr (8, [.int (nI 0), .ref ad, .ref as9, .ref ab, .int (nI 0), .ref at9, .int le, .ref ao, .ref al, .ref an, .ref ae, .ref ap9, .ref aq, .ref ar, .ref am, .int pl, .int fd9, .int gr, .int bk, .int kp, .int pe]))])) (va_A [(m9, .inr (8, [.int th, .ref ad, .ref as9, .ref ab, .int si, .ref at9, .int le, .ref ao, .ref al, .ref an, .ref ae, .ref ap9, .ref aq, .ref ar, .ref am, .int pl, .int fd9, .int gr, .int bk, .int kp, .int pe]))] sz)) 0 0 (va_A [(m9, .inr (8, [.int th, .ref ad, .ref as9, .ref ab, .int si, .ref at9, .int le, .ref ao, .ref al, .ref an, .ref ae, .ref ap9, .ref aq, .ref ar, .ref am, .int pl, .int fd9, .int gr, .int bk, .int kp, .int pe]))] sz) := by
  refine x_of (Qc := fun A => va_Qv (fun _ : Unit => True) (xB D vwCl (tyAll cI cL cC cB cZ cR) A (fun u : Unit => [(m9, .inr (8, [.int (nI 0), .ref ad, .ref as9, .ref ab, .int (nI 0), .ref at9, .int le, .ref ao, .ref al, .ref an, .ref ae, .ref ap9, .ref aq, .ref ar, .ref am, .int pl, .int fd9, .int gr, .int bk, .int kp, .int pe]))])) A) (by decide) rfl (Nat.le_of_ble_eq_true rfl) ?_
  intro p e s m args below meth c A H locs ls hx hb hr hts0 hown hlk hml hnm hP hK hD hN hA hS hl
  have hts : ∀ w ∈ wsA, w.before args s = true := fun w h => hts0 w (List.mem_cons_of_mem _ h)
  have hown : s.vm.findClass "WideDecimalDeskModel" = some m.cls := hown
  have hl : lv_has ls 1 [(0, .ref m9)] := hl
  refine lv_aload_n (pc := 0) hx hb dX8_clear_0 rfl (lv_at hl 0 rfl) ?_
  refine lv_iconst (v := nI 0) (pc := 1) hx hb dX8_clear_1 kI_0 ?_
  refine va_put (D := D) (ci := 8) (v := .int (nI 0)) (ty := .int) (C := RX8) (T := TX8) (N := 21) (pc := 2) hx hb hts in_X8 tyX8 ty_X8 nm_X8 hown hK hP hD hS 0 rfl rfl 0 (by decide) (hts _ kw_697) (fun _ h9 => h9) rfl (by decide +kernel) rfl rfl (Nat.le_of_ble_eq_true rfl) dX8_clear_2 (fun H locs hP hD hS => ?_)
  have hP : va_P D vwCl [(m9, .inr (8, [.int (nI 0), .ref ad, .ref as9, .ref ab, .int si, .ref at9, .int le, .ref ao, .ref al, .ref an, .ref ae, .ref ap9, .ref aq, .ref ar, .ref am, .int pl, .int fd9, .int gr, .int bk, .int kp, .int pe]))] H := hP
  have hD : va_D A [(m9, .inr (8, [.int (nI 0), .ref ad, .ref as9, .ref ab, .int si, .ref at9, .int le, .ref ao, .ref al, .ref an, .ref ae, .ref ap9, .ref aq, .ref ar, .ref am, .int pl, .int fd9, .int gr, .int bk, .int kp, .int pe]))] := hD
  refine lv_aload_n (pc := 5) hx hb dX8_clear_5 rfl (lv_at hl 0 rfl) ?_
  refine lv_iconst (v := nI 0) (pc := 6) hx hb dX8_clear_6 kI_0 ?_
  refine va_put (D := D) (ci := 8) (v := .int (nI 0)) (ty := .int) (C := RX8) (T := TX8) (N := 21) (pc := 7) hx hb hts in_X8 tyX8 ty_X8 nm_X8 hown hK hP hD hS 0 rfl rfl 4 (by decide) (hts _ kw_701) (fun _ h9 => h9) rfl (by decide +kernel) rfl rfl (Nat.le_of_ble_eq_true rfl) dX8_clear_7 (fun H locs hP hD hS => ?_)
  have hP : va_P D vwCl [(m9, .inr (8, [.int (nI 0), .ref ad, .ref as9, .ref ab, .int (nI 0), .ref at9, .int le, .ref ao, .ref al, .ref an, .ref ae, .ref ap9, .ref aq, .ref ar, .ref am, .int pl, .int fd9, .int gr, .int bk, .int kp, .int pe]))] H := hP
  have hD : va_D A [(m9, .inr (8, [.int (nI 0), .ref ad, .ref as9, .ref ab, .int (nI 0), .ref at9, .int le, .ref ao, .ref al, .ref an, .ref ae, .ref ap9, .ref aq, .ref ar, .ref am, .int pl, .int fd9, .int gr, .int bk, .int kp, .int pe]))] := hD
  exact x_retv (pc := 10) hx hb hr hlk () trivial hP hK hD hS dX8_clear_10
abbrev rm_c_type : Room := { frames := 0, cells := 0, slots := 0, locals := 0 }
set_option maxHeartbeats 4000000 in
set_option maxRecDepth 100000 in
theorem c_type (l : Launch) (D : va_G) (cI cL cC cB cZ cR : ClassId) (sz : Nat) (m9 ad as9 ab at9 ao al an ae ap9 aq ar am : Nat) (th le pl fd9 gr bk kp pe : Int32) (c9 : Nat) (L : List Nat) (f : Nat → Int32) (hf : oR f L) (hL : L.length ≤ 40) (hc9 : c9 < 65536) : Met l yX8_type wsX8_type rm_c_type (xPc D vwCl (tyAll cI cL cC cB cZ cR) [.ref m9, .int (nI c9)] [(m9, .inr (8, [.int th, .ref ad, .ref as9, .ref ab, .int (nI L.length), .ref at9, .int le, .ref ao, .ref al, .ref an, .ref ae, .ref ap9, .ref aq, .ref ar, .ref am, .int pl, .int fd9, .int gr, .int bk, .int kp, .int pe])), (at9, .inl (cC, 40, .inl f))] sz) (va_Qi (fun (z : Int32) (u : (Int32 × (Nat → Int32))) => tyP L c9 z u.1 u.2) (xB D vwCl (tyAll cI cL cC cB cZ cR) (va_A [(m9, .inr (8, [.int th, .ref ad, .ref as9, .ref ab, .int (nI L.length), .ref at9, .int le, .ref ao, .ref al, .ref an, .ref ae, .ref ap9, .ref aq, .ref ar, .ref am, .int pl, .int fd9, .int gr, .int bk, .int kp, .int pe])), (at9, .inl (cC, 40, .inl f))] sz) (fun u : (Int32 × (Nat → Int32)) => [(m9, .inr (8, [.int (nI 0), .ref ad, .ref as9, .ref ab, .int u.1, .ref at9, .int le, .ref ao, .ref al, .ref an, .ref ae, .ref ap9, .ref aq, .ref ar, .ref am, .int pl, .int fd9, .int gr, .int bk, .int kp, .int pe])), (at9, .inl (cC, 40, .inl u.2))])) (va_A [(m9, .inr (8, [.int th, .ref ad, .ref as9, .ref ab, .int (nI L.length), .ref at9, .int le, .ref ao, .ref al, .ref an, .ref ae, .ref ap9, .ref aq, .ref ar, .ref am, .int pl, .int fd9, .int gr, .int bk, .int kp, .int pe])), (at9, .inl (cC, 40, .inl f))] sz)) 0 0 (va_A [(m9, .inr (8, [.int th, .ref ad, .ref as9, .ref ab, .int (nI L.length), .ref at9, .int le, .ref ao, .ref al, .ref an, .ref ae, .ref ap9, .ref aq, .ref ar, .ref am, .int pl, .int fd9, .int gr, .int bk, .int kp, .int pe])), (at9, .inl (cC, 40, .inl f))] sz) := by
  refine x_of (Qc := fun A => va_Qi (fun (z : Int32) (u : (Int32 × (Nat → Int32))) => tyP L c9 z u.1 u.2) (xB D vwCl (tyAll cI cL cC cB cZ cR) A (fun u : (Int32 × (Nat → Int32)) => [(m9, .inr (8, [.int (nI 0), .ref ad, .ref as9, .ref ab, .int u.1, .ref at9, .int le, .ref ao, .ref al, .ref an, .ref ae, .ref ap9, .ref aq, .ref ar, .ref am, .int pl, .int fd9, .int gr, .int bk, .int kp, .int pe])), (at9, .inl (cC, 40, .inl u.2))])) A) (by decide) rfl (Nat.le_of_ble_eq_true rfl) ?_
  intro p e s m args below meth c A H locs ls hx hb hr hts0 hown hlk hml hnm hP hK hD hN hA hS hl
  have hts : ∀ w ∈ wsA, w.before args s = true := fun w h => hts0 w (List.mem_cons_of_mem _ h)
  have hown : s.vm.findClass "WideDecimalDeskModel" = some m.cls := hown
  have hl : lv_has ls 2 [(0, .ref m9), (1, .int (nI c9))] := hl
  refine lv_aload_n (pc := 0) hx hb dX8_type_0 rfl (lv_at hl 0 rfl) ?_
  refine lv_iconst (v := nI 0) (pc := 1) hx hb dX8_type_1 kI_0 ?_
  refine va_put (D := D) (ci := 8) (v := .int (nI 0)) (ty := .int) (C := RX8) (T := TX8) (N := 21) (pc := 2) hx hb hts in_X8 tyX8 ty_X8 nm_X8 hown hK hP hD hS 0 rfl rfl 0 (by decide) (hts _ kw_697) (fun _ h9 => h9) rfl (by decide +kernel) rfl rfl (Nat.le_of_ble_eq_true rfl) dX8_type_2 (fun H locs hP hD hS => ?_)
  have hP : va_P D vwCl [(m9, .inr (8, [.int (nI 0), .ref ad, .ref as9, .ref ab, .int (nI L.length), .ref at9, .int le, .ref ao, .ref al, .ref an, .ref ae, .ref ap9, .ref aq, .ref ar, .ref am, .int pl, .int fd9, .int gr, .int bk, .int kp, .int pe])), (at9, .inl (cC, 40, .inl f))] H := hP
  have hD : va_D A [(m9, .inr (8, [.int (nI 0), .ref ad, .ref as9, .ref ab, .int (nI L.length), .ref at9, .int le, .ref ao, .ref al, .ref an, .ref ae, .ref ap9, .ref aq, .ref ar, .ref am, .int pl, .int fd9, .int gr, .int bk, .int kp, .int pe])), (at9, .inl (cC, 40, .inl f))] := hD
  refine lv_iload_n (pc := 5) hx hb dX8_type_5 rfl (lv_at hl 1 rfl) ?_
  refine lv_bipush (v := nI 32) (pc := 6) hx hb dX8_type_6 (by decide +kernel) ?_
  refine x_icmp_lt (tgt := 26) (pc := 8) hx hb (by omega) (by omega) dX8_type_8 (by decide) (fun h1 => ?_) (fun h1 => ?_)
  · refine lv_iconst (v := nI 0) (pc := 26) hx hb dX8_type_26 kI_0 ?_
    exact x_retz (pc := 27) rfl hx hb hr hlk (nI L.length, f) (tyP_n (by omega) hf) hP hK hD hS dX8_type_27
  · refine lv_iload_n (pc := 11) hx hb dX8_type_11 rfl (lv_at hl 1 rfl) ?_
    refine lv_bipush (v := nI 126) (pc := 12) hx hb dX8_type_12 (by decide +kernel) ?_
    refine x_icmp_gt (tgt := 26) (pc := 14) hx hb (by omega) (by omega) dX8_type_14 (by decide) (fun h2 => ?_) (fun h2 => ?_)
    · refine lv_iconst (v := nI 0) (pc := 26) hx hb dX8_type_26 kI_0 ?_
      exact x_retz (pc := 27) rfl hx hb hr hlk (nI L.length, f) (tyP_n (by omega) hf) hP hK hD hS dX8_type_27
    · refine lv_aload_n (pc := 17) hx hb dX8_type_17 rfl (lv_at hl 0 rfl) ?_
      refine va_get (D := D) (ci := 8) (v := .int (nI L.length)) (C := RX8) (T := TX8) (N := 21) (pc := 18) hx hb hts in_X8 hown hK hP 0 rfl rfl 4 (by decide) (hts _ kw_701) (fun _ h9 => h9) rfl dX8_type_18 ?_
      refine lv_bipush (v := nI 40) (pc := 21) hx hb dX8_type_21 (by decide +kernel) ?_
      refine x_icmp_ne (tgt := 28) (pc := 23) hx hb (by omega) (by omega) dX8_type_23 (by decide) (fun h3 => ?_) (fun h3 => ?_)
      · refine lv_aload_n (pc := 28) hx hb dX8_type_28 rfl (lv_at hl 0 rfl) ?_
        refine va_get (D := D) (ci := 8) (v := .ref at9) (C := RX8) (T := TX8) (N := 21) (pc := 29) hx hb hts in_X8 hown hK hP 0 rfl rfl 5 (by decide) (hts _ kw_702) (fun _ h9 => h9) rfl dX8_type_29 ?_
        refine lv_aload_n (pc := 32) hx hb dX8_type_32 rfl (lv_at hl 0 rfl) ?_
        refine va_get (D := D) (ci := 8) (v := .int (nI L.length)) (C := RX8) (T := TX8) (N := 21) (pc := 33) hx hb hts in_X8 hown hK hP 0 rfl rfl 4 (by decide) (hts _ kw_701) (fun _ h9 => h9) rfl dX8_type_33 ?_
        refine lv_iload_n (pc := 36) hx hb dX8_type_36 rfl (lv_at hl 1 rfl) ?_
        refine x_cast (pc := 37) hx hb hK hP hD hS 1 2 rfl rfl (by omega) (by decide) (x_fc hc9) dX8_type_37 (fun H locs hP hD hS => ?_)
        have hP : va_P D vwCl [(m9, .inr (8, [.int (nI 0), .ref ad, .ref as9, .ref ab, .int (nI L.length), .ref at9, .int le, .ref ao, .ref al, .ref an, .ref ae, .ref ap9, .ref aq, .ref ar, .ref am, .int pl, .int fd9, .int gr, .int bk, .int kp, .int pe])), (at9, .inl (cC, 40, .inl (upd f L.length (nI c9))))] H := hP
        have hD : va_D A [(m9, .inr (8, [.int (nI 0), .ref ad, .ref as9, .ref ab, .int (nI L.length), .ref at9, .int le, .ref ao, .ref al, .ref an, .ref ae, .ref ap9, .ref aq, .ref ar, .ref am, .int pl, .int fd9, .int gr, .int bk, .int kp, .int pe])), (at9, .inl (cC, 40, .inl (upd f L.length (nI c9))))] := hD
        refine lv_aload_n (pc := 38) hx hb dX8_type_38 rfl (lv_at hl 0 rfl) ?_
        refine lv_dup (pc := 39) hx hb dX8_type_39 rfl ?_
        refine va_get (D := D) (ci := 8) (v := .int (nI L.length)) (C := RX8) (T := TX8) (N := 21) (pc := 40) hx hb hts in_X8 hown hK hP 0 rfl rfl 4 (by decide) (hts _ kw_701) (fun _ h9 => h9) rfl dX8_type_40 ?_
        refine lv_iconst (v := nI 1) (pc := 43) hx hb dX8_type_43 kI_1 ?_
        refine lv_iadd (pc := 44) hx hb dX8_type_44 ?_
        refine x_i (y := nI ((L ++ [c9]).length)) (oL_push L c9) ?_
        refine va_put (D := D) (ci := 8) (v := .int (nI ((L ++ [c9]).length))) (ty := .int) (C := RX8) (T := TX8) (N := 21) (pc := 45) hx hb hts in_X8 tyX8 ty_X8 nm_X8 hown hK hP hD hS 0 rfl rfl 4 (by decide) (hts _ kw_701) (fun _ h9 => h9) rfl (by decide +kernel) rfl rfl (Nat.le_of_ble_eq_true rfl) dX8_type_45 (fun H locs hP hD hS => ?_)
        have hP : va_P D vwCl [(m9, .inr (8, [.int (nI 0), .ref ad, .ref as9, .ref ab, .int (nI ((L ++ [c9]).length)), .ref at9, .int le, .ref ao, .ref al, .ref an, .ref ae, .ref ap9, .ref aq, .ref ar, .ref am, .int pl, .int fd9, .int gr, .int bk, .int kp, .int pe])), (at9, .inl (cC, 40, .inl (upd f L.length (nI c9))))] H := hP
        have hD : va_D A [(m9, .inr (8, [.int (nI 0), .ref ad, .ref as9, .ref ab, .int (nI ((L ++ [c9]).length)), .ref at9, .int le, .ref ao, .ref al, .ref an, .ref ae, .ref ap9, .ref aq, .ref ar, .ref am, .int pl, .int fd9, .int gr, .int bk, .int kp, .int pe])), (at9, .inl (cC, 40, .inl (upd f L.length (nI c9))))] := hD
        refine lv_iconst (v := nI 1) (pc := 48) hx hb dX8_type_48 kI_1 ?_
        exact x_retz (pc := 49) rfl hx hb hr hlk (nI (L ++ [c9]).length, upd f L.length (nI c9)) (tyP_y ⟨h1, h2, h3⟩ (oR_push hf)) hP hK hD hS dX8_type_49
      · refine lv_iconst (v := nI 0) (pc := 26) hx hb dX8_type_26 kI_0 ?_
        exact x_retz (pc := 27) rfl hx hb hr hlk (nI L.length, f) (tyP_n (by omega) hf) hP hK hD hS dX8_type_27
abbrev rm_c_at : Room := { frames := 0, cells := 0, slots := 0, locals := 0 }
set_option maxHeartbeats 4000000 in
set_option maxRecDepth 100000 in
theorem c_at (l : Launch) (D : va_G) (cI cL cC cB cZ cR : ClassId) (sz : Nat) (m9 ad as9 ab at9 ao al an ae ap9 aq ar am : Nat) (th si pl fd9 gr bk kp pe : Int32) (j : Nat) (L : List Nat) (f : Nat → Int32) (hf : oR f L) (hL : L.length ≤ 140) (hj : j < L.length) : Met l yX8_at wsX8_at rm_c_at (xPc D vwCl (tyAll cI cL cC cB cZ cR) [.ref m9, .int (nI j)] [(m9, .inr (8, [.int th, .ref ad, .ref as9, .ref ab, .int si, .ref at9, .int (nI L.length), .ref ao, .ref al, .ref an, .ref ae, .ref ap9, .ref aq, .ref ar, .ref am, .int pl, .int fd9, .int gr, .int bk, .int kp, .int pe])), (ao, .inl (cC, 140, .inl f))] sz) (va_Qi (fun (z : Int32) (_ : Unit) => z = nI (L.getD j 0)) (xB D vwCl (tyAll cI cL cC cB cZ cR) (va_A [(m9, .inr (8, [.int th, .ref ad, .ref as9, .ref ab, .int si, .ref at9, .int (nI L.length), .ref ao, .ref al, .ref an, .ref ae, .ref ap9, .ref aq, .ref ar, .ref am, .int pl, .int fd9, .int gr, .int bk, .int kp, .int pe])), (ao, .inl (cC, 140, .inl f))] sz) (fun u : Unit => [(m9, .inr (8, [.int (nI 0), .ref ad, .ref as9, .ref ab, .int si, .ref at9, .int (nI L.length), .ref ao, .ref al, .ref an, .ref ae, .ref ap9, .ref aq, .ref ar, .ref am, .int pl, .int fd9, .int gr, .int bk, .int kp, .int pe])), (ao, .inl (cC, 140, .inl f))])) (va_A [(m9, .inr (8, [.int th, .ref ad, .ref as9, .ref ab, .int si, .ref at9, .int (nI L.length), .ref ao, .ref al, .ref an, .ref ae, .ref ap9, .ref aq, .ref ar, .ref am, .int pl, .int fd9, .int gr, .int bk, .int kp, .int pe])), (ao, .inl (cC, 140, .inl f))] sz)) 0 0 (va_A [(m9, .inr (8, [.int th, .ref ad, .ref as9, .ref ab, .int si, .ref at9, .int (nI L.length), .ref ao, .ref al, .ref an, .ref ae, .ref ap9, .ref aq, .ref ar, .ref am, .int pl, .int fd9, .int gr, .int bk, .int kp, .int pe])), (ao, .inl (cC, 140, .inl f))] sz) := by
  refine x_of (Qc := fun A => va_Qi (fun (z : Int32) (_ : Unit) => z = nI (L.getD j 0)) (xB D vwCl (tyAll cI cL cC cB cZ cR) A (fun u : Unit => [(m9, .inr (8, [.int (nI 0), .ref ad, .ref as9, .ref ab, .int si, .ref at9, .int (nI L.length), .ref ao, .ref al, .ref an, .ref ae, .ref ap9, .ref aq, .ref ar, .ref am, .int pl, .int fd9, .int gr, .int bk, .int kp, .int pe])), (ao, .inl (cC, 140, .inl f))])) A) (by decide) rfl (Nat.le_of_ble_eq_true rfl) ?_
  intro p e s m args below meth c A H locs ls hx hb hr hts0 hown hlk hml hnm hP hK hD hN hA hS hl
  have hts : ∀ w ∈ wsA, w.before args s = true := fun w h => hts0 w (List.mem_cons_of_mem _ h)
  have hown : s.vm.findClass "WideDecimalDeskModel" = some m.cls := hown
  have hl : lv_has ls 2 [(0, .ref m9), (1, .int (nI j))] := hl
  refine lv_aload_n (pc := 0) hx hb dX8_at_0 rfl (lv_at hl 0 rfl) ?_
  refine lv_iconst (v := nI 0) (pc := 1) hx hb dX8_at_1 kI_0 ?_
  refine va_put (D := D) (ci := 8) (v := .int (nI 0)) (ty := .int) (C := RX8) (T := TX8) (N := 21) (pc := 2) hx hb hts in_X8 tyX8 ty_X8 nm_X8 hown hK hP hD hS 0 rfl rfl 0 (by decide) (hts _ kw_697) (fun _ h9 => h9) rfl (by decide +kernel) rfl rfl (Nat.le_of_ble_eq_true rfl) dX8_at_2 (fun H locs hP hD hS => ?_)
  have hP : va_P D vwCl [(m9, .inr (8, [.int (nI 0), .ref ad, .ref as9, .ref ab, .int si, .ref at9, .int (nI L.length), .ref ao, .ref al, .ref an, .ref ae, .ref ap9, .ref aq, .ref ar, .ref am, .int pl, .int fd9, .int gr, .int bk, .int kp, .int pe])), (ao, .inl (cC, 140, .inl f))] H := hP
  have hD : va_D A [(m9, .inr (8, [.int (nI 0), .ref ad, .ref as9, .ref ab, .int si, .ref at9, .int (nI L.length), .ref ao, .ref al, .ref an, .ref ae, .ref ap9, .ref aq, .ref ar, .ref am, .int pl, .int fd9, .int gr, .int bk, .int kp, .int pe])), (ao, .inl (cC, 140, .inl f))] := hD
  refine lv_iload_n (pc := 5) hx hb dX8_at_5 rfl (lv_at hl 1 rfl) ?_
  refine x_if_lt (tgt := 26) (pc := 6) hx hb (by omega) dX8_at_6 (by decide) ?_
  refine lv_iload_n (pc := 9) hx hb dX8_at_9 rfl (lv_at hl 1 rfl) ?_
  refine lv_aload_n (pc := 10) hx hb dX8_at_10 rfl (lv_at hl 0 rfl) ?_
  refine va_get (D := D) (ci := 8) (v := .int (nI L.length)) (C := RX8) (T := TX8) (N := 21) (pc := 11) hx hb hts in_X8 hown hK hP 0 rfl rfl 6 (by decide) (hts _ kw_703) (fun _ h9 => h9) rfl dX8_at_11 ?_
  refine x_icmp_ge (tgt := 26) (pc := 14) hx hb (by omega) (by omega) dX8_at_14 (by decide) (fun h14 => absurd h14 (by omega)) (fun h14 => ?_)
  refine lv_aload_n (pc := 17) hx hb dX8_at_17 rfl (lv_at hl 0 rfl) ?_
  refine va_get (D := D) (ci := 8) (v := .ref ao) (C := RX8) (T := TX8) (N := 21) (pc := 18) hx hb hts in_X8 hown hK hP 0 rfl rfl 7 (by decide) (hts _ kw_704) (fun _ h9 => h9) rfl dX8_at_18 ?_
  refine lv_iload_n (pc := 21) hx hb dX8_at_21 rfl (lv_at hl 1 rfl) ?_
  refine x_cald (v := nI (L.getD j 0)) (pc := 22) hx hb hK hP 1 2 rfl rfl (by omega) (by decide) (oR_at hf hj) dX8_at_22 ?_
  refine lv_goto (tgt := 27) (pc := 23) hx hb dX8_at_23 (by decide) ?_
  exact x_reti (pc := 27) hx hb hr hlk () rfl hP hK hD hS dX8_at_27
abbrev rm_c_at_bad : Room := { frames := 0, cells := 0, slots := 0, locals := 0 }
set_option maxHeartbeats 4000000 in
set_option maxRecDepth 100000 in
theorem c_at_bad (l : Launch) (D : va_G) (cI cL cC cB cZ cR : ClassId) (sz : Nat) (m9 ad as9 ab at9 ao al an ae ap9 aq ar am : Nat) (th si pl fd9 gr bk kp pe : Int32) (i : Int32) (L : List Nat) (hbad : inR L.length i = 0) : Met l yX8_at wsX8_at rm_c_at_bad (xPc D vwCl (tyAll cI cL cC cB cZ cR) [.ref m9, .int i] [(m9, .inr (8, [.int th, .ref ad, .ref as9, .ref ab, .int si, .ref at9, .int (nI L.length), .ref ao, .ref al, .ref an, .ref ae, .ref ap9, .ref aq, .ref ar, .ref am, .int pl, .int fd9, .int gr, .int bk, .int kp, .int pe]))] sz) (va_Qi (fun (z : Int32) (_ : Unit) => z = -1) (xB D vwCl (tyAll cI cL cC cB cZ cR) (va_A [(m9, .inr (8, [.int th, .ref ad, .ref as9, .ref ab, .int si, .ref at9, .int (nI L.length), .ref ao, .ref al, .ref an, .ref ae, .ref ap9, .ref aq, .ref ar, .ref am, .int pl, .int fd9, .int gr, .int bk, .int kp, .int pe]))] sz) (fun u : Unit => [(m9, .inr (8, [.int (nI 0), .ref ad, .ref as9, .ref ab, .int si, .ref at9, .int (nI L.length), .ref ao, .ref al, .ref an, .ref ae, .ref ap9, .ref aq, .ref ar, .ref am, .int pl, .int fd9, .int gr, .int bk, .int kp, .int pe]))])) (va_A [(m9, .inr (8, [.int th, .ref ad, .ref as9, .ref ab, .int si, .ref at9, .int (nI L.length), .ref ao, .ref al, .ref an, .ref ae, .ref ap9, .ref aq, .ref ar, .ref am, .int pl, .int fd9, .int gr, .int bk, .int kp, .int pe]))] sz)) 0 0 (va_A [(m9, .inr (8, [.int th, .ref ad, .ref as9, .ref ab, .int si, .ref at9, .int (nI L.length), .ref ao, .ref al, .ref an, .ref ae, .ref ap9, .ref aq, .ref ar, .ref am, .int pl, .int fd9, .int gr, .int bk, .int kp, .int pe]))] sz) := by
  refine x_of (Qc := fun A => va_Qi (fun (z : Int32) (_ : Unit) => z = -1) (xB D vwCl (tyAll cI cL cC cB cZ cR) A (fun u : Unit => [(m9, .inr (8, [.int (nI 0), .ref ad, .ref as9, .ref ab, .int si, .ref at9, .int (nI L.length), .ref ao, .ref al, .ref an, .ref ae, .ref ap9, .ref aq, .ref ar, .ref am, .int pl, .int fd9, .int gr, .int bk, .int kp, .int pe]))])) A) (by decide) rfl (Nat.le_of_ble_eq_true rfl) ?_
  intro p e s m args below meth c A H locs ls hx hb hr hts0 hown hlk hml hnm hP hK hD hN hA hS hl
  have hts : ∀ w ∈ wsA, w.before args s = true := fun w h => hts0 w (List.mem_cons_of_mem _ h)
  have hown : s.vm.findClass "WideDecimalDeskModel" = some m.cls := hown
  have hl : lv_has ls 2 [(0, .ref m9), (1, .int i)] := hl
  refine lv_aload_n (pc := 0) hx hb dX8_at_0 rfl (lv_at hl 0 rfl) ?_
  refine lv_iconst (v := nI 0) (pc := 1) hx hb dX8_at_1 kI_0 ?_
  refine va_put (D := D) (ci := 8) (v := .int (nI 0)) (ty := .int) (C := RX8) (T := TX8) (N := 21) (pc := 2) hx hb hts in_X8 tyX8 ty_X8 nm_X8 hown hK hP hD hS 0 rfl rfl 0 (by decide) (hts _ kw_697) (fun _ h9 => h9) rfl (by decide +kernel) rfl rfl (Nat.le_of_ble_eq_true rfl) dX8_at_2 (fun H locs hP hD hS => ?_)
  have hP : va_P D vwCl [(m9, .inr (8, [.int (nI 0), .ref ad, .ref as9, .ref ab, .int si, .ref at9, .int (nI L.length), .ref ao, .ref al, .ref an, .ref ae, .ref ap9, .ref aq, .ref ar, .ref am, .int pl, .int fd9, .int gr, .int bk, .int kp, .int pe]))] H := hP
  have hD : va_D A [(m9, .inr (8, [.int (nI 0), .ref ad, .ref as9, .ref ab, .int si, .ref at9, .int (nI L.length), .ref ao, .ref al, .ref an, .ref ae, .ref ap9, .ref aq, .ref ar, .ref am, .int pl, .int fd9, .int gr, .int bk, .int kp, .int pe]))] := hD
  refine lv_iload_n (pc := 5) hx hb dX8_at_5 rfl (lv_at hl 1 rfl) ?_
  refine lv_if_lt (tgt := 26) (pc := 6) hx hb dX8_at_6 (by decide) (fun h1 => ?_) (fun h1 => ?_)
  · refine lv_iconst (v := -1) (pc := 26) hx hb dX8_at_26 kI_m1 ?_
    exact x_reti (pc := 27) hx hb hr hlk () rfl hP hK hD hS dX8_at_27
  · refine lv_iload_n (pc := 9) hx hb dX8_at_9 rfl (lv_at hl 1 rfl) ?_
    refine lv_aload_n (pc := 10) hx hb dX8_at_10 rfl (lv_at hl 0 rfl) ?_
    refine va_get (D := D) (ci := 8) (v := .int (nI L.length)) (C := RX8) (T := TX8) (N := 21) (pc := 11) hx hb hts in_X8 hown hK hP 0 rfl rfl 6 (by decide) (hts _ kw_703) (fun _ h9 => h9) rfl dX8_at_11 ?_
    refine lv_icmp_ge (tgt := 26) (pc := 14) hx hb dX8_at_14 (by decide) (fun h2 => ?_) (fun h2 => ?_)
    · refine lv_iconst (v := -1) (pc := 26) hx hb dX8_at_26 kI_m1 ?_
      exact x_reti (pc := 27) hx hb hr hlk () rfl hP hK hD hS dX8_at_27
    · exact absurd hbad (by rw [inR_y h1 h2]; decide)
