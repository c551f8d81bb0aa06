abbrev rm_c_pattern : Room := { frames := 3, cells := 0, slots := 0, locals := 68 }
set_option maxHeartbeats 4000000 in
set_option maxRecDepth 100000 in
theorem c_pattern (l : Launch) (D : va_G) (cI cL cC cB cZ cR : ClassId) (sz : Nat) (m9 ad as9 ab at9 ao al an ae ap9 aq ar am : Nat) (th le pl fd9 gr bk kp pe : Int32) (L : List Nat) (fx : Nat → Int32) (hx9 : oR fx L) (hL : L.length ≤ 40) (hc9 : ∀ x ∈ L, x < 128) : Met l yX8_pattern wsX8_pattern rm_c_pattern (xPc D vwCl (tyAll cI cL cC cB cZ cR) [.ref m9] [(m9, .inr (8, [.int th, .ref ad, .ref as9, .ref ab, .int (nI L.length), .ref at9, .int le, .ref ao, .ref al, .ref an, .ref ae, .ref ap9, .ref aq, .ref ar, .ref am, .int pl, .int fd9, .int gr, .int bk, .int kp, .int pe])), (at9, .inl (cC, 40, .inl fx))] sz) (va_Qi (fun (z : Int32) (_ : Unit) => z = nI (ptO L)) (xB D vwCl (tyAll cI cL cC cB cZ cR) (va_A [(m9, .inr (8, [.int th, .ref ad, .ref as9, .ref ab, .int (nI L.length), .ref at9, .int le, .ref ao, .ref al, .ref an, .ref ae, .ref ap9, .ref aq, .ref ar, .ref am, .int pl, .int fd9, .int gr, .int bk, .int kp, .int pe])), (at9, .inl (cC, 40, .inl fx))] sz) (fun u : Unit => [(m9, .inr (8, [.int th, .ref ad, .ref as9, .ref ab, .int (nI L.length), .ref at9, .int le, .ref ao, .ref al, .ref an, .ref ae, .ref ap9, .ref aq, .ref ar, .ref am, .int pl, .int (nI (fdF L (ptP L))), .int (nI (grF L (anyF L (ptP L)) (ptP L))), .int (nI (ptK L)), .int (nI (kpF L (ptB L) (ptK L))), .int (nI (ptC L))])), (at9, .inl (cC, 40, .inl fx))])) (va_A [(m9, .inr (8, [.int th, .ref ad, .ref as9, .ref ab, .int (nI L.length), .ref at9, .int le, .ref ao, .ref al, .ref an, .ref ae, .ref ap9, .ref aq, .ref ar, .ref am, .int pl, .int fd9, .int gr, .int bk, .int kp, .int pe])), (at9, .inl (cC, 40, .inl fx))] sz)) 0 0 (va_A [(m9, .inr (8, [.int th, .ref ad, .ref as9, .ref ab, .int (nI L.length), .ref at9, .int le, .ref ao, .ref al, .ref an, .ref ae, .ref ap9, .ref aq, .ref ar, .ref am, .int pl, .int fd9, .int gr, .int bk, .int kp, .int pe])), (at9, .inl (cC, 40, .inl fx))] sz) := by
  refine x_of (Qc := fun A => va_Qi (fun (z : Int32) (_ : Unit) => z = nI (ptO L)) (xB D vwCl (tyAll cI cL cC cB cZ cR) A (fun u : Unit => [(m9, .inr (8, [.int th, .ref ad, .ref as9, .ref ab, .int (nI L.length), .ref at9, .int le, .ref ao, .ref al, .ref an, .ref ae, .ref ap9, .ref aq, .ref ar, .ref am, .int pl, .int (nI (fdF L (ptP L))), .int (nI (grF L (anyF L (ptP L)) (ptP L))), .int (nI (ptK L)), .int (nI (kpF L (ptB L) (ptK L))), .int (nI (ptC L))])), (at9, .inl (cC, 40, .inl fx))])) A) (by decide) rfl (Nat.le_of_ble_eq_true rfl) ?_
  intro p e s m args below meth c A H locs ls hx hb hr hts0 hown hlk hml hnm hP hK hD hN hA hS hl
  have hts : ∀ w ∈ wsA, w.before args s = true := fun w h => hts0 w (List.mem_cons_of_mem _ h)
  have hown : s.vm.findClass "WideDecimalDeskModel" = some m.cls := hown
  have hl : lv_has ls 5 [(0, .ref m9)] := hl
  have L142 : ∀ (kk : Nat) (i : Nat) (H : Heap) (locs : List Loc) (ls : Array Slot) (hk142 : ptK L - i < kk) (hi : i ≤ ptK L) (hP : va_P D vwCl [(m9, .inr (8, [.int th, .ref ad, .ref as9, .ref ab, .int (nI L.length), .ref at9, .int le, .ref ao, .ref al, .ref an, .ref ae, .ref ap9, .ref aq, .ref ar, .ref am, .int pl, .int fd9, .int gr, .int (nI (ptK L)), .int (nI (kpF L (ptB L) i)), .int (nI (ptC L))])), (at9, .inl (cC, 40, .inl fx))] H) (hD : va_D A [(m9, .inr (8, [.int th, .ref ad, .ref as9, .ref ab, .int (nI L.length), .ref at9, .int le, .ref ao, .ref al, .ref an, .ref ae, .ref ap9, .ref aq, .ref ar, .ref am, .int pl, .int fd9, .int gr, .int (nI (ptK L)), .int (nI (kpF L (ptB L) i)), .int (nI (ptC L))])), (at9, .inl (cC, 40, .inl fx))]) (hS : va_S A s.heap H locs) (hl : lv_has ls 5 [(4, .int (nI i)), (3, .int (nI (ptB L))), (2, .int (nI (ptE L))), (1, .int (nI (ptP L))), (0, .ref m9)]), W p l e rm_c_pattern s m args below meth c H locs 0 0 (MQ below (va_Qi (fun (z : Int32) (_ : Unit) => z = nI (ptO L)) (xB D vwCl (tyAll cI cL cC cB cZ cR) A (fun u : Unit => [(m9, .inr (8, [.int th, .ref ad, .ref as9, .ref ab, .int (nI L.length), .ref at9, .int le, .ref ao, .ref al, .ref an, .ref ae, .ref ap9, .ref aq, .ref ar, .ref am, .int pl, .int (nI (fdF L (ptP L))), .int (nI (grF L (anyF L (ptP L)) (ptP L))), .int (nI (ptK L)), .int (nI (kpF L (ptB L) (ptK L))), .int (nI (ptC L))])), (at9, .inl (cC, 40, .inl fx))])) A) args s 0 0 A) (F0 m 142 ls []) := by
    intro kk
    induction kk with
    | zero => intro i H locs ls hk; exact absurd hk (Nat.not_lt_zero _)
    | succ kk ih142 =>
      intro i H locs ls hk142 hi hP hD hS hl
      have l1 := ptP_le L
      have l2 := ptB_le L
      have l3 := ptE_le L
      have l4 := ptE_ge L
      have l5 := ptC_le L
      have l6 := ptK_le2 L
      have l7 := anyF_le L (ptP L)
      have hx1 := getD_lt (by decide) hc9 (ptB L + i)
      refine lv_iload (pc := 142) hx hb dX8_pattern_142 (lv_at hl 0 rfl) ?_
      refine lv_aload_n (pc := 144) hx hb dX8_pattern_144 rfl (lv_at hl 4 rfl) ?_
      refine va_get (D := D) (ci := 8) (v := .int (nI (ptK L))) (C := RX8) (T := TX8) (N := 21) (pc := 145) hx hb hts in_X8 hown hK hP 0 rfl rfl 18 (by decide) (hts _ kw_715) (fun _ h9 => h9) rfl dX8_pattern_145 ?_
      refine x_icmp_ge (tgt := 186) (pc := 148) hx hb (by omega) (by omega) dX8_pattern_148 (by decide) (fun hc3 => ?_) (fun hc3 => ?_)
      · refine lv_aload_n (pc := 186) hx hb dX8_pattern_186 rfl (lv_at hl 4 rfl) ?_
        refine lv_iload_n (pc := 187) hx hb dX8_pattern_187 rfl (lv_at hl 3 rfl) ?_
        have hik : i = ptK L := by omega
        rw [hik] at hP hD
        refine x_Vv (pc := 188) (As := [.int (nI (ptP L))]) (rest := []) (b := m9) (wr := []) ⟨hx, hb, hml, hown, hts⟩ (c_front l D cI cL cC cB cZ cR H.size m9 ad as9 ab at9 ao al an ae ap9 aq ar am th le pl fd9 gr (nI (ptK L)) (nI (kpF L (ptB L) (ptK L))) (nI (ptC L)) (ptP L) L fx hx9 hL hc9 l1) ⟨callB_of 1 hts (x_good kw_920) rfl rfl rfl (hts _ kw_9) (hts _ kw_917) dc_X8_front ⟨Nat.le_of_ble_eq_true rfl, Nat.le_of_ble_eq_true rfl⟩, hts _ kw_919, hts _ kp_34⟩ (q0 := 0) rfl rfl rfl rfl hl.1 rfl (Nat.le_of_ble_eq_true rfl) dX8_pattern_188 ⟨Nat.le_refl _, Nat.le_refl _⟩ hN hK hP hD hS hA [0, 1] [] rfl rfl (by decide) (by decide) (by decide) (fun u188 H locs q188 hP hD hS => ?_)
        have hP : va_P D vwCl [(m9, .inr (8, [.int th, .ref ad, .ref as9, .ref ab, .int (nI L.length), .ref at9, .int le, .ref ao, .ref al, .ref an, .ref ae, .ref ap9, .ref aq, .ref ar, .ref am, .int pl, .int (nI (fdF L (ptP L))), .int (nI (grF L (anyF L (ptP L)) (ptP L))), .int (nI (ptK L)), .int (nI (kpF L (ptB L) (ptK L))), .int (nI (ptC L))])), (at9, .inl (cC, 40, .inl fx))] H := hP
        have hD : va_D A [(m9, .inr (8, [.int th, .ref ad, .ref as9, .ref ab, .int (nI L.length), .ref at9, .int le, .ref ao, .ref al, .ref an, .ref ae, .ref ap9, .ref aq, .ref ar, .ref am, .int pl, .int (nI (fdF L (ptP L))), .int (nI (grF L (anyF L (ptP L)) (ptP L))), .int (nI (ptK L)), .int (nI (kpF L (ptB L) (ptK L))), .int (nI (ptC L))])), (at9, .inl (cC, 40, .inl fx))] := hD
        refine lv_aload_n (pc := 191) hx hb dX8_pattern_191 rfl (lv_at hl 4 rfl) ?_
        refine va_get (D := D) (ci := 8) (v := .int (nI (ptC L))) (C := RX8) (T := TX8) (N := 21) (pc := 192) hx hb hts in_X8 hown hK hP 0 rfl rfl 20 (by decide) (hts _ kw_717) (fun _ h9 => h9) rfl dX8_pattern_192 ?_
        refine x_if_eq (tgt := 204) (pc := 195) hx hb (by omega) dX8_pattern_195 (by decide) (fun h9 => ?_) (fun h9 => ?_)
        · refine lv_iload_n (pc := 204) hx hb dX8_pattern_204 rfl (lv_at hl 2 rfl) ?_
          refine lv_istore (pc := 205) (lv' := [(4, .int (nI (ptE L))), (3, .int (nI (ptB L))), (2, .int (nI (ptE L))), (1, .int (nI (ptP L))), (0, .ref m9)]) hx hb dX8_pattern_205 hl (by decide) rfl (fun ls hl => ?_)
          refine lv_iload (pc := 207) hx hb dX8_pattern_207 (lv_at hl 0 rfl) ?_
          refine lv_aload_n (pc := 209) hx hb dX8_pattern_209 rfl (lv_at hl 4 rfl) ?_
          refine va_get (D := D) (ci := 8) (v := .int (nI L.length)) (C := RX8) (T := TX8) (N := 21) (pc := 210) hx hb hts in_X8 hown hK hP 0 rfl rfl 4 (by decide) (hts _ kw_701) (fun _ h9 => h9) rfl dX8_pattern_210 ?_
          refine x_icmp_ne (tgt := 233) (pc := 213) hx hb (by omega) (by omega) dX8_pattern_213 (by decide) (fun h10 => ?_) (fun h10 => ?_)
          · refine lv_iconst (v := nI 0) (pc := 233) hx hb dX8_pattern_233 kI_0 ?_
            exact x_retz (pc := 234) rfl hx hb hr hlk () (by first | exact congrArg nI (ptO_y (by omega) (by omega)) | exact congrArg nI (ptO_n (by omega))) hP hK hD hS dX8_pattern_234
          · refine lv_aload_n (pc := 216) hx hb dX8_pattern_216 rfl (lv_at hl 4 rfl) ?_
            refine lv_iload_n (pc := 217) hx hb dX8_pattern_217 rfl (lv_at hl 3 rfl) ?_
            refine x_Vi (pc := 218) (As := [.int (nI (ptP L))]) (rest := []) (b := m9) (wr := []) ⟨hx, hb, hml, hown, hts⟩ (c_any l D cI cL cC cB cZ cR H.size m9 ad as9 ab at9 ao al an ae ap9 aq ar am th le pl (nI (fdF L (ptP L))) (nI (grF L (anyF L (ptP L)) (ptP L))) (nI (ptK L)) (nI (kpF L (ptB L) (ptK L))) (nI (ptC L)) (ptP L) L fx hx9 hL hc9 l1) ⟨callB_of 1 hts (x_good kw_924) rfl rfl rfl (hts _ kw_9) (hts _ kw_921) dc_X8_any ⟨Nat.le_of_ble_eq_true rfl, Nat.le_of_ble_eq_true rfl⟩, hts _ kw_923, hts _ kp_35⟩ (q0 := 0) rfl rfl rfl rfl hl.1 rfl (Nat.le_of_ble_eq_true rfl) dX8_pattern_218 ⟨Nat.le_refl _, Nat.le_refl _⟩ hN hK hP hD hS hA [0, 1] [] rfl rfl (by decide) (by decide) (by decide) (fun r218 u218 H locs q218 hP hD hS => ?_)
            have hP : va_P D vwCl [(m9, .inr (8, [.int th, .ref ad, .ref as9, .ref ab, .int (nI L.length), .ref at9, .int le, .ref ao, .ref al, .ref an, .ref ae, .ref ap9, .ref aq, .ref ar, .ref am, .int pl, .int (nI (fdF L (ptP L))), .int (nI (grF L (anyF L (ptP L)) (ptP L))), .int (nI (ptK L)), .int (nI (kpF L (ptB L) (ptK L))), .int (nI (ptC L))])), (at9, .inl (cC, 40, .inl fx))] H := hP
            have hD : va_D A [(m9, .inr (8, [.int th, .ref ad, .ref as9, .ref ab, .int (nI L.length), .ref at9, .int le, .ref ao, .ref al, .ref an, .ref ae, .ref ap9, .ref aq, .ref ar, .ref am, .int pl, .int (nI (fdF L (ptP L))), .int (nI (grF L (anyF L (ptP L)) (ptP L))), .int (nI (ptK L)), .int (nI (kpF L (ptB L) (ptK L))), .int (nI (ptC L))])), (at9, .inl (cC, 40, .inl fx))] := hD
            obtain rfl := q218
            refine lv_aload_n (pc := 221) hx hb dX8_pattern_221 rfl (lv_at hl 4 rfl) ?_
            refine va_get (D := D) (ci := 8) (v := .int (nI (ptK L))) (C := RX8) (T := TX8) (N := 21) (pc := 222) hx hb hts in_X8 hown hK hP 0 rfl rfl 18 (by decide) (hts _ kw_715) (fun _ h9 => h9) rfl dX8_pattern_222 ?_
            refine lv_iadd (pc := 225) hx hb dX8_pattern_225 ?_
            refine x_i (y := nI (anyF L (ptP L) + ptK L)) (nI_add _ _) ?_
            refine x_if_le (tgt := 233) (pc := 226) hx hb (by omega) dX8_pattern_226 (by decide) (fun h11 => ?_) (fun h11 => ?_)
            · refine lv_iconst (v := nI 0) (pc := 233) hx hb dX8_pattern_233 kI_0 ?_
              exact x_retz (pc := 234) rfl hx hb hr hlk () (by first | exact congrArg nI (ptO_y (by omega) (by omega)) | exact congrArg nI (ptO_n (by omega))) hP hK hD hS dX8_pattern_234
            · refine lv_iconst (v := nI 1) (pc := 229) hx hb dX8_pattern_229 kI_1 ?_
              refine lv_goto (tgt := 234) (pc := 230) hx hb dX8_pattern_230 (by decide) ?_
              exact x_retz (pc := 234) rfl hx hb hr hlk () (by first | exact congrArg nI (ptO_y (by omega) (by omega)) | exact congrArg nI (ptO_n (by omega))) hP hK hD hS dX8_pattern_234
        · refine lv_iload_n (pc := 198) hx hb dX8_pattern_198 rfl (lv_at hl 2 rfl) ?_
          refine lv_iconst (v := nI 1) (pc := 199) hx hb dX8_pattern_199 kI_1 ?_
          refine lv_iadd (pc := 200) hx hb dX8_pattern_200 ?_
          refine x_i (y := nI (ptE L + 1)) (nI_add _ _) ?_
          refine lv_goto (tgt := 205) (pc := 201) hx hb dX8_pattern_201 (by decide) ?_
          refine lv_istore (pc := 205) (lv' := [(4, .int (nI (ptE L + 1))), (3, .int (nI (ptB L))), (2, .int (nI (ptE L))), (1, .int (nI (ptP L))), (0, .ref m9)]) hx hb dX8_pattern_205 hl (by decide) rfl (fun ls hl => ?_)
          refine lv_iload (pc := 207) hx hb dX8_pattern_207 (lv_at hl 0 rfl) ?_
          refine lv_aload_n (pc := 209) hx hb dX8_pattern_209 rfl (lv_at hl 4 rfl) ?_
          refine va_get (D := D) (ci := 8) (v := .int (nI L.length)) (C := RX8) (T := TX8) (N := 21) (pc := 210) hx hb hts in_X8 hown hK hP 0 rfl rfl 4 (by decide) (hts _ kw_701) (fun _ h9 => h9) rfl dX8_pattern_210 ?_
          refine x_icmp_ne (tgt := 233) (pc := 213) hx hb (by omega) (by omega) dX8_pattern_213 (by decide) (fun h10 => ?_) (fun h10 => ?_)
          · refine lv_iconst (v := nI 0) (pc := 233) hx hb dX8_pattern_233 kI_0 ?_
            exact x_retz (pc := 234) rfl hx hb hr hlk () (by first | exact congrArg nI (ptO_y (by omega) (by omega)) | exact congrArg nI (ptO_n (by omega))) hP hK hD hS dX8_pattern_234
          · refine lv_aload_n (pc := 216) hx hb dX8_pattern_216 rfl (lv_at hl 4 rfl) ?_
            refine lv_iload_n (pc := 217) hx hb dX8_pattern_217 rfl (lv_at hl 3 rfl) ?_
            refine x_Vi (pc := 218) (As := [.int (nI (ptP L))]) (rest := []) (b := m9) (wr := []) ⟨hx, hb, hml, hown, hts⟩ (c_any l D cI cL cC cB cZ cR H.size m9 ad as9 ab at9 ao al an ae ap9 aq ar am th le pl (nI (fdF L (ptP L))) (nI (grF L (anyF L (ptP L)) (ptP L))) (nI (ptK L)) (nI (kpF L (ptB L) (ptK L))) (nI (ptC L)) (ptP L) L fx hx9 hL hc9 l1) ⟨callB_of 1 hts (x_good kw_924) rfl rfl rfl (hts _ kw_9) (hts _ kw_921) dc_X8_any ⟨Nat.le_of_ble_eq_true rfl, Nat.le_of_ble_eq_true rfl⟩, hts _ kw_923, hts _ kp_35⟩ (q0 := 0) rfl rfl rfl rfl hl.1 rfl (Nat.le_of_ble_eq_true rfl) dX8_pattern_218 ⟨Nat.le_refl _, Nat.le_refl _⟩ hN hK hP hD hS hA [0, 1] [] rfl rfl (by decide) (by decide) (by decide) (fun r218 u218 H locs q218 hP hD hS => ?_)
            have hP : va_P D vwCl [(m9, .inr (8, [.int th, .ref ad, .ref as9, .ref ab, .int (nI L.length), .ref at9, .int le, .ref ao, .ref al, .ref an, .ref ae, .ref ap9, .ref aq, .ref ar, .ref am, .int pl, .int (nI (fdF L (ptP L))), .int (nI (grF L (anyF L (ptP L)) (ptP L))), .int (nI (ptK L)), .int (nI (kpF L (ptB L) (ptK L))), .int (nI (ptC L))])), (at9, .inl (cC, 40, .inl fx))] H := hP
            have hD : va_D A [(m9, .inr (8, [.int th, .ref ad, .ref as9, .ref ab, .int (nI L.length), .ref at9, .int le, .ref ao, .ref al, .ref an, .ref ae, .ref ap9, .ref aq, .ref ar, .ref am, .int pl, .int (nI (fdF L (ptP L))), .int (nI (grF L (anyF L (ptP L)) (ptP L))), .int (nI (ptK L)), .int (nI (kpF L (ptB L) (ptK L))), .int (nI (ptC L))])), (at9, .inl (cC, 40, .inl fx))] := hD
            obtain rfl := q218
            refine lv_aload_n (pc := 221) hx hb dX8_pattern_221 rfl (lv_at hl 4 rfl) ?_
            refine va_get (D := D) (ci := 8) (v := .int (nI (ptK L))) (C := RX8) (T := TX8) (N := 21) (pc := 222) hx hb hts in_X8 hown hK hP 0 rfl rfl 18 (by decide) (hts _ kw_715) (fun _ h9 => h9) rfl dX8_pattern_222 ?_
            refine lv_iadd (pc := 225) hx hb dX8_pattern_225 ?_
            refine x_i (y := nI (anyF L (ptP L) + ptK L)) (nI_add _ _) ?_
            refine x_if_le (tgt := 233) (pc := 226) hx hb (by omega) dX8_pattern_226 (by decide) (fun h11 => ?_) (fun h11 => ?_)
            · refine lv_iconst (v := nI 0) (pc := 233) hx hb dX8_pattern_233 kI_0 ?_
              exact x_retz (pc := 234) rfl hx hb hr hlk () (by first | exact congrArg nI (ptO_y (by omega) (by omega)) | exact congrArg nI (ptO_n (by omega))) hP hK hD hS dX8_pattern_234
            · refine lv_iconst (v := nI 1) (pc := 229) hx hb dX8_pattern_229 kI_1 ?_
              refine lv_goto (tgt := 234) (pc := 230) hx hb dX8_pattern_230 (by decide) ?_
              exact x_retz (pc := 234) rfl hx hb hr hlk () (by first | exact congrArg nI (ptO_y (by omega) (by omega)) | exact congrArg nI (ptO_n (by omega))) hP hK hD hS dX8_pattern_234
      · refine lv_aload_n (pc := 151) hx hb dX8_pattern_151 rfl (lv_at hl 4 rfl) ?_
        refine lv_aload_n (pc := 152) hx hb dX8_pattern_152 rfl (lv_at hl 4 rfl) ?_
        refine va_get (D := D) (ci := 8) (v := .ref at9) (C := RX8) (T := TX8) (N := 21) (pc := 153) hx hb hts in_X8 hown hK hP 0 rfl rfl 5 (by decide) (hts _ kw_702) (fun _ h9 => h9) rfl dX8_pattern_153 ?_
        refine lv_iload_n (pc := 156) hx hb dX8_pattern_156 rfl (lv_at hl 1 rfl) ?_
        refine lv_iload (pc := 157) hx hb dX8_pattern_157 (lv_at hl 0 rfl) ?_
        refine lv_iadd (pc := 159) hx hb dX8_pattern_159 ?_
        refine x_i (y := nI (ptB L + i)) (nI_add _ _) ?_
        refine x_cald (v := nI (L.getD (ptB L + i) 0)) (pc := 160) hx hb hK hP 1 2 rfl rfl (by omega) (by decide) (oR_at hx9 (by omega)) dX8_pattern_160 ?_
        refine lv_bipush (v := nI 48) (pc := 161) hx hb dX8_pattern_161 (by decide +kernel) ?_
        refine x_icmp_ne (tgt := 173) (pc := 163) hx hb (by omega) (by omega) dX8_pattern_163 (by decide) (fun h8 => ?_) (fun h8 => ?_)
        · refine lv_aload_n (pc := 173) hx hb dX8_pattern_173 rfl (lv_at hl 4 rfl) ?_
          refine va_get (D := D) (ci := 8) (v := .int (nI (kpF L (ptB L) i))) (C := RX8) (T := TX8) (N := 21) (pc := 174) hx hb hts in_X8 hown hK hP 0 rfl rfl 19 (by decide) (hts _ kw_716) (fun _ h9 => h9) rfl dX8_pattern_174 ?_
          refine x_i (y := nI (kpF L (ptB L) (i + 1))) (congrArg nI (kpF_n h8)) ?_
          refine va_put (D := D) (ci := 8) (v := .int (nI (kpF L (ptB L) (i + 1)))) (ty := .int) (C := RX8) (T := TX8) (N := 21) (pc := 177) hx hb hts in_X8 tyX8 ty_X8 nm_X8 hown hK hP hD hS 0 rfl rfl 19 (by decide) (hts _ kw_716) (fun _ h9 => h9) rfl (by decide +kernel) rfl rfl (Nat.le_of_ble_eq_true rfl) dX8_pattern_177 (fun H locs hP hD hS => ?_)
          have hP : va_P D vwCl [(m9, .inr (8, [.int th, .ref ad, .ref as9, .ref ab, .int (nI L.length), .ref at9, .int le, .ref ao, .ref al, .ref an, .ref ae, .ref ap9, .ref aq, .ref ar, .ref am, .int pl, .int fd9, .int gr, .int (nI (ptK L)), .int (nI (kpF L (ptB L) (i + 1))), .int (nI (ptC L))])), (at9, .inl (cC, 40, .inl fx))] H := hP
          have hD : va_D A [(m9, .inr (8, [.int th, .ref ad, .ref as9, .ref ab, .int (nI L.length), .ref at9, .int le, .ref ao, .ref al, .ref an, .ref ae, .ref ap9, .ref aq, .ref ar, .ref am, .int pl, .int fd9, .int gr, .int (nI (ptK L)), .int (nI (kpF L (ptB L) (i + 1))), .int (nI (ptC L))])), (at9, .inl (cC, 40, .inl fx))] := hD
          refine lv_iinc (k := 0) (v := nI (i + 1)) (pc := 180) (lv' := [(4, .int (nI (i + 1))), (3, .int (nI (ptB L))), (2, .int (nI (ptE L))), (1, .int (nI (ptP L))), (0, .ref m9)]) hx hb dX8_pattern_180 hl rfl (x_inc i) (by decide) rfl (fun ls hl => ?_)
          refine lv_goto (tgt := 142) (pc := 183) hx hb dX8_pattern_183 (by decide) ?_
          exact ih142 (i + 1) H locs ls (by omega) (by omega) hP hD hS hl
        · refine lv_iload (pc := 166) hx hb dX8_pattern_166 (lv_at hl 0 rfl) ?_
          refine lv_iconst (v := nI 1) (pc := 168) hx hb dX8_pattern_168 kI_1 ?_
          refine lv_iadd (pc := 169) hx hb dX8_pattern_169 ?_
          refine x_i (y := nI (kpF L (ptB L) (i + 1))) ((nI_add _ _).trans (congrArg nI (kpF_y h8))) ?_
          refine lv_goto (tgt := 177) (pc := 170) hx hb dX8_pattern_170 (by decide) ?_
          refine va_put (D := D) (ci := 8) (v := .int (nI (kpF L (ptB L) (i + 1)))) (ty := .int) (C := RX8) (T := TX8) (N := 21) (pc := 177) hx hb hts in_X8 tyX8 ty_X8 nm_X8 hown hK hP hD hS 0 rfl rfl 19 (by decide) (hts _ kw_716) (fun _ h9 => h9) rfl (by decide +kernel) rfl rfl (Nat.le_of_ble_eq_true rfl) dX8_pattern_177 (fun H locs hP hD hS => ?_)
          have hP : va_P D vwCl [(m9, .inr (8, [.int th, .ref ad, .ref as9, .ref ab, .int (nI L.length), .ref at9, .int le, .ref ao, .ref al, .ref an, .ref ae, .ref ap9, .ref aq, .ref ar, .ref am, .int pl, .int fd9, .int gr, .int (nI (ptK L)), .int (nI (kpF L (ptB L) (i + 1))), .int (nI (ptC L))])), (at9, .inl (cC, 40, .inl fx))] H := hP
          have hD : va_D A [(m9, .inr (8, [.int th, .ref ad, .ref as9, .ref ab, .int (nI L.length), .ref at9, .int le, .ref ao, .ref al, .ref an, .ref ae, .ref ap9, .ref aq, .ref ar, .ref am, .int pl, .int fd9, .int gr, .int (nI (ptK L)), .int (nI (kpF L (ptB L) (i + 1))), .int (nI (ptC L))])), (at9, .inl (cC, 40, .inl fx))] := hD
          refine lv_iinc (k := 0) (v := nI (i + 1)) (pc := 180) (lv' := [(4, .int (nI (i + 1))), (3, .int (nI (ptB L))), (2, .int (nI (ptE L))), (1, .int (nI (ptP L))), (0, .ref m9)]) hx hb dX8_pattern_180 hl rfl (x_inc i) (by decide) rfl (fun ls hl => ?_)
          refine lv_goto (tgt := 142) (pc := 183) hx hb dX8_pattern_183 (by decide) ?_
          exact ih142 (i + 1) H locs ls (by omega) (by omega) hP hD hS hl
  have L94 : ∀  (H : Heap) (locs : List Loc) (ls : Array Slot)  (hP : va_P D vwCl [(m9, .inr (8, [.int th, .ref ad, .ref as9, .ref ab, .int (nI L.length), .ref at9, .int le, .ref ao, .ref al, .ref an, .ref ae, .ref ap9, .ref aq, .ref ar, .ref am, .int pl, .int fd9, .int gr, .int bk, .int kp, .int pe])), (at9, .inl (cC, 40, .inl fx))] H) (hD : va_D A [(m9, .inr (8, [.int th, .ref ad, .ref as9, .ref ab, .int (nI L.length), .ref at9, .int le, .ref ao, .ref al, .ref an, .ref ae, .ref ap9, .ref aq, .ref ar, .ref am, .int pl, .int fd9, .int gr, .int bk, .int kp, .int pe])), (at9, .inl (cC, 40, .inl fx))]) (hS : va_S A s.heap H locs) (hl : lv_has ls 5 [(3, .int (nI (ptB L))), (2, .int (nI (ptE L))), (1, .int (nI (ptP L))), (0, .ref m9)]), W p l e rm_c_pattern s m args below meth c H locs 0 0 (MQ below (va_Qi (fun (z : Int32) (_ : Unit) => z = nI (ptO L)) (xB D vwCl (tyAll cI cL cC cB cZ cR) A (fun u : Unit => [(m9, .inr (8, [.int th, .ref ad, .ref as9, .ref ab, .int (nI L.length), .ref at9, .int le, .ref ao, .ref al, .ref an, .ref ae, .ref ap9, .ref aq, .ref ar, .ref am, .int pl, .int (nI (fdF L (ptP L))), .int (nI (grF L (anyF L (ptP L)) (ptP L))), .int (nI (ptK L)), .int (nI (kpF L (ptB L) (ptK L))), .int (nI (ptC L))])), (at9, .inl (cC, 40, .inl fx))])) A) args s 0 0 A) (F0 m 94 ls []) := by
    intro  H locs ls  hP hD hS hl
    have l1 := ptP_le L
    have l2 := ptB_le L
    have l3 := ptE_le L
    have l4 := ptE_ge L
    have l5 := ptC_le L
    have l6 := ptK_le2 L
    have l7 := anyF_le L (ptP L)
    have t1 := txF_lt hc9 (ptP L)
    have t2 := txF_lt hc9 (ptE L)
    refine lv_aload_n (pc := 94) hx hb dX8_pattern_94 rfl (lv_at hl 3 rfl) ?_
    refine lv_aload_n (pc := 95) hx hb dX8_pattern_95 rfl (lv_at hl 3 rfl) ?_
    refine lv_iload_n (pc := 96) hx hb dX8_pattern_96 rfl (lv_at hl 2 rfl) ?_
    refine x_Vi (pc := 97) (As := [.int (nI (ptP L))]) (rest := [.ref m9]) (b := m9) (wr := []) ⟨hx, hb, hml, hown, hts⟩ (c_text l D cI cL cC cB cZ cR H.size m9 ad as9 ab at9 ao al an ae ap9 aq ar am th le pl fd9 gr bk kp pe (ptP L) L fx hx9 hL hc9 (by omega)) ⟨callB_of 1 hts (x_good kw_916) rfl rfl rfl (hts _ kw_9) (hts _ kw_913) dc_X8_text ⟨Nat.le_of_ble_eq_true rfl, Nat.le_of_ble_eq_true rfl⟩, hts _ kw_915, hts _ kp_33⟩ (q0 := 0) rfl rfl rfl rfl hl.1 rfl (Nat.le_of_ble_eq_true rfl) dX8_pattern_97 ⟨Nat.le_refl _, Nat.le_refl _⟩ hN hK hP hD hS hA [0, 1] [] rfl rfl (by decide) (by decide) (by decide) (fun r97 u97 H locs q97 hP hD hS => ?_)
    have hP : va_P D vwCl [(m9, .inr (8, [.int th, .ref ad, .ref as9, .ref ab, .int (nI L.length), .ref at9, .int le, .ref ao, .ref al, .ref an, .ref ae, .ref ap9, .ref aq, .ref ar, .ref am, .int pl, .int fd9, .int gr, .int bk, .int kp, .int pe])), (at9, .inl (cC, 40, .inl fx))] H := hP
    have hD : va_D A [(m9, .inr (8, [.int th, .ref ad, .ref as9, .ref ab, .int (nI L.length), .ref at9, .int le, .ref ao, .ref al, .ref an, .ref ae, .ref ap9, .ref aq, .ref ar, .ref am, .int pl, .int fd9, .int gr, .int bk, .int kp, .int pe])), (at9, .inl (cC, 40, .inl fx))] := hD
    obtain rfl := q97
    refine lv_bipush (v := nI 46) (pc := 100) hx hb dX8_pattern_100 (by decide +kernel) ?_
    refine x_icmp_ne (tgt := 111) (pc := 102) hx hb (by omega) (by omega) dX8_pattern_102 (by decide) (fun h6 => ?_) (fun h6 => ?_)
    · refine lv_iconst (v := nI 0) (pc := 111) hx hb dX8_pattern_111 kI_0 ?_
      refine x_i (y := nI (ptK L)) (congrArg nI (ptK_n h6)) ?_
      refine va_put (D := D) (ci := 8) (v := .int (nI (ptK L))) (ty := .int) (C := RX8) (T := TX8) (N := 21) (pc := 112) hx hb hts in_X8 tyX8 ty_X8 nm_X8 hown hK hP hD hS 0 rfl rfl 18 (by decide) (hts _ kw_715) (fun _ h9 => h9) rfl (by decide +kernel) rfl rfl (Nat.le_of_ble_eq_true rfl) dX8_pattern_112 (fun H locs hP hD hS => ?_)
      have hP : va_P D vwCl [(m9, .inr (8, [.int th, .ref ad, .ref as9, .ref ab, .int (nI L.length), .ref at9, .int le, .ref ao, .ref al, .ref an, .ref ae, .ref ap9, .ref aq, .ref ar, .ref am, .int pl, .int fd9, .int gr, .int (nI (ptK L)), .int kp, .int pe])), (at9, .inl (cC, 40, .inl fx))] H := hP
      have hD : va_D A [(m9, .inr (8, [.int th, .ref ad, .ref as9, .ref ab, .int (nI L.length), .ref at9, .int le, .ref ao, .ref al, .ref an, .ref ae, .ref ap9, .ref aq, .ref ar, .ref am, .int pl, .int fd9, .int gr, .int (nI (ptK L)), .int kp, .int pe])), (at9, .inl (cC, 40, .inl fx))] := hD
      refine lv_aload_n (pc := 115) hx hb dX8_pattern_115 rfl (lv_at hl 3 rfl) ?_
      refine lv_aload_n (pc := 116) hx hb dX8_pattern_116 rfl (lv_at hl 3 rfl) ?_
      refine lv_iload_n (pc := 117) hx hb dX8_pattern_117 rfl (lv_at hl 1 rfl) ?_
      refine x_Vi (pc := 118) (As := [.int (nI (ptE L))]) (rest := [.ref m9]) (b := m9) (wr := []) ⟨hx, hb, hml, hown, hts⟩ (c_text l D cI cL cC cB cZ cR H.size m9 ad as9 ab at9 ao al an ae ap9 aq ar am th le pl fd9 gr (nI (ptK L)) kp pe (ptE L) L fx hx9 hL hc9 (by omega)) ⟨callB_of 1 hts (x_good kw_916) rfl rfl rfl (hts _ kw_9) (hts _ kw_913) dc_X8_text ⟨Nat.le_of_ble_eq_true rfl, Nat.le_of_ble_eq_true rfl⟩, hts _ kw_915, hts _ kp_33⟩ (q0 := 0) rfl rfl rfl rfl hl.1 rfl (Nat.le_of_ble_eq_true rfl) dX8_pattern_118 ⟨Nat.le_refl _, Nat.le_refl _⟩ hN hK hP hD hS hA [0, 1] [] rfl rfl (by decide) (by decide) (by decide) (fun r118 u118 H locs q118 hP hD hS => ?_)
      have hP : va_P D vwCl [(m9, .inr (8, [.int th, .ref ad, .ref as9, .ref ab, .int (nI L.length), .ref at9, .int le, .ref ao, .ref al, .ref an, .ref ae, .ref ap9, .ref aq, .ref ar, .ref am, .int pl, .int fd9, .int gr, .int (nI (ptK L)), .int kp, .int pe])), (at9, .inl (cC, 40, .inl fx))] H := hP
      have hD : va_D A [(m9, .inr (8, [.int th, .ref ad, .ref as9, .ref ab, .int (nI L.length), .ref at9, .int le, .ref ao, .ref al, .ref an, .ref ae, .ref ap9, .ref aq, .ref ar, .ref am, .int pl, .int fd9, .int gr, .int (nI (ptK L)), .int kp, .int pe])), (at9, .inl (cC, 40, .inl fx))] := hD
      obtain rfl := q118
      refine lv_bipush (v := nI 37) (pc := 121) hx hb dX8_pattern_121 (by decide +kernel) ?_
      refine x_icmp_ne (tgt := 130) (pc := 123) hx hb (by omega) (by omega) dX8_pattern_123 (by decide) (fun h7 => ?_) (fun h7 => ?_)
      · refine lv_iconst (v := nI 0) (pc := 130) hx hb dX8_pattern_130 kI_0 ?_
        refine x_i (y := nI (ptC L)) (congrArg nI (ptC_n h7)) ?_
        refine va_put (D := D) (ci := 8) (v := .int (nI (ptC L))) (ty := .boolean) (C := RX8) (T := TX8) (N := 21) (pc := 131) hx hb hts in_X8 tyX8 ty_X8 nm_X8 hown hK hP hD hS 0 rfl rfl 20 (by decide) (hts _ kw_717) (fun _ h9 => h9) rfl (by decide +kernel) (x_nz (ptC_le L)) (x_fz (ptC_le L)) (Nat.le_of_ble_eq_true rfl) dX8_pattern_131 (fun H locs hP hD hS => ?_)
        have hP : va_P D vwCl [(m9, .inr (8, [.int th, .ref ad, .ref as9, .ref ab, .int (nI L.length), .ref at9, .int le, .ref ao, .ref al, .ref an, .ref ae, .ref ap9, .ref aq, .ref ar, .ref am, .int pl, .int fd9, .int gr, .int (nI (ptK L)), .int kp, .int (nI (ptC L))])), (at9, .inl (cC, 40, .inl fx))] H := hP
        have hD : va_D A [(m9, .inr (8, [.int th, .ref ad, .ref as9, .ref ab, .int (nI L.length), .ref at9, .int le, .ref ao, .ref al, .ref an, .ref ae, .ref ap9, .ref aq, .ref ar, .ref am, .int pl, .int fd9, .int gr, .int (nI (ptK L)), .int kp, .int (nI (ptC L))])), (at9, .inl (cC, 40, .inl fx))] := hD
        refine lv_aload_n (pc := 134) hx hb dX8_pattern_134 rfl (lv_at hl 3 rfl) ?_
        refine lv_iconst (v := nI 0) (pc := 135) hx hb dX8_pattern_135 kI_0 ?_
        refine va_put (D := D) (ci := 8) (v := .int (nI 0)) (ty := .int) (C := RX8) (T := TX8) (N := 21) (pc := 136) hx hb hts in_X8 tyX8 ty_X8 nm_X8 hown hK hP hD hS 0 rfl rfl 19 (by decide) (hts _ kw_716) (fun _ h9 => h9) rfl (by decide +kernel) rfl rfl (Nat.le_of_ble_eq_true rfl) dX8_pattern_136 (fun H locs hP hD hS => ?_)
        have hP : va_P D vwCl [(m9, .inr (8, [.int th, .ref ad, .ref as9, .ref ab, .int (nI L.length), .ref at9, .int le, .ref ao, .ref al, .ref an, .ref ae, .ref ap9, .ref aq, .ref ar, .ref am, .int pl, .int fd9, .int gr, .int (nI (ptK L)), .int (nI 0), .int (nI (ptC L))])), (at9, .inl (cC, 40, .inl fx))] H := hP
        have hD : va_D A [(m9, .inr (8, [.int th, .ref ad, .ref as9, .ref ab, .int (nI L.length), .ref at9, .int le, .ref ao, .ref al, .ref an, .ref ae, .ref ap9, .ref aq, .ref ar, .ref am, .int pl, .int fd9, .int gr, .int (nI (ptK L)), .int (nI 0), .int (nI (ptC L))])), (at9, .inl (cC, 40, .inl fx))] := hD
        refine lv_iconst (v := nI 0) (pc := 139) hx hb dX8_pattern_139 kI_0 ?_
        refine lv_istore (pc := 140) (lv' := [(4, .int (nI 0)), (3, .int (nI (ptB L))), (2, .int (nI (ptE L))), (1, .int (nI (ptP L))), (0, .ref m9)]) hx hb dX8_pattern_140 hl (by decide) rfl (fun ls hl => ?_)
        exact L142 _ 0 _ _ ls (Nat.lt_succ_self _) (by omega) hP hD hS hl
      · refine lv_iconst (v := nI 1) (pc := 126) hx hb dX8_pattern_126 kI_1 ?_
        refine x_i (y := nI (ptC L)) (congrArg nI (ptC_y h7)) ?_
        refine lv_goto (tgt := 131) (pc := 127) hx hb dX8_pattern_127 (by decide) ?_
        refine va_put (D := D) (ci := 8) (v := .int (nI (ptC L))) (ty := .boolean) (C := RX8) (T := TX8) (N := 21) (pc := 131) hx hb hts in_X8 tyX8 ty_X8 nm_X8 hown hK hP hD hS 0 rfl rfl 20 (by decide) (hts _ kw_717) (fun _ h9 => h9) rfl (by decide +kernel) (x_nz (ptC_le L)) (x_fz (ptC_le L)) (Nat.le_of_ble_eq_true rfl) dX8_pattern_131 (fun H locs hP hD hS => ?_)
        have hP : va_P D vwCl [(m9, .inr (8, [.int th, .ref ad, .ref as9, .ref ab, .int (nI L.length), .ref at9, .int le, .ref ao, .ref al, .ref an, .ref ae, .ref ap9, .ref aq, .ref ar, .ref am, .int pl, .int fd9, .int gr, .int (nI (ptK L)), .int kp, .int (nI (ptC L))])), (at9, .inl (cC, 40, .inl fx))] H := hP
        have hD : va_D A [(m9, .inr (8, [.int th, .ref ad, .ref as9, .ref ab, .int (nI L.length), .ref at9, .int le, .ref ao, .ref al, .ref an, .ref ae, .ref ap9, .ref aq, .ref ar, .ref am, .int pl, .int fd9, .int gr, .int (nI (ptK L)), .int kp, .int (nI (ptC L))])), (at9, .inl (cC, 40, .inl fx))] := hD
        refine lv_aload_n (pc := 134) hx hb dX8_pattern_134 rfl (lv_at hl 3 rfl) ?_
        refine lv_iconst (v := nI 0) (pc := 135) hx hb dX8_pattern_135 kI_0 ?_
        refine va_put (D := D) (ci := 8) (v := .int (nI 0)) (ty := .int) (C := RX8) (T := TX8) (N := 21) (pc := 136) hx hb hts in_X8 tyX8 ty_X8 nm_X8 hown hK hP hD hS 0 rfl rfl 19 (by decide) (hts _ kw_716) (fun _ h9 => h9) rfl (by decide +kernel) rfl rfl (Nat.le_of_ble_eq_true rfl) dX8_pattern_136 (fun H locs hP hD hS => ?_)
        have hP : va_P D vwCl [(m9, .inr (8, [.int th, .ref ad, .ref as9, .ref ab, .int (nI L.length), .ref at9, .int le, .ref ao, .ref al, .ref an, .ref ae, .ref ap9, .ref aq, .ref ar, .ref am, .int pl, .int fd9, .int gr, .int (nI (ptK L)), .int (nI 0), .int (nI (ptC L))])), (at9, .inl (cC, 40, .inl fx))] H := hP
        have hD : va_D A [(m9, .inr (8, [.int th, .ref ad, .ref as9, .ref ab, .int (nI L.length), .ref at9, .int le, .ref ao, .ref al, .ref an, .ref ae, .ref ap9, .ref aq, .ref ar, .ref am, .int pl, .int fd9, .int gr, .int (nI (ptK L)), .int (nI 0), .int (nI (ptC L))])), (at9, .inl (cC, 40, .inl fx))] := hD
        refine lv_iconst (v := nI 0) (pc := 139) hx hb dX8_pattern_139 kI_0 ?_
        refine lv_istore (pc := 140) (lv' := [(4, .int (nI 0)), (3, .int (nI (ptB L))), (2, .int (nI (ptE L))), (1, .int (nI (ptP L))), (0, .ref m9)]) hx hb dX8_pattern_140 hl (by decide) rfl (fun ls hl => ?_)
        exact L142 _ 0 _ _ ls (Nat.lt_succ_self _) (by omega) hP hD hS hl
    · refine lv_iload_n (pc := 105) hx hb dX8_pattern_105 rfl (lv_at hl 1 rfl) ?_
      refine lv_iload_n (pc := 106) hx hb dX8_pattern_106 rfl (lv_at hl 0 rfl) ?_
      refine lv_isub (pc := 107) hx hb dX8_pattern_107 ?_
      refine x_i (y := nI (ptK L)) ((pk_sub (by omega)).trans (congrArg nI (ptK_y h6))) ?_
      refine lv_goto (tgt := 112) (pc := 108) hx hb dX8_pattern_108 (by decide) ?_
      refine va_put (D := D) (ci := 8) (v := .int (nI (ptK L))) (ty := .int) (C := RX8) (T := TX8) (N := 21) (pc := 112) hx hb hts in_X8 tyX8 ty_X8 nm_X8 hown hK hP hD hS 0 rfl rfl 18 (by decide) (hts _ kw_715) (fun _ h9 => h9) rfl (by decide +kernel) rfl rfl (Nat.le_of_ble_eq_true rfl) dX8_pattern_112 (fun H locs hP hD hS => ?_)
      have hP : va_P D vwCl [(m9, .inr (8, [.int th, .ref ad, .ref as9, .ref ab, .int (nI L.length), .ref at9, .int le, .ref ao, .ref al, .ref an, .ref ae, .ref ap9, .ref aq, .ref ar, .ref am, .int pl, .int fd9, .int gr, .int (nI (ptK L)), .int kp, .int pe])), (at9, .inl (cC, 40, .inl fx))] H := hP
      have hD : va_D A [(m9, .inr (8, [.int th, .ref ad, .ref as9, .ref ab, .int (nI L.length), .ref at9, .int le, .ref ao, .ref al, .ref an, .ref ae, .ref ap9, .ref aq, .ref ar, .ref am, .int pl, .int fd9, .int gr, .int (nI (ptK L)), .int kp, .int pe])), (at9, .inl (cC, 40, .inl fx))] := hD
      refine lv_aload_n (pc := 115) hx hb dX8_pattern_115 rfl (lv_at hl 3 rfl) ?_
      refine lv_aload_n (pc := 116) hx hb dX8_pattern_116 rfl (lv_at hl 3 rfl) ?_
      refine lv_iload_n (pc := 117) hx hb dX8_pattern_117 rfl (lv_at hl 1 rfl) ?_
      refine x_Vi (pc := 118) (As := [.int (nI (ptE L))]) (rest := [.ref m9]) (b := m9) (wr := []) ⟨hx, hb, hml, hown, hts⟩ (c_text l D cI cL cC cB cZ cR H.size m9 ad as9 ab at9 ao al an ae ap9 aq ar am th le pl fd9 gr (nI (ptK L)) kp pe (ptE L) L fx hx9 hL hc9 (by omega)) ⟨callB_of 1 hts (x_good kw_916) rfl rfl rfl (hts _ kw_9) (hts _ kw_913) dc_X8_text ⟨Nat.le_of_ble_eq_true rfl, Nat.le_of_ble_eq_true rfl⟩, hts _ kw_915, hts _ kp_33⟩ (q0 := 0) rfl rfl rfl rfl hl.1 rfl (Nat.le_of_ble_eq_true rfl) dX8_pattern_118 ⟨Nat.le_refl _, Nat.le_refl _⟩ hN hK hP hD hS hA [0, 1] [] rfl rfl (by decide) (by decide) (by decide) (fun r118 u118 H locs q118 hP hD hS => ?_)
      have hP : va_P D vwCl [(m9, .inr (8, [.int th, .ref ad, .ref as9, .ref ab, .int (nI L.length), .ref at9, .int le, .ref ao, .ref al, .ref an, .ref ae, .ref ap9, .ref aq, .ref ar, .ref am, .int pl, .int fd9, .int gr, .int (nI (ptK L)), .int kp, .int pe])), (at9, .inl (cC, 40, .inl fx))] H := hP
      have hD : va_D A [(m9, .inr (8, [.int th, .ref ad, .ref as9, .ref ab, .int (nI L.length), .ref at9, .int le, .ref ao, .ref al, .ref an, .ref ae, .ref ap9, .ref aq, .ref ar, .ref am, .int pl, .int fd9, .int gr, .int (nI (ptK L)), .int kp, .int pe])), (at9, .inl (cC, 40, .inl fx))] := hD
      obtain rfl := q118
      refine lv_bipush (v := nI 37) (pc := 121) hx hb dX8_pattern_121 (by decide +kernel) ?_
      refine x_icmp_ne (tgt := 130) (pc := 123) hx hb (by omega) (by omega) dX8_pattern_123 (by decide) (fun h7 => ?_) (fun h7 => ?_)
      · refine lv_iconst (v := nI 0) (pc := 130) hx hb dX8_pattern_130 kI_0 ?_
        refine x_i (y := nI (ptC L)) (congrArg nI (ptC_n h7)) ?_
        refine va_put (D := D) (ci := 8) (v := .int (nI (ptC L))) (ty := .boolean) (C := RX8) (T := TX8) (N := 21) (pc := 131) hx hb hts in_X8 tyX8 ty_X8 nm_X8 hown hK hP hD hS 0 rfl rfl 20 (by decide) (hts _ kw_717) (fun _ h9 => h9) rfl (by decide +kernel) (x_nz (ptC_le L)) (x_fz (ptC_le L)) (Nat.le_of_ble_eq_true rfl) dX8_pattern_131 (fun H locs hP hD hS => ?_)
        have hP : va_P D vwCl [(m9, .inr (8, [.int th, .ref ad, .ref as9, .ref ab, .int (nI L.length), .ref at9, .int le, .ref ao, .ref al, .ref an, .ref ae, .ref ap9, .ref aq, .ref ar, .ref am, .int pl, .int fd9, .int gr, .int (nI (ptK L)), .int kp, .int (nI (ptC L))])), (at9, .inl (cC, 40, .inl fx))] H := hP
        have hD : va_D A [(m9, .inr (8, [.int th, .ref ad, .ref as9, .ref ab, .int (nI L.length), .ref at9, .int le, .ref ao, .ref al, .ref an, .ref ae, .ref ap9, .ref aq, .ref ar, .ref am, .int pl, .int fd9, .int gr, .int (nI (ptK L)), .int kp, .int (nI (ptC L))])), (at9, .inl (cC, 40, .inl fx))] := hD
        refine lv_aload_n (pc := 134) hx hb dX8_pattern_134 rfl (lv_at hl 3 rfl) ?_
        refine lv_iconst (v := nI 0) (pc := 135) hx hb dX8_pattern_135 kI_0 ?_
        refine va_put (D := D) (ci := 8) (v := .int (nI 0)) (ty := .int) (C := RX8) (T := TX8) (N := 21) (pc := 136) hx hb hts in_X8 tyX8 ty_X8 nm_X8 hown hK hP hD hS 0 rfl rfl 19 (by decide) (hts _ kw_716) (fun _ h9 => h9) rfl (by decide +kernel) rfl rfl (Nat.le_of_ble_eq_true rfl) dX8_pattern_136 (fun H locs hP hD hS => ?_)
        have hP : va_P D vwCl [(m9, .inr (8, [.int th, .ref ad, .ref as9, .ref ab, .int (nI L.length), .ref at9, .int le, .ref ao, .ref al, .ref an, .ref ae, .ref ap9, .ref aq, .ref ar, .ref am, .int pl, .int fd9, .int gr, .int (nI (ptK L)), .int (nI 0), .int (nI (ptC L))])), (at9, .inl (cC, 40, .inl fx))] H := hP
        have hD : va_D A [(m9, .inr (8, [.int th, .ref ad, .ref as9, .ref ab, .int (nI L.length), .ref at9, .int le, .ref ao, .ref al, .ref an, .ref ae, .ref ap9, .ref aq, .ref ar, .ref am, .int pl, .int fd9, .int gr, .int (nI (ptK L)), .int (nI 0), .int (nI (ptC L))])), (at9, .inl (cC, 40, .inl fx))] := hD
        refine lv_iconst (v := nI 0) (pc := 139) hx hb dX8_pattern_139 kI_0 ?_
        refine lv_istore (pc := 140) (lv' := [(4, .int (nI 0)), (3, .int (nI (ptB L))), (2, .int (nI (ptE L))), (1, .int (nI (ptP L))), (0, .ref m9)]) hx hb dX8_pattern_140 hl (by decide) rfl (fun ls hl => ?_)
        exact L142 _ 0 _ _ ls (Nat.lt_succ_self _) (by omega) hP hD hS hl
      · refine lv_iconst (v := nI 1) (pc := 126) hx hb dX8_pattern_126 kI_1 ?_
        refine x_i (y := nI (ptC L)) (congrArg nI (ptC_y h7)) ?_
        refine lv_goto (tgt := 131) (pc := 127) hx hb dX8_pattern_127 (by decide) ?_
        refine va_put (D := D) (ci := 8) (v := .int (nI (ptC L))) (ty := .boolean) (C := RX8) (T := TX8) (N := 21) (pc := 131) hx hb hts in_X8 tyX8 ty_X8 nm_X8 hown hK hP hD hS 0 rfl rfl 20 (by decide) (hts _ kw_717) (fun _ h9 => h9) rfl (by decide +kernel) (x_nz (ptC_le L)) (x_fz (ptC_le L)) (Nat.le_of_ble_eq_true rfl) dX8_pattern_131 (fun H locs hP hD hS => ?_)
        have hP : va_P D vwCl [(m9, .inr (8, [.int th, .ref ad, .ref as9, .ref ab, .int (nI L.length), .ref at9, .int le, .ref ao, .ref al, .ref an, .ref ae, .ref ap9, .ref aq, .ref ar, .ref am, .int pl, .int fd9, .int gr, .int (nI (ptK L)), .int kp, .int (nI (ptC L))])), (at9, .inl (cC, 40, .inl fx))] H := hP
        have hD : va_D A [(m9, .inr (8, [.int th, .ref ad, .ref as9, .ref ab, .int (nI L.length), .ref at9, .int le, .ref ao, .ref al, .ref an, .ref ae, .ref ap9, .ref aq, .ref ar, .ref am, .int pl, .int fd9, .int gr, .int (nI (ptK L)), .int kp, .int (nI (ptC L))])), (at9, .inl (cC, 40, .inl fx))] := hD
        refine lv_aload_n (pc := 134) hx hb dX8_pattern_134 rfl (lv_at hl 3 rfl) ?_
        refine lv_iconst (v := nI 0) (pc := 135) hx hb dX8_pattern_135 kI_0 ?_
        refine va_put (D := D) (ci := 8) (v := .int (nI 0)) (ty := .int) (C := RX8) (T := TX8) (N := 21) (pc := 136) hx hb hts in_X8 tyX8 ty_X8 nm_X8 hown hK hP hD hS 0 rfl rfl 19 (by decide) (hts _ kw_716) (fun _ h9 => h9) rfl (by decide +kernel) rfl rfl (Nat.le_of_ble_eq_true rfl) dX8_pattern_136 (fun H locs hP hD hS => ?_)
        have hP : va_P D vwCl [(m9, .inr (8, [.int th, .ref ad, .ref as9, .ref ab, .int (nI L.length), .ref at9, .int le, .ref ao, .ref al, .ref an, .ref ae, .ref ap9, .ref aq, .ref ar, .ref am, .int pl, .int fd9, .int gr, .int (nI (ptK L)), .int (nI 0), .int (nI (ptC L))])), (at9, .inl (cC, 40, .inl fx))] H := hP
        have hD : va_D A [(m9, .inr (8, [.int th, .ref ad, .ref as9, .ref ab, .int (nI L.length), .ref at9, .int le, .ref ao, .ref al, .ref an, .ref ae, .ref ap9, .ref aq, .ref ar, .ref am, .int pl, .int fd9, .int gr, .int (nI (ptK L)), .int (nI 0), .int (nI (ptC L))])), (at9, .inl (cC, 40, .inl fx))] := hD
        refine lv_iconst (v := nI 0) (pc := 139) hx hb dX8_pattern_139 kI_0 ?_
        refine lv_istore (pc := 140) (lv' := [(4, .int (nI 0)), (3, .int (nI (ptB L))), (2, .int (nI (ptE L))), (1, .int (nI (ptP L))), (0, .ref m9)]) hx hb dX8_pattern_140 hl (by decide) rfl (fun ls hl => ?_)
        exact L142 _ 0 _ _ ls (Nat.lt_succ_self _) (by omega) hP hD hS hl
  have L68 : ∀ (kk : Nat) (e9 : Nat) (H : Heap) (locs : List Loc) (ls : Array Slot) (hk68 : L.length - e9 < kk) (he1 : ptB L ≤ e9) (he2 : e9 ≤ L.length) (he : ptE L = scn slotN L e9 (41 - (e9 - ptB L))) (hP : va_P D vwCl [(m9, .inr (8, [.int th, .ref ad, .ref as9, .ref ab, .int (nI L.length), .ref at9, .int le, .ref ao, .ref al, .ref an, .ref ae, .ref ap9, .ref aq, .ref ar, .ref am, .int pl, .int fd9, .int gr, .int bk, .int kp, .int pe])), (at9, .inl (cC, 40, .inl fx))] H) (hD : va_D A [(m9, .inr (8, [.int th, .ref ad, .ref as9, .ref ab, .int (nI L.length), .ref at9, .int le, .ref ao, .ref al, .ref an, .ref ae, .ref ap9, .ref aq, .ref ar, .ref am, .int pl, .int fd9, .int gr, .int bk, .int kp, .int pe])), (at9, .inl (cC, 40, .inl fx))]) (hS : va_S A s.heap H locs) (hl : lv_has ls 5 [(3, .int (nI (ptB L))), (2, .int (nI e9)), (1, .int (nI (ptP L))), (0, .ref m9)]), W p l e rm_c_pattern s m args below meth c H locs 0 0 (MQ below (va_Qi (fun (z : Int32) (_ : Unit) => z = nI (ptO L)) (xB D vwCl (tyAll cI cL cC cB cZ cR) A (fun u : Unit => [(m9, .inr (8, [.int th, .ref ad, .ref as9, .ref ab, .int (nI L.length), .ref at9, .int le, .ref ao, .ref al, .ref an, .ref ae, .ref ap9, .ref aq, .ref ar, .ref am, .int pl, .int (nI (fdF L (ptP L))), .int (nI (grF L (anyF L (ptP L)) (ptP L))), .int (nI (ptK L)), .int (nI (kpF L (ptB L) (ptK L))), .int (nI (ptC L))])), (at9, .inl (cC, 40, .inl fx))])) A) args s 0 0 A) (F0 m 68 ls []) := by
    intro kk
    induction kk with
    | zero => intro e9 H locs ls hk; exact absurd hk (Nat.not_lt_zero _)
    | succ kk ih68 =>
      intro e9 H locs ls hk68 he1 he2 he hP hD hS hl
      have hx1 := getD_lt (by decide) hc9 e9
      refine lv_iload_n (pc := 68) hx hb dX8_pattern_68 rfl (lv_at hl 1 rfl) ?_
      refine lv_aload_n (pc := 69) hx hb dX8_pattern_69 rfl (lv_at hl 3 rfl) ?_
      refine va_get (D := D) (ci := 8) (v := .int (nI L.length)) (C := RX8) (T := TX8) (N := 21) (pc := 70) hx hb hts in_X8 hown hK hP 0 rfl rfl 4 (by decide) (hts _ kw_701) (fun _ h9 => h9) rfl dX8_pattern_70 ?_
      refine x_icmp_ge (tgt := 94) (pc := 73) hx hb (by omega) (by omega) dX8_pattern_73 (by decide) (fun hc2 => ?_) (fun hc2 => ?_)
      · have hke : e9 = ptE L := by rw [he, scn_e (by omega)]
        rw [hke] at hl
        have hl : lv_has ls 5 [(3, .int (nI (ptB L))), (2, .int (nI (ptE L))), (1, .int (nI (ptP L))), (0, .ref m9)] := hl
        exact L94  _ _ ls  hP hD hS hl
      · refine lv_aload_n (pc := 76) hx hb dX8_pattern_76 rfl (lv_at hl 3 rfl) ?_
        refine va_get (D := D) (ci := 8) (v := .ref at9) (C := RX8) (T := TX8) (N := 21) (pc := 77) hx hb hts in_X8 hown hK hP 0 rfl rfl 5 (by decide) (hts _ kw_702) (fun _ h9 => h9) rfl dX8_pattern_77 ?_
        refine lv_iload_n (pc := 80) hx hb dX8_pattern_80 rfl (lv_at hl 1 rfl) ?_
        refine x_cald (v := nI (L.getD e9 0)) (pc := 81) hx hb hK hP 1 2 rfl rfl (by omega) (by decide) (oR_at hx9 (by omega)) dX8_pattern_81 ?_
        refine x_Si (pc := 82) (As := [.int (nI (L.getD e9 0))]) (rest := []) (wr := [(m9, .inr (8, [.int th, .ref ad, .ref as9, .ref ab, .int (nI L.length), .ref at9, .int le, .ref ao, .ref al, .ref an, .ref ae, .ref ap9, .ref aq, .ref ar, .ref am, .int pl, .int fd9, .int gr, .int bk, .int kp, .int pe])), (at9, .inl (cC, 40, .inl fx))]) ⟨hx, hb, hml, hown, hts⟩ (c_slot l D cI cL cC cB cZ cR H.size (L.getD e9 0) (by omega)) ⟨callB_of 1 hts (x_good kw_912) rfl rfl rfl (hts _ kw_9) (hts _ kw_910) dc_X8_slot ⟨Nat.le_of_ble_eq_true rfl, Nat.le_of_ble_eq_true rfl⟩, hts _ kw_911⟩ rfl hl.1 rfl (Nat.le_of_ble_eq_true rfl) dX8_pattern_82 ⟨Nat.le_refl _, Nat.le_refl _⟩ hN hK hP hD hS hA [] [0, 1] rfl rfl (by decide) (by decide) (by decide) (fun r82 u82 H locs q82 hP hD hS => ?_)
        have hP : va_P D vwCl [(m9, .inr (8, [.int th, .ref ad, .ref as9, .ref ab, .int (nI L.length), .ref at9, .int le, .ref ao, .ref al, .ref an, .ref ae, .ref ap9, .ref aq, .ref ar, .ref am, .int pl, .int fd9, .int gr, .int bk, .int kp, .int pe])), (at9, .inl (cC, 40, .inl fx))] H := hP
        have hD : va_D A [(m9, .inr (8, [.int th, .ref ad, .ref as9, .ref ab, .int (nI L.length), .ref at9, .int le, .ref ao, .ref al, .ref an, .ref ae, .ref ap9, .ref aq, .ref ar, .ref am, .int pl, .int fd9, .int gr, .int bk, .int kp, .int pe])), (at9, .inl (cC, 40, .inl fx))] := hD
        obtain rfl := q82
        have hsl := slotN_sp (L.getD e9 0)
        refine x_if_eq (tgt := 94) (pc := 85) hx hb (by omega) dX8_pattern_85 (by decide) (fun h5 => ?_) (fun h5 => ?_)
        · have hke : e9 = ptE L := by rw [he, scn_e (by omega)]
          rw [hke] at hl
          have hl : lv_has ls 5 [(3, .int (nI (ptB L))), (2, .int (nI (ptE L))), (1, .int (nI (ptP L))), (0, .ref m9)] := hl
          exact L94  _ _ ls  hP hD hS hl
        · refine lv_iinc (k := 1) (v := nI (e9 + 1)) (pc := 88) (lv' := [(2, .int (nI (e9 + 1))), (3, .int (nI (ptB L))), (1, .int (nI (ptP L))), (0, .ref m9)]) hx hb dX8_pattern_88 hl rfl (x_inc e9) (by decide) rfl (fun ls hl => ?_)
          refine lv_goto (tgt := 68) (pc := 91) hx hb dX8_pattern_91 (by decide) ?_
          have hl := lv_sub (l' := [(3, .int (nI (ptB L))), (2, .int (nI (e9 + 1))), (1, .int (nI (ptP L))), (0, .ref m9)]) hl [1, 0, 2, 3] rfl
          exact ih68 (e9 + 1) H locs ls (by omega) (by omega) (by omega) (by rw [he, scn_s (by omega) (by omega) (by omega)]; congr 1; omega) hP hD hS hl
  have L65 : ∀  (H : Heap) (locs : List Loc) (ls : Array Slot)  (hP : va_P D vwCl [(m9, .inr (8, [.int th, .ref ad, .ref as9, .ref ab, .int (nI L.length), .ref at9, .int le, .ref ao, .ref al, .ref an, .ref ae, .ref ap9, .ref aq, .ref ar, .ref am, .int pl, .int fd9, .int gr, .int bk, .int kp, .int pe])), (at9, .inl (cC, 40, .inl fx))] H) (hD : va_D A [(m9, .inr (8, [.int th, .ref ad, .ref as9, .ref ab, .int (nI L.length), .ref at9, .int le, .ref ao, .ref al, .ref an, .ref ae, .ref ap9, .ref aq, .ref ar, .ref am, .int pl, .int fd9, .int gr, .int bk, .int kp, .int pe])), (at9, .inl (cC, 40, .inl fx))]) (hS : va_S A s.heap H locs) (hl : lv_has ls 5 [(1, .int (nI (ptP L))), (0, .ref m9)]), W p l e rm_c_pattern s m args below meth c H locs 0 0 (MQ below (va_Qi (fun (z : Int32) (_ : Unit) => z = nI (ptO L)) (xB D vwCl (tyAll cI cL cC cB cZ cR) A (fun u : Unit => [(m9, .inr (8, [.int th, .ref ad, .ref as9, .ref ab, .int (nI L.length), .ref at9, .int le, .ref ao, .ref al, .ref an, .ref ae, .ref ap9, .ref aq, .ref ar, .ref am, .int pl, .int (nI (fdF L (ptP L))), .int (nI (grF L (anyF L (ptP L)) (ptP L))), .int (nI (ptK L)), .int (nI (kpF L (ptB L) (ptK L))), .int (nI (ptC L))])), (at9, .inl (cC, 40, .inl fx))])) A) args s 0 0 A) (F0 m 65 ls [.int (nI (ptB L))]) := by
    intro  H locs ls  hP hD hS hl
    have l1 := ptP_le L
    have l2 := ptB_le L
    have l3 := ptE_le L
    have l4 := ptE_ge L
    have l5 := ptC_le L
    have l6 := ptK_le2 L
    have l7 := anyF_le L (ptP L)
    refine lv_istore_n (pc := 65) (lv' := [(2, .int (nI (ptB L))), (1, .int (nI (ptP L))), (0, .ref m9)]) hx hb dX8_pattern_65 rfl hl (by decide) rfl (fun ls hl => ?_)
    refine lv_iload_n (pc := 66) hx hb dX8_pattern_66 rfl (lv_at hl 0 rfl) ?_
    refine lv_istore_n (pc := 67) (lv' := [(3, .int (nI (ptB L))), (2, .int (nI (ptB L))), (1, .int (nI (ptP L))), (0, .ref m9)]) hx hb dX8_pattern_67 rfl hl (by decide) rfl (fun ls hl => ?_)
    exact L68 _ (ptB L) _ _ ls (Nat.lt_succ_self _) (by omega) (by omega) (by unfold ptE; rw [Nat.sub_self]) hP hD hS hl
  have L39 : ∀  (H : Heap) (locs : List Loc) (ls : Array Slot)  (hP : va_P D vwCl [(m9, .inr (8, [.int th, .ref ad, .ref as9, .ref ab, .int (nI L.length), .ref at9, .int le, .ref ao, .ref al, .ref an, .ref ae, .ref ap9, .ref aq, .ref ar, .ref am, .int pl, .int fd9, .int gr, .int bk, .int kp, .int pe])), (at9, .inl (cC, 40, .inl fx))] H) (hD : va_D A [(m9, .inr (8, [.int th, .ref ad, .ref as9, .ref ab, .int (nI L.length), .ref at9, .int le, .ref ao, .ref al, .ref an, .ref ae, .ref ap9, .ref aq, .ref ar, .ref am, .int pl, .int fd9, .int gr, .int bk, .int kp, .int pe])), (at9, .inl (cC, 40, .inl fx))]) (hS : va_S A s.heap H locs) (hl : lv_has ls 5 [(1, .int (nI (ptP L))), (0, .ref m9)]), W p l e rm_c_pattern s m args below meth c H locs 0 0 (MQ below (va_Qi (fun (z : Int32) (_ : Unit) => z = nI (ptO L)) (xB D vwCl (tyAll cI cL cC cB cZ cR) A (fun u : Unit => [(m9, .inr (8, [.int th, .ref ad, .ref as9, .ref ab, .int (nI L.length), .ref at9, .int le, .ref ao, .ref al, .ref an, .ref ae, .ref ap9, .ref aq, .ref ar, .ref am, .int pl, .int (nI (fdF L (ptP L))), .int (nI (grF L (anyF L (ptP L)) (ptP L))), .int (nI (ptK L)), .int (nI (kpF L (ptB L) (ptK L))), .int (nI (ptC L))])), (at9, .inl (cC, 40, .inl fx))])) A) args s 0 0 A) (F0 m 39 ls []) := by
    intro  H locs ls  hP hD hS hl
    have l1 := ptP_le L
    have l2 := ptB_le L
    have l3 := ptE_le L
    have l4 := ptE_ge L
    have l5 := ptC_le L
    have l6 := ptK_le2 L
    have l7 := anyF_le L (ptP L)
    have hx1 := getD_lt (by decide) hc9 (ptP L)
    refine lv_iload_n (pc := 39) hx hb dX8_pattern_39 rfl (lv_at hl 0 rfl) ?_
    refine lv_aload_n (pc := 40) hx hb dX8_pattern_40 rfl (lv_at hl 1 rfl) ?_
    refine va_get (D := D) (ci := 8) (v := .int (nI L.length)) (C := RX8) (T := TX8) (N := 21) (pc := 41) hx hb hts in_X8 hown hK hP 0 rfl rfl 4 (by decide) (hts _ kw_701) (fun _ h9 => h9) rfl dX8_pattern_41 ?_
    refine x_icmp_ge (tgt := 64) (pc := 44) hx hb (by omega) (by omega) dX8_pattern_44 (by decide) (fun h3 => ?_) (fun h3 => ?_)
    · refine lv_iload_n (pc := 64) hx hb dX8_pattern_64 rfl (lv_at hl 0 rfl) ?_
      refine x_i (y := nI (ptB L)) (congrArg nI (ptB_n (by omega))) ?_
      exact L65  _ _ ls  hP hD hS hl
    · refine lv_aload_n (pc := 47) hx hb dX8_pattern_47 rfl (lv_at hl 1 rfl) ?_
      refine va_get (D := D) (ci := 8) (v := .ref at9) (C := RX8) (T := TX8) (N := 21) (pc := 48) hx hb hts in_X8 hown hK hP 0 rfl rfl 5 (by decide) (hts _ kw_702) (fun _ h9 => h9) rfl dX8_pattern_48 ?_
      refine lv_iload_n (pc := 51) hx hb dX8_pattern_51 rfl (lv_at hl 0 rfl) ?_
      refine x_cald (v := nI (L.getD ((ptP L)) 0)) (pc := 52) hx hb hK hP 1 2 rfl rfl (by omega) (by decide) (oR_at hx9 (by omega)) dX8_pattern_52 ?_
      refine lv_bipush (v := nI 46) (pc := 53) hx hb dX8_pattern_53 (by decide +kernel) ?_
      refine x_icmp_ne (tgt := 64) (pc := 55) hx hb (by omega) (by omega) dX8_pattern_55 (by decide) (fun h4 => ?_) (fun h4 => ?_)
      · refine lv_iload_n (pc := 64) hx hb dX8_pattern_64 rfl (lv_at hl 0 rfl) ?_
        refine x_i (y := nI (ptB L)) (congrArg nI (ptB_n (by omega))) ?_
        exact L65  _ _ ls  hP hD hS hl
      · refine lv_iload_n (pc := 58) hx hb dX8_pattern_58 rfl (lv_at hl 0 rfl) ?_
        refine lv_iconst (v := nI 1) (pc := 59) hx hb dX8_pattern_59 kI_1 ?_
        refine lv_iadd (pc := 60) hx hb dX8_pattern_60 ?_
        refine x_i (y := nI (ptB L)) ((nI_add _ _).trans (congrArg nI (ptB_y h3 h4))) ?_
        refine lv_goto (tgt := 65) (pc := 61) hx hb dX8_pattern_61 (by decide) ?_
        exact L65  _ _ ls  hP hD hS hl
  have L2 : ∀ (kk : Nat) (k : Nat) (H : Heap) (locs : List Loc) (ls : Array Slot) (hk2 : L.length - k < kk) (hk : k ≤ L.length) (hp : ptP L = scn frN L k (41 - k)) (hP : va_P D vwCl [(m9, .inr (8, [.int th, .ref ad, .ref as9, .ref ab, .int (nI L.length), .ref at9, .int le, .ref ao, .ref al, .ref an, .ref ae, .ref ap9, .ref aq, .ref ar, .ref am, .int pl, .int fd9, .int gr, .int bk, .int kp, .int pe])), (at9, .inl (cC, 40, .inl fx))] H) (hD : va_D A [(m9, .inr (8, [.int th, .ref ad, .ref as9, .ref ab, .int (nI L.length), .ref at9, .int le, .ref ao, .ref al, .ref an, .ref ae, .ref ap9, .ref aq, .ref ar, .ref am, .int pl, .int fd9, .int gr, .int bk, .int kp, .int pe])), (at9, .inl (cC, 40, .inl fx))]) (hS : va_S A s.heap H locs) (hl : lv_has ls 5 [(1, .int (nI k)), (0, .ref m9)]), W p l e rm_c_pattern s m args below meth c H locs 0 0 (MQ below (va_Qi (fun (z : Int32) (_ : Unit) => z = nI (ptO L)) (xB D vwCl (tyAll cI cL cC cB cZ cR) A (fun u : Unit => [(m9, .inr (8, [.int th, .ref ad, .ref as9, .ref ab, .int (nI L.length), .ref at9, .int le, .ref ao, .ref al, .ref an, .ref ae, .ref ap9, .ref aq, .ref ar, .ref am, .int pl, .int (nI (fdF L (ptP L))), .int (nI (grF L (anyF L (ptP L)) (ptP L))), .int (nI (ptK L)), .int (nI (kpF L (ptB L) (ptK L))), .int (nI (ptC L))])), (at9, .inl (cC, 40, .inl fx))])) A) args s 0 0 A) (F0 m 2 ls []) := by
    intro kk
    induction kk with
    | zero => intro k H locs ls hk; exact absurd hk (Nat.not_lt_zero _)
    | succ kk ih2 =>
      intro k H locs ls hk2 hk hp hP hD hS hl
      have hx1 := getD_lt (by decide) hc9 k
      have hfr := frN_sp (L.getD k 0)
      refine lv_iload_n (pc := 2) hx hb dX8_pattern_2 rfl (lv_at hl 0 rfl) ?_
      refine lv_aload_n (pc := 3) hx hb dX8_pattern_3 rfl (lv_at hl 1 rfl) ?_
      refine va_get (D := D) (ci := 8) (v := .int (nI L.length)) (C := RX8) (T := TX8) (N := 21) (pc := 4) hx hb hts in_X8 hown hK hP 0 rfl rfl 4 (by decide) (hts _ kw_701) (fun _ h9 => h9) rfl dX8_pattern_4 ?_
      refine x_icmp_ge (tgt := 39) (pc := 7) hx hb (by omega) (by omega) dX8_pattern_7 (by decide) (fun hc => ?_) (fun hc => ?_)
      · have hkp : k = ptP L := by rw [hp, scn_e (by omega)]
        rw [hkp] at hl
        have hl : lv_has ls 5 [(1, .int (nI (ptP L))), (0, .ref m9)] := hl
        exact L39  _ _ ls  hP hD hS hl
      · refine lv_aload_n (pc := 10) hx hb dX8_pattern_10 rfl (lv_at hl 1 rfl) ?_
        refine va_get (D := D) (ci := 8) (v := .ref at9) (C := RX8) (T := TX8) (N := 21) (pc := 11) hx hb hts in_X8 hown hK hP 0 rfl rfl 5 (by decide) (hts _ kw_702) (fun _ h9 => h9) rfl dX8_pattern_11 ?_
        refine lv_iload_n (pc := 14) hx hb dX8_pattern_14 rfl (lv_at hl 0 rfl) ?_
        refine x_cald (v := nI (L.getD k 0)) (pc := 15) hx hb hK hP 1 2 rfl rfl (by omega) (by decide) (oR_at hx9 (by omega)) dX8_pattern_15 ?_
        refine x_Si (pc := 16) (As := [.int (nI (L.getD k 0))]) (rest := []) (wr := [(m9, .inr (8, [.int th, .ref ad, .ref as9, .ref ab, .int (nI L.length), .ref at9, .int le, .ref ao, .ref al, .ref an, .ref ae, .ref ap9, .ref aq, .ref ar, .ref am, .int pl, .int fd9, .int gr, .int bk, .int kp, .int pe])), (at9, .inl (cC, 40, .inl fx))]) ⟨hx, hb, hml, hown, hts⟩ (c_slot l D cI cL cC cB cZ cR H.size (L.getD k 0) (by omega)) ⟨callB_of 1 hts (x_good kw_912) rfl rfl rfl (hts _ kw_9) (hts _ kw_910) dc_X8_slot ⟨Nat.le_of_ble_eq_true rfl, Nat.le_of_ble_eq_true rfl⟩, hts _ kw_911⟩ rfl hl.1 rfl (Nat.le_of_ble_eq_true rfl) dX8_pattern_16 ⟨Nat.le_refl _, Nat.le_refl _⟩ hN hK hP hD hS hA [] [0, 1] rfl rfl (by decide) (by decide) (by decide) (fun r16 u16 H locs q16 hP hD hS => ?_)
        have hP : va_P D vwCl [(m9, .inr (8, [.int th, .ref ad, .ref as9, .ref ab, .int (nI L.length), .ref at9, .int le, .ref ao, .ref al, .ref an, .ref ae, .ref ap9, .ref aq, .ref ar, .ref am, .int pl, .int fd9, .int gr, .int bk, .int kp, .int pe])), (at9, .inl (cC, 40, .inl fx))] H := hP
        have hD : va_D A [(m9, .inr (8, [.int th, .ref ad, .ref as9, .ref ab, .int (nI L.length), .ref at9, .int le, .ref ao, .ref al, .ref an, .ref ae, .ref ap9, .ref aq, .ref ar, .ref am, .int pl, .int fd9, .int gr, .int bk, .int kp, .int pe])), (at9, .inl (cC, 40, .inl fx))] := hD
        obtain rfl := q16
        have hsl := slotN_sp (L.getD k 0)
        refine x_if_ne (tgt := 33) (pc := 19) hx hb (by omega) dX8_pattern_19 (by decide) (fun h1 => ?_) (fun h1 => ?_)
        · refine lv_iinc (k := 0) (v := nI (k + 1)) (pc := 33) (lv' := [(1, .int (nI (k + 1))), (0, .ref m9)]) hx hb dX8_pattern_33 hl rfl (x_inc k) (by decide) rfl (fun ls hl => ?_)
          refine lv_goto (tgt := 2) (pc := 36) hx hb dX8_pattern_36 (by decide) ?_
          exact ih2 (k + 1) H locs ls (by omega) (by omega) (hp.trans (scn_s (by omega) (by omega) (by omega))) hP hD hS hl
        · refine lv_aload_n (pc := 22) hx hb dX8_pattern_22 rfl (lv_at hl 1 rfl) ?_
          refine va_get (D := D) (ci := 8) (v := .ref at9) (C := RX8) (T := TX8) (N := 21) (pc := 23) hx hb hts in_X8 hown hK hP 0 rfl rfl 5 (by decide) (hts _ kw_702) (fun _ h9 => h9) rfl dX8_pattern_23 ?_
          refine lv_iload_n (pc := 26) hx hb dX8_pattern_26 rfl (lv_at hl 0 rfl) ?_
          refine x_cald (v := nI (L.getD k 0)) (pc := 27) hx hb hK hP 1 2 rfl rfl (by omega) (by decide) (oR_at hx9 (by omega)) dX8_pattern_27 ?_
          refine lv_bipush (v := nI 44) (pc := 28) hx hb dX8_pattern_28 (by decide +kernel) ?_
          refine x_icmp_ne (tgt := 39) (pc := 30) hx hb (by omega) (by omega) dX8_pattern_30 (by decide) (fun h2 => ?_) (fun h2 => ?_)
          · have hkp : k = ptP L := by rw [hp, scn_e (by omega)]
            rw [hkp] at hl
            have hl : lv_has ls 5 [(1, .int (nI (ptP L))), (0, .ref m9)] := hl
            exact L39  _ _ ls  hP hD hS hl
          · refine lv_iinc (k := 0) (v := nI (k + 1)) (pc := 33) (lv' := [(1, .int (nI (k + 1))), (0, .ref m9)]) hx hb dX8_pattern_33 hl rfl (x_inc k) (by decide) rfl (fun ls hl => ?_)
            refine lv_goto (tgt := 2) (pc := 36) hx hb dX8_pattern_36 (by decide) ?_
            exact ih2 (k + 1) H locs ls (by omega) (by omega) (hp.trans (scn_s (by omega) (by omega) (by omega))) hP hD hS hl
  refine lv_iconst (v := nI 0) (pc := 0) hx hb dX8_pattern_0 kI_0 ?_
  refine lv_istore_n (pc := 1) (lv' := [(1, .int (nI 0)), (0, .ref m9)]) hx hb dX8_pattern_1 rfl hl (by decide) rfl (fun ls hl => ?_)
  exact L2 _ 0 _ _ ls (Nat.lt_succ_self _) (by omega) rfl hP hD hS hl
