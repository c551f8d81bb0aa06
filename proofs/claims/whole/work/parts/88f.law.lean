set_option maxHeartbeats 4000000 in
set_option maxRecDepth 100000 in
theorem lw_case12 {p : Program} {l : Launch} {e : Env} {s : State} {m : MethodId} {below : List Frame} {meth : Method} {c : Code} {b L : Nat} {xs : Nat → Int32} {A : Nat → Prop} {D : va_G} {cI cL cC cB cZ cR : ClassId} {N0 : Nat} {ka : kA} {ma : mA} {oc cells slots : Nat} {Q : State → Prop} (hC : lwC p l s m c b L xs A D cI cL cC cB cZ cR N0 ka) {i : Nat} (hi : i + 7 ≤ L) {z : kS} {w : mS} {g : gS} {fo9 : Nat → Int64} {H : Heap} {locs : List Loc} {ls : Array Slot} (hk : kU z g) (hU : mU w g) (hG : gOk g) (hP : va_P D vwCl (lwW cI cL cC cB cZ cR ka ma oc z w g fo9) H) (hD : va_D A (lwW cI cL cC cB cZ cR ka ma oc z w g fo9)) (hS : va_S A s.heap H locs) (hl : lv_has ls 7 [(0, .ref b), (1, .ref ka.k9), (2, .ref ma.m9), (3, .ref oc), (4, .int (nI i))]) (hcl : cells + 1 ≤ room_1.cells) (hsl : slots + 6 ≤ room_1.slots) (kk : lwK p l e s m below meth c b A D cI cL cC cB cZ cR ka ma oc i (cells + 1) (slots + 6) Q 904) : W p l e room_1 s m #[Value.ref b] below meth c H locs cells slots Q (F0 m 718 ls []) := by
  obtain ⟨⟨hx, hb, hml, hown, hts⟩, hN, hX, hA0, hA, hK, htr, hra, hXs, hbl, hbA, hL9⟩ := hC
  have hb : c.code = bL_law := hb
  have hP : va_P D vwCl ((kB cL cC cB cR ka z ++ rgs (kR ka g.C g.S g.B)) ++ ([(oc, .inl (cL, 1, .inr (.inl fo9)))] : va_W) ++ (mB cI cC cZ ma w)) H := hP
  have hD : va_D A ((kB cL cC cB cR ka z ++ rgs (kR ka g.C g.S g.B)) ++ ([(oc, .inl (cL, 1, .inr (.inl fo9)))] : va_W) ++ (mB cI cC cZ ma w)) := hD
  refine lv_aload_n (pc := 718) hx hb dL_law_718 rfl (lv_at hl 1 rfl) ?_
  refine lv_aload_n (pc := 719) hx hb dL_law_719 rfl (lv_at hl 0 rfl) ?_
  refine lv_iload (pc := 720) hx hb dL_law_720 (lv_at hl 4 rfl) ?_
  refine lv_iconst (v := nI 1) (pc := 722) hx hb dL_law_722 kI_1 ?_
  refine lv_iadd (pc := 723) hx hb dL_law_723 ?_
  refine x_i (y := nI (i + 1)) (nI_add _ _) ?_
  refine x_sld (k := i + 1) (pc := 724) hx hb hXs hbl hbA hS (by omega) (by omega) dL_law_724 ?_
  refine x_SWi (pc := 725) (As := [.ref ka.k9, .int (xs (i + 1))]) (rest := []) (wr := (([(oc, .inl (cL, 1, .inr (.inl fo9)))] : va_W) ++ (mB cI cC cZ ma w))) (N0 := N0) (hh := [(0, 5, 8, 13), (0, 5, 11, 36), (0, 5, 14, 19)]) ⟨hx, hb, hml, hown, hts⟩ (U_parse l D cI cL cC cB cZ cR H.size N0 ka z g (xs (i + 1)) hra hk hG (x_N0 hD hA0 [0, 1, 2, 3, 4, 5, 6, 7, 8, 9, 10, 11, 12, 13, 14, 15, 16, 17, 18, 19, 20, 21, 22, 23, 24, 25, 26, 27, 28, 29] rfl) htr) ⟨rfl, rfl, Nat.le_of_ble_eq_true rfl, Nat.le_of_ble_eq_true rfl⟩ (pay_in hts (x_good kw_588)) List.mem_cons_self (hts _ kw_588) (hts _ kw_0) dc_L_parse (hts _ kw_586) (hts _ kw_587) rfl hl.1 rfl (Nat.le_of_ble_eq_true rfl) dL_law_725 ⟨hcl, hsl⟩ hN hK hP hD hS hA [0, 1, 2, 3, 4, 5, 6, 7, 8, 9, 10, 11, 12, 13, 14, 15, 16, 17, 18, 19, 20, 21, 22, 23, 24, 25, 26, 27, 28, 29] [30, 31, 32, 33, 34, 35, 36, 37, 38, 39, 40, 41, 42, 43] rfl rfl (by decide) (by decide) (by decide) hX rfl hA0 (fun r725 u725 H locs q725 hP hD hS => ?_)
  obtain ⟨z1, rfl⟩ : ∃ z, z = u725 := ⟨_, rfl⟩
  have hP : va_P D vwCl (([(oc, .inl (cL, 1, .inr (.inl fo9)))] : va_W) ++ (mB cI cC cZ ma w) ++ (kB cL cC cB cR ka z1 ++ rgs (kR ka ((sParse g (xs (i + 1))).2).C ((sParse g (xs (i + 1))).2).S ((sParse g (xs (i + 1))).2).B))) H := hP
  have hD : va_D A (([(oc, .inl (cL, 1, .inr (.inl fo9)))] : va_W) ++ (mB cI cC cZ ma w) ++ (kB cL cC cB cR ka z1 ++ rgs (kR ka ((sParse g (xs (i + 1))).2).C ((sParse g (xs (i + 1))).2).S ((sParse g (xs (i + 1))).2).B))) := hD
  obtain ⟨rfl, hk1⟩ := q725
  refine lv_istore (pc := 728) (lv' := [(5, .int (nI ((sParse g (xs (i + 1))).1))), (0, .ref b), (1, .ref ka.k9), (2, .ref ma.m9), (3, .ref oc), (4, .int (nI i))]) hx hb dL_law_728 hl (by decide) rfl (fun ls hl => ?_)
  refine lv_aload_n (pc := 730) hx hb dL_law_730 rfl (lv_at hl 3 rfl) ?_
  refine lv_aload_n (pc := 731) hx hb dL_law_731 rfl (lv_at hl 1 rfl) ?_
  refine lv_iload (pc := 732) hx hb dL_law_732 (lv_at hl 5 rfl) ?_
  refine lv_iconst (v := nI 1) (pc := 734) hx hb dL_law_734 kI_1 ?_
  refine lv_iadd (pc := 735) hx hb dL_law_735 ?_
  refine x_i (y := nI (i + 1)) (nI_add _ _) ?_
  refine x_sld (k := i + 1) (pc := 736) hx hb hXs hbl hbA hS (by omega) (by omega) dL_law_736 ?_
  refine x_Vv (pc := 737) (As := [.int (xs (i + 1))]) (rest := []) (b := ma.m9) (wr := (([(oc, .inl (cL, 1, .inr (.inl fo9)))] : va_W) ++ (kB cL cC cB cR ka z1 ++ rgs (kR ka ((sParse g (xs (i + 1))).2).C ((sParse g (xs (i + 1))).2).S ((sParse g (xs (i + 1))).2).B)))) ⟨hx, hb, hml, hown, hts⟩ (M_parse l D cI cL cC cB cZ cR H.size ma w g (xs (i + 1)) hU hG) ⟨callB_of 1 hts (x_good kw_890) rfl rfl rfl (hts _ kw_9) (hts _ kw_887) dc_X8_parse ⟨Nat.le_of_ble_eq_true rfl, Nat.le_of_ble_eq_true rfl⟩, hts _ kw_888, hts _ kw_889⟩ (q0 := 1) rfl rfl rfl rfl hl.1 rfl (Nat.le_of_ble_eq_true rfl) dL_law_737 ⟨hcl, hsl⟩ hN hK hP hD hS hA [1, 2, 3, 4, 5, 6, 7, 8, 9, 10, 11, 12, 13] [0, 14, 15, 16, 17, 18, 19, 20, 21, 22, 23, 24, 25, 26, 27, 28, 29, 30, 31, 32, 33, 34, 35, 36, 37, 38, 39, 40, 41, 42, 43] rfl rfl (by decide) (by decide) (by decide) (fun u737 H locs q737 hP hD hS => ?_)
  obtain ⟨w1, rfl⟩ : ∃ z, z = u737 := ⟨_, rfl⟩
  have hP : va_P D vwCl (([(oc, .inl (cL, 1, .inr (.inl fo9)))] : va_W) ++ (kB cL cC cB cR ka z1 ++ rgs (kR ka ((sParse g (xs (i + 1))).2).C ((sParse g (xs (i + 1))).2).S ((sParse g (xs (i + 1))).2).B)) ++ (mB cI cC cZ ma w1)) H := hP
  have hD : va_D A (([(oc, .inl (cL, 1, .inr (.inl fo9)))] : va_W) ++ (kB cL cC cB cR ka z1 ++ rgs (kR ka ((sParse g (xs (i + 1))).2).C ((sParse g (xs (i + 1))).2).S ((sParse g (xs (i + 1))).2).B)) ++ (mB cI cC cZ ma w1)) := hD
  obtain ⟨ht1, hU1⟩ := q737
  refine lv_aload_n (pc := 740) hx hb dL_law_740 rfl (lv_at hl 3 rfl) ?_
  refine x_Vi (pc := 741) (As := []) (rest := []) (b := ma.m9) (wr := (([(oc, .inl (cL, 1, .inr (.inl fo9)))] : va_W) ++ (kB cL cC cB cR ka z1 ++ rgs (kR ka ((sParse g (xs (i + 1))).2).C ((sParse g (xs (i + 1))).2).S ((sParse g (xs (i + 1))).2).B)))) ⟨hx, hb, hml, hown, hts⟩ (M_thrown l D cI cL cC cB cZ cR H.size ma w1 ((sParse g (xs (i + 1))).2) ((sParse g (xs (i + 1))).1) hU1 (sParse_ok hG) ht1) ⟨callB_of 0 hts (x_good kw_766) rfl rfl rfl (hts _ kw_9) (hts _ kw_763) dc_X8_thrown ⟨Nat.le_of_ble_eq_true rfl, Nat.le_of_ble_eq_true rfl⟩, hts _ kw_764, hts _ kw_765⟩ (q0 := 31) rfl rfl rfl rfl hl.1 rfl (Nat.le_of_ble_eq_true rfl) dL_law_741 ⟨hcl, hsl⟩ hN hK hP hD hS hA [31, 32, 33, 34, 35, 36, 37, 38, 39, 40, 41, 42, 43] [0, 1, 2, 3, 4, 5, 6, 7, 8, 9, 10, 11, 12, 13, 14, 15, 16, 17, 18, 19, 20, 21, 22, 23, 24, 25, 26, 27, 28, 29, 30] rfl rfl (by decide) (by decide) (by decide) (fun r741 u741 H locs q741 hP hD hS => ?_)
  obtain ⟨w2, rfl⟩ : ∃ z, z = u741 := ⟨_, rfl⟩
  have hP : va_P D vwCl (([(oc, .inl (cL, 1, .inr (.inl fo9)))] : va_W) ++ (kB cL cC cB cR ka z1 ++ rgs (kR ka ((sParse g (xs (i + 1))).2).C ((sParse g (xs (i + 1))).2).S ((sParse g (xs (i + 1))).2).B)) ++ (mB cI cC cZ ma w2)) H := hP
  have hD : va_D A (([(oc, .inl (cL, 1, .inr (.inl fo9)))] : va_W) ++ (kB cL cC cB cR ka z1 ++ rgs (kR ka ((sParse g (xs (i + 1))).2).C ((sParse g (xs (i + 1))).2).S ((sParse g (xs (i + 1))).2).B)) ++ (mB cI cC cZ ma w2)) := hD
  obtain ⟨rfl, hU2⟩ := q741
  refine lv_iload (pc := 744) hx hb dL_law_744 (lv_at hl 0 rfl) ?_
  refine lv_icmp_eq (tgt := 751) (pc := 746) hx hb dL_law_746 (by decide) (fun h746 => ?_) (fun h746 => absurd h746 (fun q9 => q9 rfl))
  refine lv_goto (tgt := 904) (pc := 751) hx hb dL_law_751 (by decide) ?_
  have hP := x_Psub (w := ((kB cL cC cB cR ka z1 ++ rgs (kR ka ((sParse g (xs (i + 1))).2).C ((sParse g (xs (i + 1))).2).S ((sParse g (xs (i + 1))).2).B)) ++ ([(oc, .inl (cL, 1, .inr (.inl fo9)))] : va_W) ++ (mB cI cC cZ ma w2))) (is := [1, 2, 3, 4, 5, 6, 7, 8, 9, 10, 11, 12, 13, 14, 15, 16, 17, 18, 19, 20, 21, 22, 23, 24, 25, 26, 27, 28, 29, 30, 0, 31, 32, 33, 34, 35, 36, 37, 38, 39, 40, 41, 42, 43]) hP rfl
  have hD := hD.sub (ws' := ((kB cL cC cB cR ka z1 ++ rgs (kR ka ((sParse g (xs (i + 1))).2).C ((sParse g (xs (i + 1))).2).S ((sParse g (xs (i + 1))).2).B)) ++ ([(oc, .inl (cL, 1, .inr (.inl fo9)))] : va_W) ++ (mB cI cC cZ ma w2))) [1, 2, 3, 4, 5, 6, 7, 8, 9, 10, 11, 12, 13, 14, 15, 16, 17, 18, 19, 20, 21, 22, 23, 24, 25, 26, 27, 28, 29, 30, 0, 31, 32, 33, 34, 35, 36, 37, 38, 39, 40, 41, 42, 43] (by decide) rfl
  have hl := lv_sub (l' := [(0, .ref b), (1, .ref ka.k9), (2, .ref ma.m9), (3, .ref oc), (4, .int (nI i))]) hl [1, 2, 3, 4, 5] rfl
  exact kk z1 w2 ((sParse g (xs (i + 1))).2) fo9 H locs ls hk1 hU2 (sParse_ok hG) hP hD hS hl
set_option maxHeartbeats 4000000 in
set_option maxRecDepth 100000 in
theorem lw_case13 {p : Program} {l : Launch} {e : Env} {s : State} {m : MethodId} {below : List Frame} {meth : Method} {c : Code} {b L : Nat} {xs : Nat → Int32} {A : Nat → Prop} {D : va_G} {cI cL cC cB cZ cR : ClassId} {N0 : Nat} {ka : kA} {ma : mA} {oc cells slots : Nat} {Q : State → Prop} (hC : lwC p l s m c b L xs A D cI cL cC cB cZ cR N0 ka) {i : Nat} (hi : i + 7 ≤ L) {z : kS} {w : mS} {g : gS} {fo9 : Nat → Int64} {H : Heap} {locs : List Loc} {ls : Array Slot} (hk : kU z g) (hU : mU w g) (hG : gOk g) (hP : va_P D vwCl (lwW cI cL cC cB cZ cR ka ma oc z w g fo9) H) (hD : va_D A (lwW cI cL cC cB cZ cR ka ma oc z w g fo9)) (hS : va_S A s.heap H locs) (hl : lv_has ls 7 [(0, .ref b), (1, .ref ka.k9), (2, .ref ma.m9), (3, .ref oc), (4, .int (nI i))]) (hcl : cells + 1 ≤ room_1.cells) (hsl : slots + 6 ≤ room_1.slots) (kk : lwK p l e s m below meth c b A D cI cL cC cB cZ cR ka ma oc i (cells + 1) (slots + 6) Q 904) : W p l e room_1 s m #[Value.ref b] below meth c H locs cells slots Q (F0 m 754 ls []) := by
  obtain ⟨⟨hx, hb, hml, hown, hts⟩, hN, hX, hA0, hA, hK, htr, hra, hXs, hbl, hbA, hL9⟩ := hC
  have hb : c.code = bL_law := hb
  have hP : va_P D vwCl ((kB cL cC cB cR ka z ++ rgs (kR ka g.C g.S g.B)) ++ ([(oc, .inl (cL, 1, .inr (.inl fo9)))] : va_W) ++ (mB cI cC cZ ma w)) H := hP
  have hD : va_D A ((kB cL cC cB cR ka z ++ rgs (kR ka g.C g.S g.B)) ++ ([(oc, .inl (cL, 1, .inr (.inl fo9)))] : va_W) ++ (mB cI cC cZ ma w)) := hD
  refine lv_aload_n (pc := 754) hx hb dL_law_754 rfl (lv_at hl 1 rfl) ?_
  refine lv_aload_n (pc := 755) hx hb dL_law_755 rfl (lv_at hl 0 rfl) ?_
  refine lv_iload (pc := 756) hx hb dL_law_756 (lv_at hl 4 rfl) ?_
  refine lv_iconst (v := nI 1) (pc := 758) hx hb dL_law_758 kI_1 ?_
  refine lv_iadd (pc := 759) hx hb dL_law_759 ?_
  refine x_i (y := nI (i + 1)) (nI_add _ _) ?_
  refine x_sld (k := i + 1) (pc := 760) hx hb hXs hbl hbA hS (by omega) (by omega) dL_law_760 ?_
  refine lv_aload_n (pc := 761) hx hb dL_law_761 rfl (lv_at hl 3 rfl) ?_
  refine x_SWi (pc := 762) (As := [.ref ka.k9, .int (xs (i + 1)), .ref oc]) (rest := []) (wr := (mB cI cC cZ ma w)) (N0 := N0) (hh := [(0, 9, 12, 13)]) ⟨hx, hb, hml, hown, hts⟩ (U_show l D cI cL cC cB cZ cR H.size N0 ka z g oc (xs (i + 1)) fo9 hra hk hG (x_N0 hD hA0 [0, 1, 2, 3, 4, 5, 6, 7, 8, 9, 10, 11, 12, 13, 14, 15, 16, 17, 18, 19, 20, 21, 22, 23, 24, 25, 26, 27, 28, 29, 30] rfl) htr) ⟨rfl, rfl, Nat.le_of_ble_eq_true rfl, Nat.le_of_ble_eq_true rfl⟩ (pay_in hts (x_good kw_619)) List.mem_cons_self (hts _ kw_619) (hts _ kw_0) dc_L_show (hts _ kw_617) (hts _ kw_618) rfl hl.1 rfl (Nat.le_of_ble_eq_true rfl) dL_law_762 ⟨hcl, hsl⟩ hN hK hP hD hS hA [0, 1, 2, 3, 4, 5, 6, 7, 8, 9, 10, 11, 12, 13, 14, 15, 16, 17, 18, 19, 20, 21, 22, 23, 24, 25, 26, 27, 28, 29, 30] [31, 32, 33, 34, 35, 36, 37, 38, 39, 40, 41, 42, 43] rfl rfl (by decide) (by decide) (by decide) hX rfl hA0 (fun r762 u762 H locs q762 hP hD hS => ?_)
  obtain ⟨z1, o1⟩ := u762
  have hP : va_P D vwCl ((mB cI cC cZ ma w) ++ (kB cL cC cB cR ka z1 ++ rgs (kR ka ((sShow g (xs (i + 1))).2).C ((sShow g (xs (i + 1))).2).S ((sShow g (xs (i + 1))).2).B)) ++ ([(oc, .inl (cL, 1, .inr (.inl o1)))] : va_W)) H := hP
  have hD : va_D A ((mB cI cC cZ ma w) ++ (kB cL cC cB cR ka z1 ++ rgs (kR ka ((sShow g (xs (i + 1))).2).C ((sShow g (xs (i + 1))).2).S ((sShow g (xs (i + 1))).2).B)) ++ ([(oc, .inl (cL, 1, .inr (.inl o1)))] : va_W)) := hD
  obtain ⟨rfl, hk1, ho1⟩ := q762
  refine lv_istore (pc := 765) (lv' := [(5, .int (nI ((sShow g (xs (i + 1))).1))), (0, .ref b), (1, .ref ka.k9), (2, .ref ma.m9), (3, .ref oc), (4, .int (nI i))]) hx hb dL_law_765 hl (by decide) rfl (fun ls hl => ?_)
  refine lv_aload_n (pc := 767) hx hb dL_law_767 rfl (lv_at hl 3 rfl) ?_
  refine lv_aload_n (pc := 768) hx hb dL_law_768 rfl (lv_at hl 1 rfl) ?_
  refine lv_iload (pc := 769) hx hb dL_law_769 (lv_at hl 5 rfl) ?_
  refine lv_iconst (v := nI 1) (pc := 771) hx hb dL_law_771 kI_1 ?_
  refine lv_iadd (pc := 772) hx hb dL_law_772 ?_
  refine x_i (y := nI (i + 1)) (nI_add _ _) ?_
  refine x_sld (k := i + 1) (pc := 773) hx hb hXs hbl hbA hS (by omega) (by omega) dL_law_773 ?_
  refine x_Vi (pc := 774) (As := [.int (xs (i + 1))]) (rest := []) (b := ma.m9) (wr := ((kB cL cC cB cR ka z1 ++ rgs (kR ka ((sShow g (xs (i + 1))).2).C ((sShow g (xs (i + 1))).2).S ((sShow g (xs (i + 1))).2).B)) ++ ([(oc, .inl (cL, 1, .inr (.inl o1)))] : va_W))) ⟨hx, hb, hml, hown, hts⟩ (M_show l D cI cL cC cB cZ cR H.size ma w g (xs (i + 1)) hU hG) ⟨callB_of 1 hts (x_good kw_897) rfl rfl rfl (hts _ kw_9) (hts _ kw_894) dc_X8_show ⟨Nat.le_of_ble_eq_true rfl, Nat.le_of_ble_eq_true rfl⟩, hts _ kw_895, hts _ kw_896⟩ (q0 := 0) rfl rfl rfl rfl hl.1 rfl (Nat.le_of_ble_eq_true rfl) dL_law_774 ⟨hcl, hsl⟩ hN hK hP hD hS hA [0, 1, 2, 3, 4, 5, 6, 7, 8, 9, 10, 11, 12] [13, 14, 15, 16, 17, 18, 19, 20, 21, 22, 23, 24, 25, 26, 27, 28, 29, 30, 31, 32, 33, 34, 35, 36, 37, 38, 39, 40, 41, 42, 43] rfl rfl (by decide) (by decide) (by decide) (fun y9 u774 H locs q774 hP hD hS => ?_)
  obtain ⟨w1, rfl⟩ : ∃ z, z = u774 := ⟨_, rfl⟩
  have hP : va_P D vwCl ((kB cL cC cB cR ka z1 ++ rgs (kR ka ((sShow g (xs (i + 1))).2).C ((sShow g (xs (i + 1))).2).S ((sShow g (xs (i + 1))).2).B)) ++ ([(oc, .inl (cL, 1, .inr (.inl o1)))] : va_W) ++ (mB cI cC cZ ma w1)) H := hP
  have hD : va_D A ((kB cL cC cB cR ka z1 ++ rgs (kR ka ((sShow g (xs (i + 1))).2).C ((sShow g (xs (i + 1))).2).S ((sShow g (xs (i + 1))).2).B)) ++ ([(oc, .inl (cL, 1, .inr (.inl o1)))] : va_W) ++ (mB cI cC cZ ma w1)) := hD
  obtain ⟨ht1, hU1, hy1⟩ := q774
  refine lv_istore (pc := 777) (lv' := [(6, .int y9), (5, .int (nI ((sShow g (xs (i + 1))).1))), (0, .ref b), (1, .ref ka.k9), (2, .ref ma.m9), (3, .ref oc), (4, .int (nI i))]) hx hb dL_law_777 hl (by decide) rfl (fun ls hl => ?_)
  refine lv_aload_n (pc := 779) hx hb dL_law_779 rfl (lv_at hl 4 rfl) ?_
  refine x_Vi (pc := 780) (As := []) (rest := []) (b := ma.m9) (wr := ((kB cL cC cB cR ka z1 ++ rgs (kR ka ((sShow g (xs (i + 1))).2).C ((sShow g (xs (i + 1))).2).S ((sShow g (xs (i + 1))).2).B)) ++ ([(oc, .inl (cL, 1, .inr (.inl o1)))] : va_W))) ⟨hx, hb, hml, hown, hts⟩ (M_thrown l D cI cL cC cB cZ cR H.size ma w1 ((sShow g (xs (i + 1))).2) ((sShow g (xs (i + 1))).1) hU1 (sShow_ok hG) ht1) ⟨callB_of 0 hts (x_good kw_766) rfl rfl rfl (hts _ kw_9) (hts _ kw_763) dc_X8_thrown ⟨Nat.le_of_ble_eq_true rfl, Nat.le_of_ble_eq_true rfl⟩, hts _ kw_764, hts _ kw_765⟩ (q0 := 31) rfl rfl rfl rfl hl.1 rfl (Nat.le_of_ble_eq_true rfl) dL_law_780 ⟨hcl, hsl⟩ hN hK hP hD hS hA [31, 32, 33, 34, 35, 36, 37, 38, 39, 40, 41, 42, 43] [0, 1, 2, 3, 4, 5, 6, 7, 8, 9, 10, 11, 12, 13, 14, 15, 16, 17, 18, 19, 20, 21, 22, 23, 24, 25, 26, 27, 28, 29, 30] rfl rfl (by decide) (by decide) (by decide) (fun r780 u780 H locs q780 hP hD hS => ?_)
  obtain ⟨w2, rfl⟩ : ∃ z, z = u780 := ⟨_, rfl⟩
  have hP : va_P D vwCl ((kB cL cC cB cR ka z1 ++ rgs (kR ka ((sShow g (xs (i + 1))).2).C ((sShow g (xs (i + 1))).2).S ((sShow g (xs (i + 1))).2).B)) ++ ([(oc, .inl (cL, 1, .inr (.inl o1)))] : va_W) ++ (mB cI cC cZ ma w2)) H := hP
  have hD : va_D A ((kB cL cC cB cR ka z1 ++ rgs (kR ka ((sShow g (xs (i + 1))).2).C ((sShow g (xs (i + 1))).2).S ((sShow g (xs (i + 1))).2).B)) ++ ([(oc, .inl (cL, 1, .inr (.inl o1)))] : va_W) ++ (mB cI cC cZ ma w2)) := hD
  obtain ⟨rfl, hU2⟩ := q780
  refine lv_iload (pc := 783) hx hb dL_law_783 (lv_at hl 1 rfl) ?_
  refine lv_icmp_eq (tgt := 790) (pc := 785) hx hb dL_law_785 (by decide) (fun h785 => ?_) (fun h785 => absurd h785 (fun q9 => q9 rfl))
  refine lv_iload (pc := 790) hx hb dL_law_790 (lv_at hl 1 rfl) ?_
  refine x_if_ne (tgt := 807) (pc := 792) hx hb (Nat.lt_of_le_of_lt (sShow_c _ _) (by decide)) dL_law_792 (by decide) (fun hz9 => ?_) (fun hz9 => ?_)
  · refine lv_goto (tgt := 904) (pc := 807) hx hb dL_law_807 (by decide) ?_
    have hl := lv_sub (l' := [(0, .ref b), (1, .ref ka.k9), (2, .ref ma.m9), (3, .ref oc), (4, .int (nI i))]) hl [2, 3, 4, 5, 6] rfl
    exact kk z1 w2 ((sShow g (xs (i + 1))).2) o1 H locs ls hk1 hU2 (sShow_ok hG) hP hD hS hl
  · refine lv_aload_n (pc := 795) hx hb dL_law_795 rfl (lv_at hl 5 rfl) ?_
    refine lv_iconst (v := nI 0) (pc := 796) hx hb dL_law_796 kI_0 ?_
    refine x_lald (v := o1 0) (pc := 797) hx hb hK hP 30 1 rfl rfl (by omega) (by decide) rfl dL_law_797 ?_
    refine lv_iload (pc := 798) hx hb dL_law_798 (lv_at hl 0 rfl) ?_
    refine lv_i2l (v := y9.toInt64) (pc := 800) hx hb dL_law_800 rfl ?_
    refine W.lcmp (pc := 801) hx hb dL_law_801 ?_
    refine x_i (y := nI 0) (x_lc ((ho1 hz9).trans (by rw [hy1 hz9]; exact (nI_l (Nat.lt_of_le_of_lt (sShow_ok hG).2.2.2.2.1 (by decide))).symm))) ?_
    refine x_if_eq (tgt := 807) (pc := 802) hx hb (by omega) dL_law_802 (by decide) (fun h802 => ?_) (fun h802 => absurd h802 (fun q9 => q9 rfl))
    refine lv_goto (tgt := 904) (pc := 807) hx hb dL_law_807 (by decide) ?_
    have hl := lv_sub (l' := [(0, .ref b), (1, .ref ka.k9), (2, .ref ma.m9), (3, .ref oc), (4, .int (nI i))]) hl [2, 3, 4, 5, 6] rfl
    exact kk z1 w2 ((sShow g (xs (i + 1))).2) o1 H locs ls hk1 hU2 (sShow_ok hG) hP hD hS hl
set_option maxHeartbeats 4000000 in
set_option maxRecDepth 100000 in
theorem lw_case14 {p : Program} {l : Launch} {e : Env} {s : State} {m : MethodId} {below : List Frame} {meth : Method} {c : Code} {b L : Nat} {xs : Nat → Int32} {A : Nat → Prop} {D : va_G} {cI cL cC cB cZ cR : ClassId} {N0 : Nat} {ka : kA} {ma : mA} {oc cells slots : Nat} {Q : State → Prop} (hC : lwC p l s m c b L xs A D cI cL cC cB cZ cR N0 ka) {i : Nat} (hi : i + 7 ≤ L) {z : kS} {w : mS} {g : gS} {fo9 : Nat → Int64} {H : Heap} {locs : List Loc} {ls : Array Slot} (hk : kU z g) (hU : mU w g) (hG : gOk g) (hP : va_P D vwCl (lwW cI cL cC cB cZ cR ka ma oc z w g fo9) H) (hD : va_D A (lwW cI cL cC cB cZ cR ka ma oc z w g fo9)) (hS : va_S A s.heap H locs) (hl : lv_has ls 7 [(0, .ref b), (1, .ref ka.k9), (2, .ref ma.m9), (3, .ref oc), (4, .int (nI i))]) (hcl : cells + 1 ≤ room_1.cells) (hsl : slots + 6 ≤ room_1.slots) (kk : lwK p l e s m below meth c b A D cI cL cC cB cZ cR ka ma oc i (cells + 1) (slots + 6) Q 904) : W p l e room_1 s m #[Value.ref b] below meth c H locs cells slots Q (F0 m 810 ls []) := by
  obtain ⟨⟨hx, hb, hml, hown, hts⟩, hN, hX, hA0, hA, hK, htr, hra, hXs, hbl, hbA, hL9⟩ := hC
  have hb : c.code = bL_law := hb
  have hP : va_P D vwCl ((kB cL cC cB cR ka z ++ rgs (kR ka g.C g.S g.B)) ++ ([(oc, .inl (cL, 1, .inr (.inl fo9)))] : va_W) ++ (mB cI cC cZ ma w)) H := hP
  have hD : va_D A ((kB cL cC cB cR ka z ++ rgs (kR ka g.C g.S g.B)) ++ ([(oc, .inl (cL, 1, .inr (.inl fo9)))] : va_W) ++ (mB cI cC cZ ma w)) := hD
  refine lv_aload_n (pc := 810) hx hb dL_law_810 rfl (lv_at hl 1 rfl) ?_
  refine lv_aload_n (pc := 811) hx hb dL_law_811 rfl (lv_at hl 0 rfl) ?_
  refine lv_iload (pc := 812) hx hb dL_law_812 (lv_at hl 4 rfl) ?_
  refine lv_iconst (v := nI 1) (pc := 814) hx hb dL_law_814 kI_1 ?_
  refine lv_iadd (pc := 815) hx hb dL_law_815 ?_
  refine x_i (y := nI (i + 1)) (nI_add _ _) ?_
  refine x_sld (k := i + 1) (pc := 816) hx hb hXs hbl hbA hS (by omega) (by omega) dL_law_816 ?_
  refine lv_aload_n (pc := 817) hx hb dL_law_817 rfl (lv_at hl 3 rfl) ?_
  refine x_SWi (pc := 818) (As := [.ref ka.k9, .int (xs (i + 1)), .ref oc]) (rest := []) (wr := (mB cI cC cZ ma w)) (N0 := N0) (hh := [(0, 9, 12, 13), (0, 9, 15, 36)]) ⟨hx, hb, hml, hown, hts⟩ (U_format l D cI cL cC cB cZ cR H.size N0 ka z g oc (xs (i + 1)) fo9 hra hk hG (x_N0 hD hA0 [0, 1, 2, 3, 4, 5, 6, 7, 8, 9, 10, 11, 12, 13, 14, 15, 16, 17, 18, 19, 20, 21, 22, 23, 24, 25, 26, 27, 28, 29, 30] rfl) htr) ⟨rfl, rfl, Nat.le_of_ble_eq_true rfl, Nat.le_of_ble_eq_true rfl⟩ (pay_in hts (x_good kw_648)) List.mem_cons_self (hts _ kw_648) (hts _ kw_0) dc_L_format (hts _ kw_646) (hts _ kw_647) rfl hl.1 rfl (Nat.le_of_ble_eq_true rfl) dL_law_818 ⟨hcl, hsl⟩ hN hK hP hD hS hA [0, 1, 2, 3, 4, 5, 6, 7, 8, 9, 10, 11, 12, 13, 14, 15, 16, 17, 18, 19, 20, 21, 22, 23, 24, 25, 26, 27, 28, 29, 30] [31, 32, 33, 34, 35, 36, 37, 38, 39, 40, 41, 42, 43] rfl rfl (by decide) (by decide) (by decide) hX rfl hA0 (fun r818 u818 H locs q818 hP hD hS => ?_)
  obtain ⟨z1, o1⟩ := u818
  have hP : va_P D vwCl ((mB cI cC cZ ma w) ++ (kB cL cC cB cR ka z1 ++ rgs (kR ka ((sFmt g (xs (i + 1))).2).C ((sFmt g (xs (i + 1))).2).S ((sFmt g (xs (i + 1))).2).B)) ++ ([(oc, .inl (cL, 1, .inr (.inl o1)))] : va_W)) H := hP
  have hD : va_D A ((mB cI cC cZ ma w) ++ (kB cL cC cB cR ka z1 ++ rgs (kR ka ((sFmt g (xs (i + 1))).2).C ((sFmt g (xs (i + 1))).2).S ((sFmt g (xs (i + 1))).2).B)) ++ ([(oc, .inl (cL, 1, .inr (.inl o1)))] : va_W)) := hD
  obtain ⟨rfl, hk1, ho1⟩ := q818
  refine lv_istore (pc := 821) (lv' := [(5, .int (nI ((sFmt g (xs (i + 1))).1))), (0, .ref b), (1, .ref ka.k9), (2, .ref ma.m9), (3, .ref oc), (4, .int (nI i))]) hx hb dL_law_821 hl (by decide) rfl (fun ls hl => ?_)
  refine lv_aload_n (pc := 823) hx hb dL_law_823 rfl (lv_at hl 3 rfl) ?_
  refine lv_aload_n (pc := 824) hx hb dL_law_824 rfl (lv_at hl 1 rfl) ?_
  refine lv_iload (pc := 825) hx hb dL_law_825 (lv_at hl 5 rfl) ?_
  refine lv_iconst (v := nI 1) (pc := 827) hx hb dL_law_827 kI_1 ?_
  refine lv_iadd (pc := 828) hx hb dL_law_828 ?_
  refine x_i (y := nI (i + 1)) (nI_add _ _) ?_
  refine x_sld (k := i + 1) (pc := 829) hx hb hXs hbl hbA hS (by omega) (by omega) dL_law_829 ?_
  refine x_Vi (pc := 830) (As := [.int (xs (i + 1))]) (rest := []) (b := ma.m9) (wr := ((kB cL cC cB cR ka z1 ++ rgs (kR ka ((sFmt g (xs (i + 1))).2).C ((sFmt g (xs (i + 1))).2).S ((sFmt g (xs (i + 1))).2).B)) ++ ([(oc, .inl (cL, 1, .inr (.inl o1)))] : va_W))) ⟨hx, hb, hml, hown, hts⟩ (M_format l D cI cL cC cB cZ cR H.size ma w g (xs (i + 1)) hU hG) ⟨callB_of 1 hts (x_good kw_905) rfl rfl rfl (hts _ kw_9) (hts _ kw_902) dc_X8_format ⟨Nat.le_of_ble_eq_true rfl, Nat.le_of_ble_eq_true rfl⟩, hts _ kw_903, hts _ kw_904⟩ (q0 := 0) rfl rfl rfl rfl hl.1 rfl (Nat.le_of_ble_eq_true rfl) dL_law_830 ⟨hcl, hsl⟩ hN hK hP hD hS hA [0, 1, 2, 3, 4, 5, 6, 7, 8, 9, 10, 11, 12] [13, 14, 15, 16, 17, 18, 19, 20, 21, 22, 23, 24, 25, 26, 27, 28, 29, 30, 31, 32, 33, 34, 35, 36, 37, 38, 39, 40, 41, 42, 43] rfl rfl (by decide) (by decide) (by decide) (fun y9 u830 H locs q830 hP hD hS => ?_)
  obtain ⟨w1, rfl⟩ : ∃ z, z = u830 := ⟨_, rfl⟩
  have hP : va_P D vwCl ((kB cL cC cB cR ka z1 ++ rgs (kR ka ((sFmt g (xs (i + 1))).2).C ((sFmt g (xs (i + 1))).2).S ((sFmt g (xs (i + 1))).2).B)) ++ ([(oc, .inl (cL, 1, .inr (.inl o1)))] : va_W) ++ (mB cI cC cZ ma w1)) H := hP
  have hD : va_D A ((kB cL cC cB cR ka z1 ++ rgs (kR ka ((sFmt g (xs (i + 1))).2).C ((sFmt g (xs (i + 1))).2).S ((sFmt g (xs (i + 1))).2).B)) ++ ([(oc, .inl (cL, 1, .inr (.inl o1)))] : va_W) ++ (mB cI cC cZ ma w1)) := hD
  obtain ⟨ht1, hU1, hy1⟩ := q830
  refine lv_istore (pc := 833) (lv' := [(6, .int y9), (5, .int (nI ((sFmt g (xs (i + 1))).1))), (0, .ref b), (1, .ref ka.k9), (2, .ref ma.m9), (3, .ref oc), (4, .int (nI i))]) hx hb dL_law_833 hl (by decide) rfl (fun ls hl => ?_)
  refine lv_aload_n (pc := 835) hx hb dL_law_835 rfl (lv_at hl 4 rfl) ?_
  refine x_Vi (pc := 836) (As := []) (rest := []) (b := ma.m9) (wr := ((kB cL cC cB cR ka z1 ++ rgs (kR ka ((sFmt g (xs (i + 1))).2).C ((sFmt g (xs (i + 1))).2).S ((sFmt g (xs (i + 1))).2).B)) ++ ([(oc, .inl (cL, 1, .inr (.inl o1)))] : va_W))) ⟨hx, hb, hml, hown, hts⟩ (M_thrown l D cI cL cC cB cZ cR H.size ma w1 ((sFmt g (xs (i + 1))).2) ((sFmt g (xs (i + 1))).1) hU1 (sFmt_ok hG) ht1) ⟨callB_of 0 hts (x_good kw_766) rfl rfl rfl (hts _ kw_9) (hts _ kw_763) dc_X8_thrown ⟨Nat.le_of_ble_eq_true rfl, Nat.le_of_ble_eq_true rfl⟩, hts _ kw_764, hts _ kw_765⟩ (q0 := 31) rfl rfl rfl rfl hl.1 rfl (Nat.le_of_ble_eq_true rfl) dL_law_836 ⟨hcl, hsl⟩ hN hK hP hD hS hA [31, 32, 33, 34, 35, 36, 37, 38, 39, 40, 41, 42, 43] [0, 1, 2, 3, 4, 5, 6, 7, 8, 9, 10, 11, 12, 13, 14, 15, 16, 17, 18, 19, 20, 21, 22, 23, 24, 25, 26, 27, 28, 29, 30] rfl rfl (by decide) (by decide) (by decide) (fun r836 u836 H locs q836 hP hD hS => ?_)
  obtain ⟨w2, rfl⟩ : ∃ z, z = u836 := ⟨_, rfl⟩
  have hP : va_P D vwCl ((kB cL cC cB cR ka z1 ++ rgs (kR ka ((sFmt g (xs (i + 1))).2).C ((sFmt g (xs (i + 1))).2).S ((sFmt g (xs (i + 1))).2).B)) ++ ([(oc, .inl (cL, 1, .inr (.inl o1)))] : va_W) ++ (mB cI cC cZ ma w2)) H := hP
  have hD : va_D A ((kB cL cC cB cR ka z1 ++ rgs (kR ka ((sFmt g (xs (i + 1))).2).C ((sFmt g (xs (i + 1))).2).S ((sFmt g (xs (i + 1))).2).B)) ++ ([(oc, .inl (cL, 1, .inr (.inl o1)))] : va_W) ++ (mB cI cC cZ ma w2)) := hD
  obtain ⟨rfl, hU2⟩ := q836
  refine lv_iload (pc := 839) hx hb dL_law_839 (lv_at hl 1 rfl) ?_
  refine lv_icmp_eq (tgt := 846) (pc := 841) hx hb dL_law_841 (by decide) (fun h841 => ?_) (fun h841 => absurd h841 (fun q9 => q9 rfl))
  refine lv_iload (pc := 846) hx hb dL_law_846 (lv_at hl 1 rfl) ?_
  refine x_if_ne (tgt := 863) (pc := 848) hx hb (Nat.lt_of_le_of_lt (sFmt_c _ _) (by decide)) dL_law_848 (by decide) (fun hz9 => ?_) (fun hz9 => ?_)
  · refine lv_goto (tgt := 904) (pc := 863) hx hb dL_law_863 (by decide) ?_
    have hl := lv_sub (l' := [(0, .ref b), (1, .ref ka.k9), (2, .ref ma.m9), (3, .ref oc), (4, .int (nI i))]) hl [2, 3, 4, 5, 6] rfl
    exact kk z1 w2 ((sFmt g (xs (i + 1))).2) o1 H locs ls hk1 hU2 (sFmt_ok hG) hP hD hS hl
  · refine lv_aload_n (pc := 851) hx hb dL_law_851 rfl (lv_at hl 5 rfl) ?_
    refine lv_iconst (v := nI 0) (pc := 852) hx hb dL_law_852 kI_0 ?_
    refine x_lald (v := o1 0) (pc := 853) hx hb hK hP 30 1 rfl rfl (by omega) (by decide) rfl dL_law_853 ?_
    refine lv_iload (pc := 854) hx hb dL_law_854 (lv_at hl 0 rfl) ?_
    refine lv_i2l (v := y9.toInt64) (pc := 856) hx hb dL_law_856 rfl ?_
    refine W.lcmp (pc := 857) hx hb dL_law_857 ?_
    refine x_i (y := nI 0) (x_lc ((ho1 hz9).trans (by rw [hy1 hz9]; exact (nI_l (Nat.lt_of_le_of_lt (sFmt_ok hG).2.2.2.2.1 (by decide))).symm))) ?_
    refine x_if_eq (tgt := 863) (pc := 858) hx hb (by omega) dL_law_858 (by decide) (fun h858 => ?_) (fun h858 => absurd h858 (fun q9 => q9 rfl))
    refine lv_goto (tgt := 904) (pc := 863) hx hb dL_law_863 (by decide) ?_
    have hl := lv_sub (l' := [(0, .ref b), (1, .ref ka.k9), (2, .ref ma.m9), (3, .ref oc), (4, .int (nI i))]) hl [2, 3, 4, 5, 6] rfl
    exact kk z1 w2 ((sFmt g (xs (i + 1))).2) o1 H locs ls hk1 hU2 (sFmt_ok hG) hP hD hS hl
