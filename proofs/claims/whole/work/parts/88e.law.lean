set_option maxHeartbeats 4000000 in
set_option maxRecDepth 100000 in
theorem lw_case9 {p : Program} {l : Launch} {e : Env} {s : State} {m : MethodId} {below : List Frame} {meth : Method} {c : Code} {b L : Nat} {xs : Nat → Int32} {A : Nat → Prop} {D : va_G} {cI cL cC cB cZ cR : ClassId} {N0 : Nat} {ka : kA} {ma : mA} {oc cells slots : Nat} {Q : State → Prop} (hC : lwC p l s m c b L xs A D cI cL cC cB cZ cR N0 ka) {i : Nat} (hi : i + 7 ≤ L) {z : kS} {w : mS} {g : gS} {fo9 : Nat → Int64} {H : Heap} {locs : List Loc} {ls : Array Slot} (hk : kU z g) (hU : mU w g) (hG : gOk g) (hP : va_P D vwCl (lwW cI cL cC cB cZ cR ka ma oc z w g fo9) H) (hD : va_D A (lwW cI cL cC cB cZ cR ka ma oc z w g fo9)) (hS : va_S A s.heap H locs) (hl : lv_has ls 7 [(0, .ref b), (1, .ref ka.k9), (2, .ref ma.m9), (3, .ref oc), (4, .int (nI i))]) (hcl : cells + 1 ≤ room_1.cells) (hsl : slots + 6 ≤ room_1.slots) (kk : lwK p l e s m below meth c b A D cI cL cC cB cZ cR ka ma oc i (cells + 1) (slots + 6) Q 904) : W p l e room_1 s m #[Value.ref b] below meth c H locs cells slots Q (F0 m 612 ls []) := by
  obtain ⟨⟨hx, hb, hml, hown, hts⟩, hN, hX, hA0, hA, hK, htr, hra, hXs, hbl, hbA, hL9⟩ := hC
  have hb : c.code = bL_law := hb
  have hP : va_P D vwCl ((kB cL cC cB cR ka z ++ rgs (kR ka g.C g.S g.B)) ++ ([(oc, .inl (cL, 1, .inr (.inl fo9)))] : va_W) ++ (mB cI cC cZ ma w)) H := hP
  have hD : va_D A ((kB cL cC cB cR ka z ++ rgs (kR ka g.C g.S g.B)) ++ ([(oc, .inl (cL, 1, .inr (.inl fo9)))] : va_W) ++ (mB cI cC cZ ma w)) := hD
  refine lv_aload_n (pc := 612) hx hb dL_law_612 rfl (lv_at hl 1 rfl) ?_
  refine lv_aload_n (pc := 613) hx hb dL_law_613 rfl (lv_at hl 0 rfl) ?_
  refine lv_iload (pc := 614) hx hb dL_law_614 (lv_at hl 4 rfl) ?_
  refine lv_iconst (v := nI 1) (pc := 616) hx hb dL_law_616 kI_1 ?_
  refine lv_iadd (pc := 617) hx hb dL_law_617 ?_
  refine x_i (y := nI (i + 1)) (nI_add _ _) ?_
  refine x_sld (k := i + 1) (pc := 618) hx hb hXs hbl hbA hS (by omega) (by omega) dL_law_618 ?_
  refine lv_aload_n (pc := 619) hx hb dL_law_619 rfl (lv_at hl 0 rfl) ?_
  refine lv_iload (pc := 620) hx hb dL_law_620 (lv_at hl 4 rfl) ?_
  refine lv_iconst (v := nI 2) (pc := 622) hx hb dL_law_622 kI_2 ?_
  refine lv_iadd (pc := 623) hx hb dL_law_623 ?_
  refine x_i (y := nI (i + 2)) (nI_add _ _) ?_
  refine x_sld (k := i + 2) (pc := 624) hx hb hXs hbl hbA hS (by omega) (by omega) dL_law_624 ?_
  refine lv_aload_n (pc := 625) hx hb dL_law_625 rfl (lv_at hl 3 rfl) ?_
  refine x_SWi (pc := 626) (As := [.ref ka.k9, .int (xs (i + 1)), .int (xs (i + 2)), .ref oc]) (rest := []) (wr := (mB cI cC cZ ma w)) (N0 := N0) (hh := [(0, 10, 13, 13)]) ⟨hx, hb, hml, hown, hts⟩ (U_compare l D cI cL cC cB cZ cR H.size N0 ka z g oc (xs (i + 1)) (xs (i + 2)) fo9 hra hk hG (x_N0 hD hA0 [0, 1, 2, 3, 4, 5, 6, 7, 8, 9, 10, 11, 12, 13, 14, 15, 16, 17, 18, 19, 20, 21, 22, 23, 24, 25, 26, 27, 28, 29, 30] rfl) htr) ⟨rfl, rfl, Nat.le_of_ble_eq_true rfl, Nat.le_of_ble_eq_true rfl⟩ (pay_in hts (x_good kw_577)) List.mem_cons_self (hts _ kw_577) (hts _ kw_0) dc_L_compare (hts _ kw_575) (hts _ kw_576) rfl hl.1 rfl (Nat.le_of_ble_eq_true rfl) dL_law_626 ⟨hcl, hsl⟩ hN hK hP hD hS hA [0, 1, 2, 3, 4, 5, 6, 7, 8, 9, 10, 11, 12, 13, 14, 15, 16, 17, 18, 19, 20, 21, 22, 23, 24, 25, 26, 27, 28, 29, 30] [31, 32, 33, 34, 35, 36, 37, 38, 39, 40, 41, 42, 43] rfl rfl (by decide) (by decide) (by decide) hX rfl hA0 (fun r626 u626 H locs q626 hP hD hS => ?_)
  obtain ⟨z1, o1⟩ := u626
  have hP : va_P D vwCl ((mB cI cC cZ ma w) ++ (kB cL cC cB cR ka z1 ++ rgs (kR ka g.C g.S g.B)) ++ ([(oc, .inl (cL, 1, .inr (.inl o1)))] : va_W)) H := hP
  have hD : va_D A ((mB cI cC cZ ma w) ++ (kB cL cC cB cR ka z1 ++ rgs (kR ka g.C g.S g.B)) ++ ([(oc, .inl (cL, 1, .inr (.inl o1)))] : va_W)) := hD
  obtain ⟨rfl, hk1, ho1⟩ := q626
  refine lv_istore (pc := 629) (lv' := [(5, .int (nI ((sCmp g (xs (i + 1)) (xs (i + 2))).1))), (0, .ref b), (1, .ref ka.k9), (2, .ref ma.m9), (3, .ref oc), (4, .int (nI i))]) hx hb dL_law_629 hl (by decide) rfl (fun ls hl => ?_)
  refine lv_aload_n (pc := 631) hx hb dL_law_631 rfl (lv_at hl 3 rfl) ?_
  refine lv_aload_n (pc := 632) hx hb dL_law_632 rfl (lv_at hl 1 rfl) ?_
  refine lv_iload (pc := 633) hx hb dL_law_633 (lv_at hl 5 rfl) ?_
  refine lv_iconst (v := nI 1) (pc := 635) hx hb dL_law_635 kI_1 ?_
  refine lv_iadd (pc := 636) hx hb dL_law_636 ?_
  refine x_i (y := nI (i + 1)) (nI_add _ _) ?_
  refine x_sld (k := i + 1) (pc := 637) hx hb hXs hbl hbA hS (by omega) (by omega) dL_law_637 ?_
  refine lv_aload_n (pc := 638) hx hb dL_law_638 rfl (lv_at hl 1 rfl) ?_
  refine lv_iload (pc := 639) hx hb dL_law_639 (lv_at hl 5 rfl) ?_
  refine lv_iconst (v := nI 2) (pc := 641) hx hb dL_law_641 kI_2 ?_
  refine lv_iadd (pc := 642) hx hb dL_law_642 ?_
  refine x_i (y := nI (i + 2)) (nI_add _ _) ?_
  refine x_sld (k := i + 2) (pc := 643) hx hb hXs hbl hbA hS (by omega) (by omega) dL_law_643 ?_
  refine x_Vi (pc := 644) (As := [.int (xs (i + 1)), .int (xs (i + 2))]) (rest := []) (b := ma.m9) (wr := ((kB cL cC cB cR ka z1 ++ rgs (kR ka g.C g.S g.B)) ++ ([(oc, .inl (cL, 1, .inr (.inl o1)))] : va_W))) ⟨hx, hb, hml, hown, hts⟩ (M_compare l D cI cL cC cB cZ cR H.size ma w g (xs (i + 1)) (xs (i + 2)) hU hG) ⟨callB_of 2 hts (x_good kw_878) rfl rfl rfl (hts _ kw_9) (hts _ kw_875) dc_X8_compare ⟨Nat.le_of_ble_eq_true rfl, Nat.le_of_ble_eq_true rfl⟩, hts _ kw_876, hts _ kw_877⟩ (q0 := 0) rfl rfl rfl rfl hl.1 rfl (Nat.le_of_ble_eq_true rfl) dL_law_644 ⟨hcl, hsl⟩ hN hK hP hD hS hA [0, 1, 2, 3, 4, 5, 6, 7, 8, 9, 10, 11, 12] [13, 14, 15, 16, 17, 18, 19, 20, 21, 22, 23, 24, 25, 26, 27, 28, 29, 30, 31, 32, 33, 34, 35, 36, 37, 38, 39, 40, 41, 42, 43] rfl rfl (by decide) (by decide) (by decide) (fun r644 u644 H locs q644 hP hD hS => ?_)
  obtain ⟨w1, rfl⟩ : ∃ z, z = u644 := ⟨_, rfl⟩
  have hP : va_P D vwCl ((kB cL cC cB cR ka z1 ++ rgs (kR ka g.C g.S g.B)) ++ ([(oc, .inl (cL, 1, .inr (.inl o1)))] : va_W) ++ (mB cI cC cZ ma w1)) H := hP
  have hD : va_D A ((kB cL cC cB cR ka z1 ++ rgs (kR ka g.C g.S g.B)) ++ ([(oc, .inl (cL, 1, .inr (.inl o1)))] : va_W) ++ (mB cI cC cZ ma w1)) := hD
  obtain ⟨ht1, hU1, rfl⟩ := q644
  refine lv_istore (pc := 647) (lv' := [(6, .int ((sCmp g (xs (i + 1)) (xs (i + 2))).2)), (5, .int (nI ((sCmp g (xs (i + 1)) (xs (i + 2))).1))), (0, .ref b), (1, .ref ka.k9), (2, .ref ma.m9), (3, .ref oc), (4, .int (nI i))]) hx hb dL_law_647 hl (by decide) rfl (fun ls hl => ?_)
  refine lv_aload_n (pc := 649) hx hb dL_law_649 rfl (lv_at hl 4 rfl) ?_
  refine x_Vi (pc := 650) (As := []) (rest := []) (b := ma.m9) (wr := ((kB cL cC cB cR ka z1 ++ rgs (kR ka g.C g.S g.B)) ++ ([(oc, .inl (cL, 1, .inr (.inl o1)))] : va_W))) ⟨hx, hb, hml, hown, hts⟩ (M_thrown l D cI cL cC cB cZ cR H.size ma w1 g ((sCmp g (xs (i + 1)) (xs (i + 2))).1) hU1 hG ht1) ⟨callB_of 0 hts (x_good kw_766) rfl rfl rfl (hts _ kw_9) (hts _ kw_763) dc_X8_thrown ⟨Nat.le_of_ble_eq_true rfl, Nat.le_of_ble_eq_true rfl⟩, hts _ kw_764, hts _ kw_765⟩ (q0 := 31) rfl rfl rfl rfl hl.1 rfl (Nat.le_of_ble_eq_true rfl) dL_law_650 ⟨hcl, hsl⟩ hN hK hP hD hS hA [31, 32, 33, 34, 35, 36, 37, 38, 39, 40, 41, 42, 43] [0, 1, 2, 3, 4, 5, 6, 7, 8, 9, 10, 11, 12, 13, 14, 15, 16, 17, 18, 19, 20, 21, 22, 23, 24, 25, 26, 27, 28, 29, 30] rfl rfl (by decide) (by decide) (by decide) (fun r650 u650 H locs q650 hP hD hS => ?_)
  obtain ⟨w2, rfl⟩ : ∃ z, z = u650 := ⟨_, rfl⟩
  have hP : va_P D vwCl ((kB cL cC cB cR ka z1 ++ rgs (kR ka g.C g.S g.B)) ++ ([(oc, .inl (cL, 1, .inr (.inl o1)))] : va_W) ++ (mB cI cC cZ ma w2)) H := hP
  have hD : va_D A ((kB cL cC cB cR ka z1 ++ rgs (kR ka g.C g.S g.B)) ++ ([(oc, .inl (cL, 1, .inr (.inl o1)))] : va_W) ++ (mB cI cC cZ ma w2)) := hD
  obtain ⟨rfl, hU2⟩ := q650
  refine lv_iload (pc := 653) hx hb dL_law_653 (lv_at hl 1 rfl) ?_
  refine lv_icmp_eq (tgt := 660) (pc := 655) hx hb dL_law_655 (by decide) (fun h655 => ?_) (fun h655 => absurd h655 (fun q9 => q9 rfl))
  refine lv_iload (pc := 660) hx hb dL_law_660 (lv_at hl 1 rfl) ?_
  refine x_if_ne (tgt := 677) (pc := 662) hx hb (Nat.lt_of_le_of_lt (sCmp_c _ _ _) (by decide)) dL_law_662 (by decide) (fun hz9 => ?_) (fun hz9 => ?_)
  · refine lv_goto (tgt := 904) (pc := 677) hx hb dL_law_677 (by decide) ?_
    have hl := lv_sub (l' := [(0, .ref b), (1, .ref ka.k9), (2, .ref ma.m9), (3, .ref oc), (4, .int (nI i))]) hl [2, 3, 4, 5, 6] rfl
    exact kk z1 w2 g o1 H locs ls hk1 hU2 hG hP hD hS hl
  · refine lv_aload_n (pc := 665) hx hb dL_law_665 rfl (lv_at hl 5 rfl) ?_
    refine lv_iconst (v := nI 0) (pc := 666) hx hb dL_law_666 kI_0 ?_
    refine x_lald (v := o1 0) (pc := 667) hx hb hK hP 30 1 rfl rfl (by omega) (by decide) rfl dL_law_667 ?_
    refine lv_iload (pc := 668) hx hb dL_law_668 (lv_at hl 0 rfl) ?_
    refine lv_i2l (v := ((sCmp g (xs (i + 1)) (xs (i + 2))).2).toInt64) (pc := 670) hx hb dL_law_670 rfl ?_
    refine W.lcmp (pc := 671) hx hb dL_law_671 ?_
    refine x_i (y := nI 0) (x_lc (ho1 hz9)) ?_
    refine x_if_eq (tgt := 677) (pc := 672) hx hb (by omega) dL_law_672 (by decide) (fun h672 => ?_) (fun h672 => absurd h672 (fun q9 => q9 rfl))
    refine lv_goto (tgt := 904) (pc := 677) hx hb dL_law_677 (by decide) ?_
    have hl := lv_sub (l' := [(0, .ref b), (1, .ref ka.k9), (2, .ref ma.m9), (3, .ref oc), (4, .int (nI i))]) hl [2, 3, 4, 5, 6] rfl
    exact kk z1 w2 g o1 H locs ls hk1 hU2 hG hP hD hS hl
set_option maxHeartbeats 4000000 in
set_option maxRecDepth 100000 in
theorem lw_case10 {p : Program} {l : Launch} {e : Env} {s : State} {m : MethodId} {below : List Frame} {meth : Method} {c : Code} {b L : Nat} {xs : Nat → Int32} {A : Nat → Prop} {D : va_G} {cI cL cC cB cZ cR : ClassId} {N0 : Nat} {ka : kA} {ma : mA} {oc cells slots : Nat} {Q : State → Prop} (hC : lwC p l s m c b L xs A D cI cL cC cB cZ cR N0 ka) {i : Nat} (hi : i + 7 ≤ L) {z : kS} {w : mS} {g : gS} {fo9 : Nat → Int64} {H : Heap} {locs : List Loc} {ls : Array Slot} (hk : kU z g) (hU : mU w g) (hG : gOk g) (hP : va_P D vwCl (lwW cI cL cC cB cZ cR ka ma oc z w g fo9) H) (hD : va_D A (lwW cI cL cC cB cZ cR ka ma oc z w g fo9)) (hS : va_S A s.heap H locs) (hl : lv_has ls 7 [(0, .ref b), (1, .ref ka.k9), (2, .ref ma.m9), (3, .ref oc), (4, .int (nI i))]) (hcl : cells + 1 ≤ room_1.cells) (hsl : slots + 6 ≤ room_1.slots) (kk : lwK p l e s m below meth c b A D cI cL cC cB cZ cR ka ma oc i (cells + 1) (slots + 6) Q 904) : W p l e room_1 s m #[Value.ref b] below meth c H locs cells slots Q (F0 m 680 ls []) := by
  obtain ⟨⟨hx, hb, hml, hown, hts⟩, hN, hX, hA0, hA, hK, htr, hra, hXs, hbl, hbA, hL9⟩ := hC
  have hb : c.code = bL_law := hb
  have hP : va_P D vwCl ((kB cL cC cB cR ka z ++ rgs (kR ka g.C g.S g.B)) ++ ([(oc, .inl (cL, 1, .inr (.inl fo9)))] : va_W) ++ (mB cI cC cZ ma w)) H := hP
  have hD : va_D A ((kB cL cC cB cR ka z ++ rgs (kR ka g.C g.S g.B)) ++ ([(oc, .inl (cL, 1, .inr (.inl fo9)))] : va_W) ++ (mB cI cC cZ ma w)) := hD
  refine lv_aload_n (pc := 680) hx hb dL_law_680 rfl (lv_at hl 1 rfl) ?_
  refine lv_aload_n (pc := 681) hx hb dL_law_681 rfl (lv_at hl 0 rfl) ?_
  refine lv_iload (pc := 682) hx hb dL_law_682 (lv_at hl 4 rfl) ?_
  refine lv_iconst (v := nI 1) (pc := 684) hx hb dL_law_684 kI_1 ?_
  refine lv_iadd (pc := 685) hx hb dL_law_685 ?_
  refine x_i (y := nI (i + 1)) (nI_add _ _) ?_
  refine x_sld (k := i + 1) (pc := 686) hx hb hXs hbl hbA hS (by omega) (by omega) dL_law_686 ?_
  refine lv_i2c (v := nI (iN (xs (i + 1)) % 65536)) (pc := 687) hx hb dL_law_687 (x_i2r _) ?_
  refine x_Vi (pc := 688) (As := [.int (nI (iN (xs (i + 1)) % 65536))]) (rest := []) (b := ka.k9) (wr := (([(oc, .inl (cL, 1, .inr (.inl fo9)))] : va_W) ++ (mB cI cC cZ ma w))) ⟨hx, hb, hml, hown, hts⟩ (U_type l D cI cL cC cB cZ cR H.size ka z g (iN (xs (i + 1)) % 65536) hra hk hG (Nat.mod_lt _ (by decide))) ⟨callB_of 1 hts (x_good kw_419) rfl rfl rfl (hts _ kw_1) (hts _ kw_416) dc_X7_type ⟨Nat.le_of_ble_eq_true rfl, Nat.le_of_ble_eq_true rfl⟩, hts _ kw_417, hts _ kw_418⟩ (q0 := 0) rfl rfl rfl rfl hl.1 rfl (Nat.le_of_ble_eq_true rfl) dL_law_688 ⟨Nat.le_of_succ_le hcl, Nat.le_trans (Nat.le_add_right _ 6) hsl⟩ hN hK hP hD hS hA [0, 1, 2, 3, 4, 5, 6, 7, 8, 9, 10, 11, 12, 13, 14, 15, 16, 17, 18, 19, 20, 21, 22, 23, 24, 25, 26, 27, 28, 29] [30, 31, 32, 33, 34, 35, 36, 37, 38, 39, 40, 41, 42, 43] rfl rfl (by decide) (by decide) (by decide) (fun r688 u688 H locs q688 hP hD hS => ?_)
  obtain ⟨z1, rfl⟩ : ∃ z, z = u688 := ⟨_, rfl⟩
  have hP : va_P D vwCl (([(oc, .inl (cL, 1, .inr (.inl fo9)))] : va_W) ++ (mB cI cC cZ ma w) ++ (kB cL cC cB cR ka z1 ++ rgs (kR ka ((sType g (iN (xs (i + 1)) % 65536)).2).C ((sType g (iN (xs (i + 1)) % 65536)).2).S ((sType g (iN (xs (i + 1)) % 65536)).2).B))) H := hP
  have hD : va_D A (([(oc, .inl (cL, 1, .inr (.inl fo9)))] : va_W) ++ (mB cI cC cZ ma w) ++ (kB cL cC cB cR ka z1 ++ rgs (kR ka ((sType g (iN (xs (i + 1)) % 65536)).2).C ((sType g (iN (xs (i + 1)) % 65536)).2).S ((sType g (iN (xs (i + 1)) % 65536)).2).B))) := hD
  obtain ⟨rfl, hk1⟩ := q688
  refine lv_aload_n (pc := 691) hx hb dL_law_691 rfl (lv_at hl 2 rfl) ?_
  refine lv_aload_n (pc := 692) hx hb dL_law_692 rfl (lv_at hl 0 rfl) ?_
  refine lv_iload (pc := 693) hx hb dL_law_693 (lv_at hl 4 rfl) ?_
  refine lv_iconst (v := nI 1) (pc := 695) hx hb dL_law_695 kI_1 ?_
  refine lv_iadd (pc := 696) hx hb dL_law_696 ?_
  refine x_i (y := nI (i + 1)) (nI_add _ _) ?_
  refine x_sld (k := i + 1) (pc := 697) hx hb hXs hbl hbA hS (by omega) (by omega) dL_law_697 ?_
  refine lv_i2c (v := nI (iN (xs (i + 1)) % 65536)) (pc := 698) hx hb dL_law_698 (x_i2r _) ?_
  refine x_Vi (pc := 699) (As := [.int (nI (iN (xs (i + 1)) % 65536))]) (rest := [.int (nI ((sType g (iN (xs (i + 1)) % 65536)).1))]) (b := ma.m9) (wr := (([(oc, .inl (cL, 1, .inr (.inl fo9)))] : va_W) ++ (kB cL cC cB cR ka z1 ++ rgs (kR ka ((sType g (iN (xs (i + 1)) % 65536)).2).C ((sType g (iN (xs (i + 1)) % 65536)).2).S ((sType g (iN (xs (i + 1)) % 65536)).2).B)))) ⟨hx, hb, hml, hown, hts⟩ (M_type l D cI cL cC cB cZ cR H.size ma w g (iN (xs (i + 1)) % 65536) hU hG (Nat.mod_lt _ (by decide))) ⟨callB_of 1 hts (x_good kw_882) rfl rfl rfl (hts _ kw_9) (hts _ kw_879) dc_X8_type ⟨Nat.le_of_ble_eq_true rfl, Nat.le_of_ble_eq_true rfl⟩, hts _ kw_880, hts _ kw_881⟩ (q0 := 1) rfl rfl rfl rfl hl.1 rfl (Nat.le_of_ble_eq_true rfl) dL_law_699 ⟨Nat.le_of_succ_le hcl, Nat.le_trans (Nat.le_add_right _ 6) hsl⟩ hN hK hP hD hS hA [1, 2, 3, 4, 5, 6, 7, 8, 9, 10, 11, 12, 13] [0, 14, 15, 16, 17, 18, 19, 20, 21, 22, 23, 24, 25, 26, 27, 28, 29, 30, 31, 32, 33, 34, 35, 36, 37, 38, 39, 40, 41, 42, 43] rfl rfl (by decide) (by decide) (by decide) (fun r699 u699 H locs q699 hP hD hS => ?_)
  obtain ⟨w1, rfl⟩ : ∃ z, z = u699 := ⟨_, rfl⟩
  have hP : va_P D vwCl (([(oc, .inl (cL, 1, .inr (.inl fo9)))] : va_W) ++ (kB cL cC cB cR ka z1 ++ rgs (kR ka ((sType g (iN (xs (i + 1)) % 65536)).2).C ((sType g (iN (xs (i + 1)) % 65536)).2).S ((sType g (iN (xs (i + 1)) % 65536)).2).B)) ++ (mB cI cC cZ ma w1)) H := hP
  have hD : va_D A (([(oc, .inl (cL, 1, .inr (.inl fo9)))] : va_W) ++ (kB cL cC cB cR ka z1 ++ rgs (kR ka ((sType g (iN (xs (i + 1)) % 65536)).2).C ((sType g (iN (xs (i + 1)) % 65536)).2).S ((sType g (iN (xs (i + 1)) % 65536)).2).B)) ++ (mB cI cC cZ ma w1)) := hD
  obtain ⟨rfl, hU1⟩ := q699
  refine lv_icmp_eq (tgt := 904) (pc := 702) hx hb dL_law_702 (by decide) (fun h702 => ?_) (fun h702 => absurd h702 (fun q9 => q9 rfl))
  have hP := x_Psub (w := ((kB cL cC cB cR ka z1 ++ rgs (kR ka ((sType g (iN (xs (i + 1)) % 65536)).2).C ((sType g (iN (xs (i + 1)) % 65536)).2).S ((sType g (iN (xs (i + 1)) % 65536)).2).B)) ++ ([(oc, .inl (cL, 1, .inr (.inl fo9)))] : va_W) ++ (mB cI cC cZ ma w1))) (is := [1, 2, 3, 4, 5, 6, 7, 8, 9, 10, 11, 12, 13, 14, 15, 16, 17, 18, 19, 20, 21, 22, 23, 24, 25, 26, 27, 28, 29, 30, 0, 31, 32, 33, 34, 35, 36, 37, 38, 39, 40, 41, 42, 43]) hP rfl
  have hD := hD.sub (ws' := ((kB cL cC cB cR ka z1 ++ rgs (kR ka ((sType g (iN (xs (i + 1)) % 65536)).2).C ((sType g (iN (xs (i + 1)) % 65536)).2).S ((sType g (iN (xs (i + 1)) % 65536)).2).B)) ++ ([(oc, .inl (cL, 1, .inr (.inl fo9)))] : va_W) ++ (mB cI cC cZ ma w1))) [1, 2, 3, 4, 5, 6, 7, 8, 9, 10, 11, 12, 13, 14, 15, 16, 17, 18, 19, 20, 21, 22, 23, 24, 25, 26, 27, 28, 29, 30, 0, 31, 32, 33, 34, 35, 36, 37, 38, 39, 40, 41, 42, 43] (by decide) rfl
  refine W.widen (k := cells + 1) (n := slots + 6) (Nat.le_succ _) (Nat.le_add_right _ 6) ?_
  exact kk z1 w1 ((sType g (iN (xs (i + 1)) % 65536)).2) fo9 H locs ls hk1 hU1 (sType_ok hG) hP hD hS hl
set_option maxHeartbeats 4000000 in
set_option maxRecDepth 100000 in
theorem lw_case11 {p : Program} {l : Launch} {e : Env} {s : State} {m : MethodId} {below : List Frame} {meth : Method} {c : Code} {b L : Nat} {xs : Nat → Int32} {A : Nat → Prop} {D : va_G} {cI cL cC cB cZ cR : ClassId} {N0 : Nat} {ka : kA} {ma : mA} {oc cells slots : Nat} {Q : State → Prop} (hC : lwC p l s m c b L xs A D cI cL cC cB cZ cR N0 ka) {i : Nat} (hi : i + 7 ≤ L) {z : kS} {w : mS} {g : gS} {fo9 : Nat → Int64} {H : Heap} {locs : List Loc} {ls : Array Slot} (hk : kU z g) (hU : mU w g) (hG : gOk g) (hP : va_P D vwCl (lwW cI cL cC cB cZ cR ka ma oc z w g fo9) H) (hD : va_D A (lwW cI cL cC cB cZ cR ka ma oc z w g fo9)) (hS : va_S A s.heap H locs) (hl : lv_has ls 7 [(0, .ref b), (1, .ref ka.k9), (2, .ref ma.m9), (3, .ref oc), (4, .int (nI i))]) (hcl : cells + 1 ≤ room_1.cells) (hsl : slots + 6 ≤ room_1.slots) (kk : lwK p l e s m below meth c b A D cI cL cC cB cZ cR ka ma oc i (cells + 1) (slots + 6) Q 904) : W p l e room_1 s m #[Value.ref b] below meth c H locs cells slots Q (F0 m 707 ls []) := by
  obtain ⟨⟨hx, hb, hml, hown, hts⟩, hN, hX, hA0, hA, hK, htr, hra, hXs, hbl, hbA, hL9⟩ := hC
  have hb : c.code = bL_law := hb
  have hP : va_P D vwCl ((kB cL cC cB cR ka z ++ rgs (kR ka g.C g.S g.B)) ++ ([(oc, .inl (cL, 1, .inr (.inl fo9)))] : va_W) ++ (mB cI cC cZ ma w)) H := hP
  have hD : va_D A ((kB cL cC cB cR ka z ++ rgs (kR ka g.C g.S g.B)) ++ ([(oc, .inl (cL, 1, .inr (.inl fo9)))] : va_W) ++ (mB cI cC cZ ma w)) := hD
  refine lv_aload_n (pc := 707) hx hb dL_law_707 rfl (lv_at hl 1 rfl) ?_
  refine x_Vv (pc := 708) (As := []) (rest := []) (b := ka.k9) (wr := (([(oc, .inl (cL, 1, .inr (.inl fo9)))] : va_W) ++ (mB cI cC cZ ma w))) ⟨hx, hb, hml, hown, hts⟩ (U_clear l D cI cL cC cB cZ cR H.size ka z g hra hk hG) ⟨callB_of 0 hts (x_good kw_427) rfl rfl rfl (hts _ kw_1) (hts _ kw_424) dc_X7_clear ⟨Nat.le_of_ble_eq_true rfl, Nat.le_of_ble_eq_true rfl⟩, hts _ kw_425, hts _ kw_426⟩ (q0 := 0) rfl rfl rfl rfl hl.1 rfl (Nat.le_of_ble_eq_true rfl) dL_law_708 ⟨Nat.le_of_succ_le hcl, Nat.le_trans (Nat.le_add_right _ 6) hsl⟩ hN hK hP hD hS hA [0, 1, 2, 3, 4, 5, 6, 7, 8, 9, 10, 11, 12, 13, 14, 15, 16, 17, 18, 19, 20, 21, 22, 23, 24, 25, 26, 27, 28, 29] [30, 31, 32, 33, 34, 35, 36, 37, 38, 39, 40, 41, 42, 43] rfl rfl (by decide) (by decide) (by decide) (fun u708 H locs hk1 hP hD hS => ?_)
  obtain ⟨z1, rfl⟩ : ∃ z, z = u708 := ⟨_, rfl⟩
  have hP : va_P D vwCl (([(oc, .inl (cL, 1, .inr (.inl fo9)))] : va_W) ++ (mB cI cC cZ ma w) ++ (kB cL cC cB cR ka z1 ++ rgs (kR ka (g.txt []).C (g.txt []).S (g.txt []).B))) H := hP
  have hD : va_D A (([(oc, .inl (cL, 1, .inr (.inl fo9)))] : va_W) ++ (mB cI cC cZ ma w) ++ (kB cL cC cB cR ka z1 ++ rgs (kR ka (g.txt []).C (g.txt []).S (g.txt []).B))) := hD
  refine lv_aload_n (pc := 711) hx hb dL_law_711 rfl (lv_at hl 2 rfl) ?_
  refine x_Vv (pc := 712) (As := []) (rest := []) (b := ma.m9) (wr := (([(oc, .inl (cL, 1, .inr (.inl fo9)))] : va_W) ++ (kB cL cC cB cR ka z1 ++ rgs (kR ka (g.txt []).C (g.txt []).S (g.txt []).B)))) ⟨hx, hb, hml, hown, hts⟩ (M_clear l D cI cL cC cB cZ cR H.size ma w g hU hG) ⟨callB_of 0 hts (x_good kw_886) rfl rfl rfl (hts _ kw_9) (hts _ kw_883) dc_X8_clear ⟨Nat.le_of_ble_eq_true rfl, Nat.le_of_ble_eq_true rfl⟩, hts _ kw_884, hts _ kw_885⟩ (q0 := 1) rfl rfl rfl rfl hl.1 rfl (Nat.le_of_ble_eq_true rfl) dL_law_712 ⟨Nat.le_of_succ_le hcl, Nat.le_trans (Nat.le_add_right _ 6) hsl⟩ hN hK hP hD hS hA [1, 2, 3, 4, 5, 6, 7, 8, 9, 10, 11, 12, 13] [0, 14, 15, 16, 17, 18, 19, 20, 21, 22, 23, 24, 25, 26, 27, 28, 29, 30, 31, 32, 33, 34, 35, 36, 37, 38, 39, 40, 41, 42, 43] rfl rfl (by decide) (by decide) (by decide) (fun u712 H locs hU1 hP hD hS => ?_)
  obtain ⟨w1, rfl⟩ : ∃ z, z = u712 := ⟨_, rfl⟩
  have hP : va_P D vwCl (([(oc, .inl (cL, 1, .inr (.inl fo9)))] : va_W) ++ (kB cL cC cB cR ka z1 ++ rgs (kR ka (g.txt []).C (g.txt []).S (g.txt []).B)) ++ (mB cI cC cZ ma w1)) H := hP
  have hD : va_D A (([(oc, .inl (cL, 1, .inr (.inl fo9)))] : va_W) ++ (kB cL cC cB cR ka z1 ++ rgs (kR ka (g.txt []).C (g.txt []).S (g.txt []).B)) ++ (mB cI cC cZ ma w1)) := hD
  refine lv_goto (tgt := 904) (pc := 715) hx hb dL_law_715 (by decide) ?_
  have hP := x_Psub (w := ((kB cL cC cB cR ka z1 ++ rgs (kR ka (g.txt []).C (g.txt []).S (g.txt []).B)) ++ ([(oc, .inl (cL, 1, .inr (.inl fo9)))] : va_W) ++ (mB cI cC cZ ma w1))) (is := [1, 2, 3, 4, 5, 6, 7, 8, 9, 10, 11, 12, 13, 14, 15, 16, 17, 18, 19, 20, 21, 22, 23, 24, 25, 26, 27, 28, 29, 30, 0, 31, 32, 33, 34, 35, 36, 37, 38, 39, 40, 41, 42, 43]) hP rfl
  have hD := hD.sub (ws' := ((kB cL cC cB cR ka z1 ++ rgs (kR ka (g.txt []).C (g.txt []).S (g.txt []).B)) ++ ([(oc, .inl (cL, 1, .inr (.inl fo9)))] : va_W) ++ (mB cI cC cZ ma w1))) [1, 2, 3, 4, 5, 6, 7, 8, 9, 10, 11, 12, 13, 14, 15, 16, 17, 18, 19, 20, 21, 22, 23, 24, 25, 26, 27, 28, 29, 30, 0, 31, 32, 33, 34, 35, 36, 37, 38, 39, 40, 41, 42, 43] (by decide) rfl
  refine W.widen (k := cells + 1) (n := slots + 6) (Nat.le_succ _) (Nat.le_add_right _ 6) ?_
  exact kk z1 w1 (g.txt []) fo9 H locs ls hk1 hU1 (hG.txt (Nat.zero_le _) (fun x h => by cases h)) hP hD hS hl
