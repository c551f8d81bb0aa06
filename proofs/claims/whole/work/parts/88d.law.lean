set_option maxHeartbeats 4000000 in
set_option maxRecDepth 100000 in
theorem lw_case7 {p : Program} {l : Launch} {e : Env} {s : State} {m : MethodId} {below : List Frame} {meth : Method} {c : Code} {b L : Nat} {xs : Nat → Int32} {A : Nat → Prop} {D : va_G} {cI cL cC cB cZ cR : ClassId} {N0 : Nat} {ka : kA} {ma : mA} {oc cells slots : Nat} {Q : State → Prop} (hC : lwC p l s m c b L xs A D cI cL cC cB cZ cR N0 ka) {i : Nat} (hi : i + 7 ≤ L) {z : kS} {w : mS} {g : gS} {fo9 : Nat → Int64} {H : Heap} {locs : List Loc} {ls : Array Slot} (hk : kU z g) (hU : mU w g) (hG : gOk g) (hP : va_P D vwCl (lwW cI cL cC cB cZ cR ka ma oc z w g fo9) H) (hD : va_D A (lwW cI cL cC cB cZ cR ka ma oc z w g fo9)) (hS : va_S A s.heap H locs) (hl : lv_has ls 7 [(0, .ref b), (1, .ref ka.k9), (2, .ref ma.m9), (3, .ref oc), (4, .int (nI i))]) (hcl : cells + 1 ≤ room_1.cells) (hsl : slots + 6 ≤ room_1.slots) (kk : lwK p l e s m below meth c b A D cI cL cC cB cZ cR ka ma oc i (cells + 1) (slots + 6) Q 904) : W p l e room_1 s m #[Value.ref b] below meth c H locs cells slots Q (F0 m 492 ls []) := by
  obtain ⟨⟨hx, hb, hml, hown, hts⟩, hN, hX, hA0, hA, hK, htr, hra, hXs, hbl, hbA, hL9⟩ := hC
  have hb : c.code = bL_law := hb
  have hP : va_P D vwCl ((kB cL cC cB cR ka z ++ rgs (kR ka g.C g.S g.B)) ++ ([(oc, .inl (cL, 1, .inr (.inl fo9)))] : va_W) ++ (mB cI cC cZ ma w)) H := hP
  have hD : va_D A ((kB cL cC cB cR ka z ++ rgs (kR ka g.C g.S g.B)) ++ ([(oc, .inl (cL, 1, .inr (.inl fo9)))] : va_W) ++ (mB cI cC cZ ma w)) := hD
  refine lv_aload_n (pc := 492) hx hb dL_law_492 rfl (lv_at hl 1 rfl) ?_
  refine lv_aload_n (pc := 493) hx hb dL_law_493 rfl (lv_at hl 0 rfl) ?_
  refine lv_iload (pc := 494) hx hb dL_law_494 (lv_at hl 4 rfl) ?_
  refine lv_iconst (v := nI 1) (pc := 496) hx hb dL_law_496 kI_1 ?_
  refine lv_iadd (pc := 497) hx hb dL_law_497 ?_
  refine x_i (y := nI (i + 1)) (nI_add _ _) ?_
  refine x_sld (k := i + 1) (pc := 498) hx hb hXs hbl hbA hS (by omega) (by omega) dL_law_498 ?_
  refine lv_aload_n (pc := 499) hx hb dL_law_499 rfl (lv_at hl 0 rfl) ?_
  refine lv_iload (pc := 500) hx hb dL_law_500 (lv_at hl 4 rfl) ?_
  refine lv_iconst (v := nI 2) (pc := 502) hx hb dL_law_502 kI_2 ?_
  refine lv_iadd (pc := 503) hx hb dL_law_503 ?_
  refine x_i (y := nI (i + 2)) (nI_add _ _) ?_
  refine x_sld (k := i + 2) (pc := 504) hx hb hXs hbl hbA hS (by omega) (by omega) dL_law_504 ?_
  refine lv_aload_n (pc := 505) hx hb dL_law_505 rfl (lv_at hl 0 rfl) ?_
  refine lv_iload (pc := 506) hx hb dL_law_506 (lv_at hl 4 rfl) ?_
  refine lv_iconst (v := nI 3) (pc := 508) hx hb dL_law_508 kI_3 ?_
  refine lv_iadd (pc := 509) hx hb dL_law_509 ?_
  refine x_i (y := nI (i + 3)) (nI_add _ _) ?_
  refine x_sld (k := i + 3) (pc := 510) hx hb hXs hbl hbA hS (by omega) (by omega) dL_law_510 ?_
  refine lv_aload_n (pc := 511) hx hb dL_law_511 rfl (lv_at hl 0 rfl) ?_
  refine lv_iload (pc := 512) hx hb dL_law_512 (lv_at hl 4 rfl) ?_
  refine lv_iconst (v := nI 4) (pc := 514) hx hb dL_law_514 kI_4 ?_
  refine lv_iadd (pc := 515) hx hb dL_law_515 ?_
  refine x_i (y := nI (i + 4)) (nI_add _ _) ?_
  refine x_sld (k := i + 4) (pc := 516) hx hb hXs hbl hbA hS (by omega) (by omega) dL_law_516 ?_
  refine x_SWi (pc := 517) (As := [.ref ka.k9, .int (xs (i + 1)), .int (xs (i + 2)), .int (xs (i + 3)), .int (xs (i + 4))]) (rest := []) (wr := (([(oc, .inl (cL, 1, .inr (.inl fo9)))] : va_W) ++ (mB cI cC cZ ma w))) (N0 := N0) (hh := [(0, 9, 12, 13)]) ⟨hx, hb, hml, hown, hts⟩ (U_round l D cI cL cC cB cZ cR H.size N0 ka z g (xs (i + 1)) (xs (i + 2)) (xs (i + 3)) (xs (i + 4)) hra hk hG (x_N0 hD hA0 [0, 1, 2, 3, 4, 5, 6, 7, 8, 9, 10, 11, 12, 13, 14, 15, 16, 17, 18, 19, 20, 21, 22, 23, 24, 25, 26, 27, 28, 29] rfl) htr) ⟨rfl, rfl, Nat.le_of_ble_eq_true rfl, Nat.le_of_ble_eq_true rfl⟩ (pay_in hts (x_good kw_550)) List.mem_cons_self (hts _ kw_550) (hts _ kw_0) dc_L_round (hts _ kw_548) (hts _ kw_549) rfl hl.1 rfl (Nat.le_of_ble_eq_true rfl) dL_law_517 ⟨hcl, hsl⟩ hN hK hP hD hS hA [0, 1, 2, 3, 4, 5, 6, 7, 8, 9, 10, 11, 12, 13, 14, 15, 16, 17, 18, 19, 20, 21, 22, 23, 24, 25, 26, 27, 28, 29] [30, 31, 32, 33, 34, 35, 36, 37, 38, 39, 40, 41, 42, 43] rfl rfl (by decide) (by decide) (by decide) hX rfl hA0 (fun r517 u517 H locs q517 hP hD hS => ?_)
  obtain ⟨z1, rfl⟩ : ∃ z, z = u517 := ⟨_, rfl⟩
  have hP : va_P D vwCl (([(oc, .inl (cL, 1, .inr (.inl fo9)))] : va_W) ++ (mB cI cC cZ ma w) ++ (kB cL cC cB cR ka z1 ++ rgs (kR ka ((sRound g (xs (i + 1)) (xs (i + 2)) (xs (i + 3)) (xs (i + 4))).2).C ((sRound g (xs (i + 1)) (xs (i + 2)) (xs (i + 3)) (xs (i + 4))).2).S ((sRound g (xs (i + 1)) (xs (i + 2)) (xs (i + 3)) (xs (i + 4))).2).B))) H := hP
  have hD : va_D A (([(oc, .inl (cL, 1, .inr (.inl fo9)))] : va_W) ++ (mB cI cC cZ ma w) ++ (kB cL cC cB cR ka z1 ++ rgs (kR ka ((sRound g (xs (i + 1)) (xs (i + 2)) (xs (i + 3)) (xs (i + 4))).2).C ((sRound g (xs (i + 1)) (xs (i + 2)) (xs (i + 3)) (xs (i + 4))).2).S ((sRound g (xs (i + 1)) (xs (i + 2)) (xs (i + 3)) (xs (i + 4))).2).B))) := hD
  obtain ⟨rfl, hk1⟩ := q517
  refine lv_istore (pc := 520) (lv' := [(5, .int (nI ((sRound g (xs (i + 1)) (xs (i + 2)) (xs (i + 3)) (xs (i + 4))).1))), (0, .ref b), (1, .ref ka.k9), (2, .ref ma.m9), (3, .ref oc), (4, .int (nI i))]) hx hb dL_law_520 hl (by decide) rfl (fun ls hl => ?_)
  refine lv_aload_n (pc := 522) hx hb dL_law_522 rfl (lv_at hl 3 rfl) ?_
  refine lv_aload_n (pc := 523) hx hb dL_law_523 rfl (lv_at hl 1 rfl) ?_
  refine lv_iload (pc := 524) hx hb dL_law_524 (lv_at hl 5 rfl) ?_
  refine lv_iconst (v := nI 1) (pc := 526) hx hb dL_law_526 kI_1 ?_
  refine lv_iadd (pc := 527) hx hb dL_law_527 ?_
  refine x_i (y := nI (i + 1)) (nI_add _ _) ?_
  refine x_sld (k := i + 1) (pc := 528) hx hb hXs hbl hbA hS (by omega) (by omega) dL_law_528 ?_
  refine lv_aload_n (pc := 529) hx hb dL_law_529 rfl (lv_at hl 1 rfl) ?_
  refine lv_iload (pc := 530) hx hb dL_law_530 (lv_at hl 5 rfl) ?_
  refine lv_iconst (v := nI 2) (pc := 532) hx hb dL_law_532 kI_2 ?_
  refine lv_iadd (pc := 533) hx hb dL_law_533 ?_
  refine x_i (y := nI (i + 2)) (nI_add _ _) ?_
  refine x_sld (k := i + 2) (pc := 534) hx hb hXs hbl hbA hS (by omega) (by omega) dL_law_534 ?_
  refine lv_aload_n (pc := 535) hx hb dL_law_535 rfl (lv_at hl 1 rfl) ?_
  refine lv_iload (pc := 536) hx hb dL_law_536 (lv_at hl 5 rfl) ?_
  refine lv_iconst (v := nI 3) (pc := 538) hx hb dL_law_538 kI_3 ?_
  refine lv_iadd (pc := 539) hx hb dL_law_539 ?_
  refine x_i (y := nI (i + 3)) (nI_add _ _) ?_
  refine x_sld (k := i + 3) (pc := 540) hx hb hXs hbl hbA hS (by omega) (by omega) dL_law_540 ?_
  refine lv_aload_n (pc := 541) hx hb dL_law_541 rfl (lv_at hl 1 rfl) ?_
  refine lv_iload (pc := 542) hx hb dL_law_542 (lv_at hl 5 rfl) ?_
  refine lv_iconst (v := nI 4) (pc := 544) hx hb dL_law_544 kI_4 ?_
  refine lv_iadd (pc := 545) hx hb dL_law_545 ?_
  refine x_i (y := nI (i + 4)) (nI_add _ _) ?_
  refine x_sld (k := i + 4) (pc := 546) hx hb hXs hbl hbA hS (by omega) (by omega) dL_law_546 ?_
  refine x_Vv (pc := 547) (As := [.int (xs (i + 1)), .int (xs (i + 2)), .int (xs (i + 3)), .int (xs (i + 4))]) (rest := []) (b := ma.m9) (wr := (([(oc, .inl (cL, 1, .inr (.inl fo9)))] : va_W) ++ (kB cL cC cB cR ka z1 ++ rgs (kR ka ((sRound g (xs (i + 1)) (xs (i + 2)) (xs (i + 3)) (xs (i + 4))).2).C ((sRound g (xs (i + 1)) (xs (i + 2)) (xs (i + 3)) (xs (i + 4))).2).S ((sRound g (xs (i + 1)) (xs (i + 2)) (xs (i + 3)) (xs (i + 4))).2).B)))) ⟨hx, hb, hml, hown, hts⟩ (M_round l D cI cL cC cB cZ cR H.size ma w g (xs (i + 1)) (xs (i + 2)) (xs (i + 3)) (xs (i + 4)) hU hG) ⟨callB_of 4 hts (x_good kw_870) rfl rfl rfl (hts _ kw_9) (hts _ kw_867) dc_X8_round ⟨Nat.le_of_ble_eq_true rfl, Nat.le_of_ble_eq_true rfl⟩, hts _ kw_868, hts _ kw_869⟩ (q0 := 1) rfl rfl rfl rfl hl.1 rfl (Nat.le_of_ble_eq_true rfl) dL_law_547 ⟨hcl, hsl⟩ hN hK hP hD hS hA [1, 2, 3, 4, 5, 6, 7, 8, 9, 10, 11, 12, 13] [0, 14, 15, 16, 17, 18, 19, 20, 21, 22, 23, 24, 25, 26, 27, 28, 29, 30, 31, 32, 33, 34, 35, 36, 37, 38, 39, 40, 41, 42, 43] rfl rfl (by decide) (by decide) (by decide) (fun u547 H locs q547 hP hD hS => ?_)
  obtain ⟨w1, rfl⟩ : ∃ z, z = u547 := ⟨_, rfl⟩
  have hP : va_P D vwCl (([(oc, .inl (cL, 1, .inr (.inl fo9)))] : va_W) ++ (kB cL cC cB cR ka z1 ++ rgs (kR ka ((sRound g (xs (i + 1)) (xs (i + 2)) (xs (i + 3)) (xs (i + 4))).2).C ((sRound g (xs (i + 1)) (xs (i + 2)) (xs (i + 3)) (xs (i + 4))).2).S ((sRound g (xs (i + 1)) (xs (i + 2)) (xs (i + 3)) (xs (i + 4))).2).B)) ++ (mB cI cC cZ ma w1)) H := hP
  have hD : va_D A (([(oc, .inl (cL, 1, .inr (.inl fo9)))] : va_W) ++ (kB cL cC cB cR ka z1 ++ rgs (kR ka ((sRound g (xs (i + 1)) (xs (i + 2)) (xs (i + 3)) (xs (i + 4))).2).C ((sRound g (xs (i + 1)) (xs (i + 2)) (xs (i + 3)) (xs (i + 4))).2).S ((sRound g (xs (i + 1)) (xs (i + 2)) (xs (i + 3)) (xs (i + 4))).2).B)) ++ (mB cI cC cZ ma w1)) := hD
  obtain ⟨ht1, hU1⟩ := q547
  refine lv_aload_n (pc := 550) hx hb dL_law_550 rfl (lv_at hl 3 rfl) ?_
  refine x_Vi (pc := 551) (As := []) (rest := []) (b := ma.m9) (wr := (([(oc, .inl (cL, 1, .inr (.inl fo9)))] : va_W) ++ (kB cL cC cB cR ka z1 ++ rgs (kR ka ((sRound g (xs (i + 1)) (xs (i + 2)) (xs (i + 3)) (xs (i + 4))).2).C ((sRound g (xs (i + 1)) (xs (i + 2)) (xs (i + 3)) (xs (i + 4))).2).S ((sRound g (xs (i + 1)) (xs (i + 2)) (xs (i + 3)) (xs (i + 4))).2).B)))) ⟨hx, hb, hml, hown, hts⟩ (M_thrown l D cI cL cC cB cZ cR H.size ma w1 ((sRound g (xs (i + 1)) (xs (i + 2)) (xs (i + 3)) (xs (i + 4))).2) ((sRound g (xs (i + 1)) (xs (i + 2)) (xs (i + 3)) (xs (i + 4))).1) hU1 (sRound_ok hG) ht1) ⟨callB_of 0 hts (x_good kw_766) rfl rfl rfl (hts _ kw_9) (hts _ kw_763) dc_X8_thrown ⟨Nat.le_of_ble_eq_true rfl, Nat.le_of_ble_eq_true rfl⟩, hts _ kw_764, hts _ kw_765⟩ (q0 := 31) rfl rfl rfl rfl hl.1 rfl (Nat.le_of_ble_eq_true rfl) dL_law_551 ⟨hcl, hsl⟩ hN hK hP hD hS hA [31, 32, 33, 34, 35, 36, 37, 38, 39, 40, 41, 42, 43] [0, 1, 2, 3, 4, 5, 6, 7, 8, 9, 10, 11, 12, 13, 14, 15, 16, 17, 18, 19, 20, 21, 22, 23, 24, 25, 26, 27, 28, 29, 30] rfl rfl (by decide) (by decide) (by decide) (fun r551 u551 H locs q551 hP hD hS => ?_)
  obtain ⟨w2, rfl⟩ : ∃ z, z = u551 := ⟨_, rfl⟩
  have hP : va_P D vwCl (([(oc, .inl (cL, 1, .inr (.inl fo9)))] : va_W) ++ (kB cL cC cB cR ka z1 ++ rgs (kR ka ((sRound g (xs (i + 1)) (xs (i + 2)) (xs (i + 3)) (xs (i + 4))).2).C ((sRound g (xs (i + 1)) (xs (i + 2)) (xs (i + 3)) (xs (i + 4))).2).S ((sRound g (xs (i + 1)) (xs (i + 2)) (xs (i + 3)) (xs (i + 4))).2).B)) ++ (mB cI cC cZ ma w2)) H := hP
  have hD : va_D A (([(oc, .inl (cL, 1, .inr (.inl fo9)))] : va_W) ++ (kB cL cC cB cR ka z1 ++ rgs (kR ka ((sRound g (xs (i + 1)) (xs (i + 2)) (xs (i + 3)) (xs (i + 4))).2).C ((sRound g (xs (i + 1)) (xs (i + 2)) (xs (i + 3)) (xs (i + 4))).2).S ((sRound g (xs (i + 1)) (xs (i + 2)) (xs (i + 3)) (xs (i + 4))).2).B)) ++ (mB cI cC cZ ma w2)) := hD
  obtain ⟨rfl, hU2⟩ := q551
  refine lv_iload (pc := 554) hx hb dL_law_554 (lv_at hl 0 rfl) ?_
  refine lv_icmp_eq (tgt := 561) (pc := 556) hx hb dL_law_556 (by decide) (fun h556 => ?_) (fun h556 => absurd h556 (fun q9 => q9 rfl))
  refine lv_goto (tgt := 904) (pc := 561) hx hb dL_law_561 (by decide) ?_
  have hP := x_Psub (w := ((kB cL cC cB cR ka z1 ++ rgs (kR ka ((sRound g (xs (i + 1)) (xs (i + 2)) (xs (i + 3)) (xs (i + 4))).2).C ((sRound g (xs (i + 1)) (xs (i + 2)) (xs (i + 3)) (xs (i + 4))).2).S ((sRound g (xs (i + 1)) (xs (i + 2)) (xs (i + 3)) (xs (i + 4))).2).B)) ++ ([(oc, .inl (cL, 1, .inr (.inl fo9)))] : va_W) ++ (mB cI cC cZ ma w2))) (is := [1, 2, 3, 4, 5, 6, 7, 8, 9, 10, 11, 12, 13, 14, 15, 16, 17, 18, 19, 20, 21, 22, 23, 24, 25, 26, 27, 28, 29, 30, 0, 31, 32, 33, 34, 35, 36, 37, 38, 39, 40, 41, 42, 43]) hP rfl
  have hD := hD.sub (ws' := ((kB cL cC cB cR ka z1 ++ rgs (kR ka ((sRound g (xs (i + 1)) (xs (i + 2)) (xs (i + 3)) (xs (i + 4))).2).C ((sRound g (xs (i + 1)) (xs (i + 2)) (xs (i + 3)) (xs (i + 4))).2).S ((sRound g (xs (i + 1)) (xs (i + 2)) (xs (i + 3)) (xs (i + 4))).2).B)) ++ ([(oc, .inl (cL, 1, .inr (.inl fo9)))] : va_W) ++ (mB cI cC cZ ma w2))) [1, 2, 3, 4, 5, 6, 7, 8, 9, 10, 11, 12, 13, 14, 15, 16, 17, 18, 19, 20, 21, 22, 23, 24, 25, 26, 27, 28, 29, 30, 0, 31, 32, 33, 34, 35, 36, 37, 38, 39, 40, 41, 42, 43] (by decide) rfl
  have hl := lv_sub (l' := [(0, .ref b), (1, .ref ka.k9), (2, .ref ma.m9), (3, .ref oc), (4, .int (nI i))]) hl [1, 2, 3, 4, 5] rfl
  exact kk z1 w2 ((sRound g (xs (i + 1)) (xs (i + 2)) (xs (i + 3)) (xs (i + 4))).2) fo9 H locs ls hk1 hU2 (sRound_ok hG) hP hD hS hl
set_option maxHeartbeats 4000000 in
set_option maxRecDepth 100000 in
theorem lw_case8 {p : Program} {l : Launch} {e : Env} {s : State} {m : MethodId} {below : List Frame} {meth : Method} {c : Code} {b L : Nat} {xs : Nat → Int32} {A : Nat → Prop} {D : va_G} {cI cL cC cB cZ cR : ClassId} {N0 : Nat} {ka : kA} {ma : mA} {oc cells slots : Nat} {Q : State → Prop} (hC : lwC p l s m c b L xs A D cI cL cC cB cZ cR N0 ka) {i : Nat} (hi : i + 7 ≤ L) {z : kS} {w : mS} {g : gS} {fo9 : Nat → Int64} {H : Heap} {locs : List Loc} {ls : Array Slot} (hk : kU z g) (hU : mU w g) (hG : gOk g) (hP : va_P D vwCl (lwW cI cL cC cB cZ cR ka ma oc z w g fo9) H) (hD : va_D A (lwW cI cL cC cB cZ cR ka ma oc z w g fo9)) (hS : va_S A s.heap H locs) (hl : lv_has ls 7 [(0, .ref b), (1, .ref ka.k9), (2, .ref ma.m9), (3, .ref oc), (4, .int (nI i))]) (hcl : cells + 1 ≤ room_1.cells) (hsl : slots + 6 ≤ room_1.slots) (kk : lwK p l e s m below meth c b A D cI cL cC cB cZ cR ka ma oc i (cells + 1) (slots + 6) Q 904) : W p l e room_1 s m #[Value.ref b] below meth c H locs cells slots Q (F0 m 564 ls []) := by
  obtain ⟨⟨hx, hb, hml, hown, hts⟩, hN, hX, hA0, hA, hK, htr, hra, hXs, hbl, hbA, hL9⟩ := hC
  have hb : c.code = bL_law := hb
  have hP : va_P D vwCl ((kB cL cC cB cR ka z ++ rgs (kR ka g.C g.S g.B)) ++ ([(oc, .inl (cL, 1, .inr (.inl fo9)))] : va_W) ++ (mB cI cC cZ ma w)) H := hP
  have hD : va_D A ((kB cL cC cB cR ka z ++ rgs (kR ka g.C g.S g.B)) ++ ([(oc, .inl (cL, 1, .inr (.inl fo9)))] : va_W) ++ (mB cI cC cZ ma w)) := hD
  refine lv_aload_n (pc := 564) hx hb dL_law_564 rfl (lv_at hl 1 rfl) ?_
  refine lv_aload_n (pc := 565) hx hb dL_law_565 rfl (lv_at hl 0 rfl) ?_
  refine lv_iload (pc := 566) hx hb dL_law_566 (lv_at hl 4 rfl) ?_
  refine lv_iconst (v := nI 1) (pc := 568) hx hb dL_law_568 kI_1 ?_
  refine lv_iadd (pc := 569) hx hb dL_law_569 ?_
  refine x_i (y := nI (i + 1)) (nI_add _ _) ?_
  refine x_sld (k := i + 1) (pc := 570) hx hb hXs hbl hbA hS (by omega) (by omega) dL_law_570 ?_
  refine lv_aload_n (pc := 571) hx hb dL_law_571 rfl (lv_at hl 0 rfl) ?_
  refine lv_iload (pc := 572) hx hb dL_law_572 (lv_at hl 4 rfl) ?_
  refine lv_iconst (v := nI 2) (pc := 574) hx hb dL_law_574 kI_2 ?_
  refine lv_iadd (pc := 575) hx hb dL_law_575 ?_
  refine x_i (y := nI (i + 2)) (nI_add _ _) ?_
  refine x_sld (k := i + 2) (pc := 576) hx hb hXs hbl hbA hS (by omega) (by omega) dL_law_576 ?_
  refine x_SWi (pc := 577) (As := [.ref ka.k9, .int (xs (i + 1)), .int (xs (i + 2))]) (rest := []) (wr := (([(oc, .inl (cL, 1, .inr (.inl fo9)))] : va_W) ++ (mB cI cC cZ ma w))) (N0 := N0) (hh := [(0, 6, 9, 13)]) ⟨hx, hb, hml, hown, hts⟩ (U_trim l D cI cL cC cB cZ cR H.size N0 ka z g (xs (i + 1)) (xs (i + 2)) hra hk hG (x_N0 hD hA0 [0, 1, 2, 3, 4, 5, 6, 7, 8, 9, 10, 11, 12, 13, 14, 15, 16, 17, 18, 19, 20, 21, 22, 23, 24, 25, 26, 27, 28, 29] rfl) htr) ⟨rfl, rfl, Nat.le_of_ble_eq_true rfl, Nat.le_of_ble_eq_true rfl⟩ (pay_in hts (x_good kw_565)) List.mem_cons_self (hts _ kw_565) (hts _ kw_0) dc_L_trim (hts _ kw_563) (hts _ kw_564) rfl hl.1 rfl (Nat.le_of_ble_eq_true rfl) dL_law_577 ⟨hcl, hsl⟩ hN hK hP hD hS hA [0, 1, 2, 3, 4, 5, 6, 7, 8, 9, 10, 11, 12, 13, 14, 15, 16, 17, 18, 19, 20, 21, 22, 23, 24, 25, 26, 27, 28, 29] [30, 31, 32, 33, 34, 35, 36, 37, 38, 39, 40, 41, 42, 43] rfl rfl (by decide) (by decide) (by decide) hX rfl hA0 (fun r577 u577 H locs q577 hP hD hS => ?_)
  obtain ⟨z1, rfl⟩ : ∃ z, z = u577 := ⟨_, rfl⟩
  have hP : va_P D vwCl (([(oc, .inl (cL, 1, .inr (.inl fo9)))] : va_W) ++ (mB cI cC cZ ma w) ++ (kB cL cC cB cR ka z1 ++ rgs (kR ka ((sTrim g (xs (i + 1)) (xs (i + 2))).2).C ((sTrim g (xs (i + 1)) (xs (i + 2))).2).S ((sTrim g (xs (i + 1)) (xs (i + 2))).2).B))) H := hP
  have hD : va_D A (([(oc, .inl (cL, 1, .inr (.inl fo9)))] : va_W) ++ (mB cI cC cZ ma w) ++ (kB cL cC cB cR ka z1 ++ rgs (kR ka ((sTrim g (xs (i + 1)) (xs (i + 2))).2).C ((sTrim g (xs (i + 1)) (xs (i + 2))).2).S ((sTrim g (xs (i + 1)) (xs (i + 2))).2).B))) := hD
  obtain ⟨rfl, hk1⟩ := q577
  refine lv_istore (pc := 580) (lv' := [(5, .int (nI ((sTrim g (xs (i + 1)) (xs (i + 2))).1))), (0, .ref b), (1, .ref ka.k9), (2, .ref ma.m9), (3, .ref oc), (4, .int (nI i))]) hx hb dL_law_580 hl (by decide) rfl (fun ls hl => ?_)
  refine lv_aload_n (pc := 582) hx hb dL_law_582 rfl (lv_at hl 3 rfl) ?_
  refine lv_aload_n (pc := 583) hx hb dL_law_583 rfl (lv_at hl 1 rfl) ?_
  refine lv_iload (pc := 584) hx hb dL_law_584 (lv_at hl 5 rfl) ?_
  refine lv_iconst (v := nI 1) (pc := 586) hx hb dL_law_586 kI_1 ?_
  refine lv_iadd (pc := 587) hx hb dL_law_587 ?_
  refine x_i (y := nI (i + 1)) (nI_add _ _) ?_
  refine x_sld (k := i + 1) (pc := 588) hx hb hXs hbl hbA hS (by omega) (by omega) dL_law_588 ?_
  refine lv_aload_n (pc := 589) hx hb dL_law_589 rfl (lv_at hl 1 rfl) ?_
  refine lv_iload (pc := 590) hx hb dL_law_590 (lv_at hl 5 rfl) ?_
  refine lv_iconst (v := nI 2) (pc := 592) hx hb dL_law_592 kI_2 ?_
  refine lv_iadd (pc := 593) hx hb dL_law_593 ?_
  refine x_i (y := nI (i + 2)) (nI_add _ _) ?_
  refine x_sld (k := i + 2) (pc := 594) hx hb hXs hbl hbA hS (by omega) (by omega) dL_law_594 ?_
  refine x_Vv (pc := 595) (As := [.int (xs (i + 1)), .int (xs (i + 2))]) (rest := []) (b := ma.m9) (wr := (([(oc, .inl (cL, 1, .inr (.inl fo9)))] : va_W) ++ (kB cL cC cB cR ka z1 ++ rgs (kR ka ((sTrim g (xs (i + 1)) (xs (i + 2))).2).C ((sTrim g (xs (i + 1)) (xs (i + 2))).2).S ((sTrim g (xs (i + 1)) (xs (i + 2))).2).B)))) ⟨hx, hb, hml, hown, hts⟩ (M_trim l D cI cL cC cB cZ cR H.size ma w g (xs (i + 1)) (xs (i + 2)) hU hG) ⟨callB_of 2 hts (x_good kw_874) rfl rfl rfl (hts _ kw_9) (hts _ kw_871) dc_X8_trim ⟨Nat.le_of_ble_eq_true rfl, Nat.le_of_ble_eq_true rfl⟩, hts _ kw_872, hts _ kw_873⟩ (q0 := 1) rfl rfl rfl rfl hl.1 rfl (Nat.le_of_ble_eq_true rfl) dL_law_595 ⟨hcl, hsl⟩ hN hK hP hD hS hA [1, 2, 3, 4, 5, 6, 7, 8, 9, 10, 11, 12, 13] [0, 14, 15, 16, 17, 18, 19, 20, 21, 22, 23, 24, 25, 26, 27, 28, 29, 30, 31, 32, 33, 34, 35, 36, 37, 38, 39, 40, 41, 42, 43] rfl rfl (by decide) (by decide) (by decide) (fun u595 H locs q595 hP hD hS => ?_)
  obtain ⟨w1, rfl⟩ : ∃ z, z = u595 := ⟨_, rfl⟩
  have hP : va_P D vwCl (([(oc, .inl (cL, 1, .inr (.inl fo9)))] : va_W) ++ (kB cL cC cB cR ka z1 ++ rgs (kR ka ((sTrim g (xs (i + 1)) (xs (i + 2))).2).C ((sTrim g (xs (i + 1)) (xs (i + 2))).2).S ((sTrim g (xs (i + 1)) (xs (i + 2))).2).B)) ++ (mB cI cC cZ ma w1)) H := hP
  have hD : va_D A (([(oc, .inl (cL, 1, .inr (.inl fo9)))] : va_W) ++ (kB cL cC cB cR ka z1 ++ rgs (kR ka ((sTrim g (xs (i + 1)) (xs (i + 2))).2).C ((sTrim g (xs (i + 1)) (xs (i + 2))).2).S ((sTrim g (xs (i + 1)) (xs (i + 2))).2).B)) ++ (mB cI cC cZ ma w1)) := hD
  obtain ⟨ht1, hU1⟩ := q595
  refine lv_aload_n (pc := 598) hx hb dL_law_598 rfl (lv_at hl 3 rfl) ?_
  refine x_Vi (pc := 599) (As := []) (rest := []) (b := ma.m9) (wr := (([(oc, .inl (cL, 1, .inr (.inl fo9)))] : va_W) ++ (kB cL cC cB cR ka z1 ++ rgs (kR ka ((sTrim g (xs (i + 1)) (xs (i + 2))).2).C ((sTrim g (xs (i + 1)) (xs (i + 2))).2).S ((sTrim g (xs (i + 1)) (xs (i + 2))).2).B)))) ⟨hx, hb, hml, hown, hts⟩ (M_thrown l D cI cL cC cB cZ cR H.size ma w1 ((sTrim g (xs (i + 1)) (xs (i + 2))).2) ((sTrim g (xs (i + 1)) (xs (i + 2))).1) hU1 (sTrim_ok hG) ht1) ⟨callB_of 0 hts (x_good kw_766) rfl rfl rfl (hts _ kw_9) (hts _ kw_763) dc_X8_thrown ⟨Nat.le_of_ble_eq_true rfl, Nat.le_of_ble_eq_true rfl⟩, hts _ kw_764, hts _ kw_765⟩ (q0 := 31) rfl rfl rfl rfl hl.1 rfl (Nat.le_of_ble_eq_true rfl) dL_law_599 ⟨hcl, hsl⟩ hN hK hP hD hS hA [31, 32, 33, 34, 35, 36, 37, 38, 39, 40, 41, 42, 43] [0, 1, 2, 3, 4, 5, 6, 7, 8, 9, 10, 11, 12, 13, 14, 15, 16, 17, 18, 19, 20, 21, 22, 23, 24, 25, 26, 27, 28, 29, 30] rfl rfl (by decide) (by decide) (by decide) (fun r599 u599 H locs q599 hP hD hS => ?_)
  obtain ⟨w2, rfl⟩ : ∃ z, z = u599 := ⟨_, rfl⟩
  have hP : va_P D vwCl (([(oc, .inl (cL, 1, .inr (.inl fo9)))] : va_W) ++ (kB cL cC cB cR ka z1 ++ rgs (kR ka ((sTrim g (xs (i + 1)) (xs (i + 2))).2).C ((sTrim g (xs (i + 1)) (xs (i + 2))).2).S ((sTrim g (xs (i + 1)) (xs (i + 2))).2).B)) ++ (mB cI cC cZ ma w2)) H := hP
  have hD : va_D A (([(oc, .inl (cL, 1, .inr (.inl fo9)))] : va_W) ++ (kB cL cC cB cR ka z1 ++ rgs (kR ka ((sTrim g (xs (i + 1)) (xs (i + 2))).2).C ((sTrim g (xs (i + 1)) (xs (i + 2))).2).S ((sTrim g (xs (i + 1)) (xs (i + 2))).2).B)) ++ (mB cI cC cZ ma w2)) := hD
  obtain ⟨rfl, hU2⟩ := q599
  refine lv_iload (pc := 602) hx hb dL_law_602 (lv_at hl 0 rfl) ?_
  refine lv_icmp_eq (tgt := 609) (pc := 604) hx hb dL_law_604 (by decide) (fun h604 => ?_) (fun h604 => absurd h604 (fun q9 => q9 rfl))
  refine lv_goto (tgt := 904) (pc := 609) hx hb dL_law_609 (by decide) ?_
  have hP := x_Psub (w := ((kB cL cC cB cR ka z1 ++ rgs (kR ka ((sTrim g (xs (i + 1)) (xs (i + 2))).2).C ((sTrim g (xs (i + 1)) (xs (i + 2))).2).S ((sTrim g (xs (i + 1)) (xs (i + 2))).2).B)) ++ ([(oc, .inl (cL, 1, .inr (.inl fo9)))] : va_W) ++ (mB cI cC cZ ma w2))) (is := [1, 2, 3, 4, 5, 6, 7, 8, 9, 10, 11, 12, 13, 14, 15, 16, 17, 18, 19, 20, 21, 22, 23, 24, 25, 26, 27, 28, 29, 30, 0, 31, 32, 33, 34, 35, 36, 37, 38, 39, 40, 41, 42, 43]) hP rfl
  have hD := hD.sub (ws' := ((kB cL cC cB cR ka z1 ++ rgs (kR ka ((sTrim g (xs (i + 1)) (xs (i + 2))).2).C ((sTrim g (xs (i + 1)) (xs (i + 2))).2).S ((sTrim g (xs (i + 1)) (xs (i + 2))).2).B)) ++ ([(oc, .inl (cL, 1, .inr (.inl fo9)))] : va_W) ++ (mB cI cC cZ ma w2))) [1, 2, 3, 4, 5, 6, 7, 8, 9, 10, 11, 12, 13, 14, 15, 16, 17, 18, 19, 20, 21, 22, 23, 24, 25, 26, 27, 28, 29, 30, 0, 31, 32, 33, 34, 35, 36, 37, 38, 39, 40, 41, 42, 43] (by decide) rfl
  have hl := lv_sub (l' := [(0, .ref b), (1, .ref ka.k9), (2, .ref ma.m9), (3, .ref oc), (4, .int (nI i))]) hl [1, 2, 3, 4, 5] rfl
  exact kk z1 w2 ((sTrim g (xs (i + 1)) (xs (i + 2))).2) fo9 H locs ls hk1 hU2 (sTrim_ok hG) hP hD hS hl
