set_option maxHeartbeats 4000000 in
set_option maxRecDepth 100000 in
theorem lw_case5 {p : Program} {l : Launch} {e : Env} {s : State} {m : MethodId} {below : List Frame} {meth : Method} {c : Code} {b L : Nat} {xs : Nat → Int32} {A : Nat → Prop} {D : va_G} {cI cL cC cB cZ cR : ClassId} {N0 : Nat} {ka : kA} {ma : mA} {oc cells slots : Nat} {Q : State → Prop} (hC : lwC p l s m c b L xs A D cI cL cC cB cZ cR N0 ka) {i : Nat} (hi : i + 7 ≤ L) {z : kS} {w : mS} {g : gS} {fo9 : Nat → Int64} {H : Heap} {locs : List Loc} {ls : Array Slot} (hk : kU z g) (hU : mU w g) (hG : gOk g) (hP : va_P D vwCl (lwW cI cL cC cB cZ cR ka ma oc z w g fo9) H) (hD : va_D A (lwW cI cL cC cB cZ cR ka ma oc z w g fo9)) (hS : va_S A s.heap H locs) (hl : lv_has ls 7 [(0, .ref b), (1, .ref ka.k9), (2, .ref ma.m9), (3, .ref oc), (4, .int (nI i))]) (hcl : cells + 1 ≤ room_1.cells) (hsl : slots + 6 ≤ room_1.slots) (kk : lwK p l e s m below meth c b A D cI cL cC cB cZ cR ka ma oc i (cells + 1) (slots + 6) Q 904) : W p l e room_1 s m #[Value.ref b] below meth c H locs cells slots Q (F0 m 359 ls []) := by
  obtain ⟨⟨hx, hb, hml, hown, hts⟩, hN, hX, hA0, hA, hK, htr, hra, hXs, hbl, hbA, hL9⟩ := hC
  have hb : c.code = bL_law := hb
  have hP : va_P D vwCl ((kB cL cC cB cR ka z ++ rgs (kR ka g.C g.S g.B)) ++ ([(oc, .inl (cL, 1, .inr (.inl fo9)))] : va_W) ++ (mB cI cC cZ ma w)) H := hP
  have hD : va_D A ((kB cL cC cB cR ka z ++ rgs (kR ka g.C g.S g.B)) ++ ([(oc, .inl (cL, 1, .inr (.inl fo9)))] : va_W) ++ (mB cI cC cZ ma w)) := hD
  refine lv_aload_n (pc := 359) hx hb dL_law_359 rfl (lv_at hl 1 rfl) ?_
  refine lv_aload_n (pc := 360) hx hb dL_law_360 rfl (lv_at hl 0 rfl) ?_
  refine lv_iload (pc := 361) hx hb dL_law_361 (lv_at hl 4 rfl) ?_
  refine lv_iconst (v := nI 1) (pc := 363) hx hb dL_law_363 kI_1 ?_
  refine lv_iadd (pc := 364) hx hb dL_law_364 ?_
  refine x_i (y := nI (i + 1)) (nI_add _ _) ?_
  refine x_sld (k := i + 1) (pc := 365) hx hb hXs hbl hbA hS (by omega) (by omega) dL_law_365 ?_
  refine lv_aload_n (pc := 366) hx hb dL_law_366 rfl (lv_at hl 0 rfl) ?_
  refine lv_iload (pc := 367) hx hb dL_law_367 (lv_at hl 4 rfl) ?_
  refine lv_iconst (v := nI 2) (pc := 369) hx hb dL_law_369 kI_2 ?_
  refine lv_iadd (pc := 370) hx hb dL_law_370 ?_
  refine x_i (y := nI (i + 2)) (nI_add _ _) ?_
  refine x_sld (k := i + 2) (pc := 371) hx hb hXs hbl hbA hS (by omega) (by omega) dL_law_371 ?_
  refine lv_aload_n (pc := 372) hx hb dL_law_372 rfl (lv_at hl 0 rfl) ?_
  refine lv_iload (pc := 373) hx hb dL_law_373 (lv_at hl 4 rfl) ?_
  refine lv_iconst (v := nI 3) (pc := 375) hx hb dL_law_375 kI_3 ?_
  refine lv_iadd (pc := 376) hx hb dL_law_376 ?_
  refine x_i (y := nI (i + 3)) (nI_add _ _) ?_
  refine x_sld (k := i + 3) (pc := 377) hx hb hXs hbl hbA hS (by omega) (by omega) dL_law_377 ?_
  refine lv_aload_n (pc := 378) hx hb dL_law_378 rfl (lv_at hl 0 rfl) ?_
  refine lv_iload (pc := 379) hx hb dL_law_379 (lv_at hl 4 rfl) ?_
  refine lv_iconst (v := nI 4) (pc := 381) hx hb dL_law_381 kI_4 ?_
  refine lv_iadd (pc := 382) hx hb dL_law_382 ?_
  refine x_i (y := nI (i + 4)) (nI_add _ _) ?_
  refine x_sld (k := i + 4) (pc := 383) hx hb hXs hbl hbA hS (by omega) (by omega) dL_law_383 ?_
  refine x_SWi (pc := 384) (As := [.ref ka.k9, .int (xs (i + 1)), .int (xs (i + 2)), .int (xs (i + 3)), .int (xs (i + 4))]) (rest := []) (wr := (([(oc, .inl (cL, 1, .inr (.inl fo9)))] : va_W) ++ (mB cI cC cZ ma w))) (N0 := N0) (hh := [(0, 9, 12, 13), (0, 9, 16, 19)]) ⟨hx, hb, hml, hown, hts⟩ (U_compute l D cI cL cC cB cZ cR H.size N0 ka z g (xs (i + 1)) (xs (i + 2)) (xs (i + 3)) (xs (i + 4)) hra hk hG (x_N0 hD hA0 [0, 1, 2, 3, 4, 5, 6, 7, 8, 9, 10, 11, 12, 13, 14, 15, 16, 17, 18, 19, 20, 21, 22, 23, 24, 25, 26, 27, 28, 29] rfl) htr) ⟨rfl, rfl, Nat.le_of_ble_eq_true rfl, Nat.le_of_ble_eq_true rfl⟩ (pay_in hts (x_good kw_525)) List.mem_cons_self (hts _ kw_525) (hts _ kw_0) dc_L_compute (hts _ kw_523) (hts _ kw_524) rfl hl.1 rfl (Nat.le_of_ble_eq_true rfl) dL_law_384 ⟨hcl, hsl⟩ hN hK hP hD hS hA [0, 1, 2, 3, 4, 5, 6, 7, 8, 9, 10, 11, 12, 13, 14, 15, 16, 17, 18, 19, 20, 21, 22, 23, 24, 25, 26, 27, 28, 29] [30, 31, 32, 33, 34, 35, 36, 37, 38, 39, 40, 41, 42, 43] rfl rfl (by decide) (by decide) (by decide) hX rfl hA0 (fun r384 u384 H locs q384 hP hD hS => ?_)
  obtain ⟨z1, rfl⟩ : ∃ z, z = u384 := ⟨_, rfl⟩
  have hP : va_P D vwCl (([(oc, .inl (cL, 1, .inr (.inl fo9)))] : va_W) ++ (mB cI cC cZ ma w) ++ (kB cL cC cB cR ka z1 ++ rgs (kR ka ((sComp g (xs (i + 1)) (xs (i + 2)) (xs (i + 3)) (xs (i + 4))).2).C ((sComp g (xs (i + 1)) (xs (i + 2)) (xs (i + 3)) (xs (i + 4))).2).S ((sComp g (xs (i + 1)) (xs (i + 2)) (xs (i + 3)) (xs (i + 4))).2).B))) H := hP
  have hD : va_D A (([(oc, .inl (cL, 1, .inr (.inl fo9)))] : va_W) ++ (mB cI cC cZ ma w) ++ (kB cL cC cB cR ka z1 ++ rgs (kR ka ((sComp g (xs (i + 1)) (xs (i + 2)) (xs (i + 3)) (xs (i + 4))).2).C ((sComp g (xs (i + 1)) (xs (i + 2)) (xs (i + 3)) (xs (i + 4))).2).S ((sComp g (xs (i + 1)) (xs (i + 2)) (xs (i + 3)) (xs (i + 4))).2).B))) := hD
  obtain ⟨rfl, hk1⟩ := q384
  refine lv_istore (pc := 387) (lv' := [(5, .int (nI ((sComp g (xs (i + 1)) (xs (i + 2)) (xs (i + 3)) (xs (i + 4))).1))), (0, .ref b), (1, .ref ka.k9), (2, .ref ma.m9), (3, .ref oc), (4, .int (nI i))]) hx hb dL_law_387 hl (by decide) rfl (fun ls hl => ?_)
  refine lv_aload_n (pc := 389) hx hb dL_law_389 rfl (lv_at hl 3 rfl) ?_
  refine lv_aload_n (pc := 390) hx hb dL_law_390 rfl (lv_at hl 1 rfl) ?_
  refine lv_iload (pc := 391) hx hb dL_law_391 (lv_at hl 5 rfl) ?_
  refine lv_iconst (v := nI 1) (pc := 393) hx hb dL_law_393 kI_1 ?_
  refine lv_iadd (pc := 394) hx hb dL_law_394 ?_
  refine x_i (y := nI (i + 1)) (nI_add _ _) ?_
  refine x_sld (k := i + 1) (pc := 395) hx hb hXs hbl hbA hS (by omega) (by omega) dL_law_395 ?_
  refine lv_aload_n (pc := 396) hx hb dL_law_396 rfl (lv_at hl 1 rfl) ?_
  refine lv_iload (pc := 397) hx hb dL_law_397 (lv_at hl 5 rfl) ?_
  refine lv_iconst (v := nI 2) (pc := 399) hx hb dL_law_399 kI_2 ?_
  refine lv_iadd (pc := 400) hx hb dL_law_400 ?_
  refine x_i (y := nI (i + 2)) (nI_add _ _) ?_
  refine x_sld (k := i + 2) (pc := 401) hx hb hXs hbl hbA hS (by omega) (by omega) dL_law_401 ?_
  refine lv_aload_n (pc := 402) hx hb dL_law_402 rfl (lv_at hl 1 rfl) ?_
  refine lv_iload (pc := 403) hx hb dL_law_403 (lv_at hl 5 rfl) ?_
  refine lv_iconst (v := nI 3) (pc := 405) hx hb dL_law_405 kI_3 ?_
  refine lv_iadd (pc := 406) hx hb dL_law_406 ?_
  refine x_i (y := nI (i + 3)) (nI_add _ _) ?_
  refine x_sld (k := i + 3) (pc := 407) hx hb hXs hbl hbA hS (by omega) (by omega) dL_law_407 ?_
  refine lv_aload_n (pc := 408) hx hb dL_law_408 rfl (lv_at hl 1 rfl) ?_
  refine lv_iload (pc := 409) hx hb dL_law_409 (lv_at hl 5 rfl) ?_
  refine lv_iconst (v := nI 4) (pc := 411) hx hb dL_law_411 kI_4 ?_
  refine lv_iadd (pc := 412) hx hb dL_law_412 ?_
  refine x_i (y := nI (i + 4)) (nI_add _ _) ?_
  refine x_sld (k := i + 4) (pc := 413) hx hb hXs hbl hbA hS (by omega) (by omega) dL_law_413 ?_
  refine x_Vv (pc := 414) (As := [.int (xs (i + 1)), .int (xs (i + 2)), .int (xs (i + 3)), .int (xs (i + 4))]) (rest := []) (b := ma.m9) (wr := (([(oc, .inl (cL, 1, .inr (.inl fo9)))] : va_W) ++ (kB cL cC cB cR ka z1 ++ rgs (kR ka ((sComp g (xs (i + 1)) (xs (i + 2)) (xs (i + 3)) (xs (i + 4))).2).C ((sComp g (xs (i + 1)) (xs (i + 2)) (xs (i + 3)) (xs (i + 4))).2).S ((sComp g (xs (i + 1)) (xs (i + 2)) (xs (i + 3)) (xs (i + 4))).2).B)))) ⟨hx, hb, hml, hown, hts⟩ (M_compute l D cI cL cC cB cZ cR H.size ma w g (xs (i + 1)) (xs (i + 2)) (xs (i + 3)) (xs (i + 4)) hU hG) ⟨callB_of 4 hts (x_good kw_811) rfl rfl rfl (hts _ kw_9) (hts _ kw_808) dc_X8_compute ⟨Nat.le_of_ble_eq_true rfl, Nat.le_of_ble_eq_true rfl⟩, hts _ kw_809, hts _ kw_810⟩ (q0 := 1) rfl rfl rfl rfl hl.1 rfl (Nat.le_of_ble_eq_true rfl) dL_law_414 ⟨hcl, hsl⟩ hN hK hP hD hS hA [1, 2, 3, 4, 5, 6, 7, 8, 9, 10, 11, 12, 13] [0, 14, 15, 16, 17, 18, 19, 20, 21, 22, 23, 24, 25, 26, 27, 28, 29, 30, 31, 32, 33, 34, 35, 36, 37, 38, 39, 40, 41, 42, 43] rfl rfl (by decide) (by decide) (by decide) (fun u414 H locs q414 hP hD hS => ?_)
  obtain ⟨w1, rfl⟩ : ∃ z, z = u414 := ⟨_, rfl⟩
  have hP : va_P D vwCl (([(oc, .inl (cL, 1, .inr (.inl fo9)))] : va_W) ++ (kB cL cC cB cR ka z1 ++ rgs (kR ka ((sComp g (xs (i + 1)) (xs (i + 2)) (xs (i + 3)) (xs (i + 4))).2).C ((sComp g (xs (i + 1)) (xs (i + 2)) (xs (i + 3)) (xs (i + 4))).2).S ((sComp g (xs (i + 1)) (xs (i + 2)) (xs (i + 3)) (xs (i + 4))).2).B)) ++ (mB cI cC cZ ma w1)) H := hP
  have hD : va_D A (([(oc, .inl (cL, 1, .inr (.inl fo9)))] : va_W) ++ (kB cL cC cB cR ka z1 ++ rgs (kR ka ((sComp g (xs (i + 1)) (xs (i + 2)) (xs (i + 3)) (xs (i + 4))).2).C ((sComp g (xs (i + 1)) (xs (i + 2)) (xs (i + 3)) (xs (i + 4))).2).S ((sComp g (xs (i + 1)) (xs (i + 2)) (xs (i + 3)) (xs (i + 4))).2).B)) ++ (mB cI cC cZ ma w1)) := hD
  obtain ⟨ht1, hU1⟩ := q414
  refine lv_aload_n (pc := 417) hx hb dL_law_417 rfl (lv_at hl 3 rfl) ?_
  refine x_Vi (pc := 418) (As := []) (rest := []) (b := ma.m9) (wr := (([(oc, .inl (cL, 1, .inr (.inl fo9)))] : va_W) ++ (kB cL cC cB cR ka z1 ++ rgs (kR ka ((sComp g (xs (i + 1)) (xs (i + 2)) (xs (i + 3)) (xs (i + 4))).2).C ((sComp g (xs (i + 1)) (xs (i + 2)) (xs (i + 3)) (xs (i + 4))).2).S ((sComp g (xs (i + 1)) (xs (i + 2)) (xs (i + 3)) (xs (i + 4))).2).B)))) ⟨hx, hb, hml, hown, hts⟩ (M_thrown l D cI cL cC cB cZ cR H.size ma w1 ((sComp g (xs (i + 1)) (xs (i + 2)) (xs (i + 3)) (xs (i + 4))).2) ((sComp g (xs (i + 1)) (xs (i + 2)) (xs (i + 3)) (xs (i + 4))).1) hU1 (sComp_ok hG) ht1) ⟨callB_of 0 hts (x_good kw_766) rfl rfl rfl (hts _ kw_9) (hts _ kw_763) dc_X8_thrown ⟨Nat.le_of_ble_eq_true rfl, Nat.le_of_ble_eq_true rfl⟩, hts _ kw_764, hts _ kw_765⟩ (q0 := 31) rfl rfl rfl rfl hl.1 rfl (Nat.le_of_ble_eq_true rfl) dL_law_418 ⟨hcl, hsl⟩ hN hK hP hD hS hA [31, 32, 33, 34, 35, 36, 37, 38, 39, 40, 41, 42, 43] [0, 1, 2, 3, 4, 5, 6, 7, 8, 9, 10, 11, 12, 13, 14, 15, 16, 17, 18, 19, 20, 21, 22, 23, 24, 25, 26, 27, 28, 29, 30] rfl rfl (by decide) (by decide) (by decide) (fun r418 u418 H locs q418 hP hD hS => ?_)
  obtain ⟨w2, rfl⟩ : ∃ z, z = u418 := ⟨_, rfl⟩
  have hP : va_P D vwCl (([(oc, .inl (cL, 1, .inr (.inl fo9)))] : va_W) ++ (kB cL cC cB cR ka z1 ++ rgs (kR ka ((sComp g (xs (i + 1)) (xs (i + 2)) (xs (i + 3)) (xs (i + 4))).2).C ((sComp g (xs (i + 1)) (xs (i + 2)) (xs (i + 3)) (xs (i + 4))).2).S ((sComp g (xs (i + 1)) (xs (i + 2)) (xs (i + 3)) (xs (i + 4))).2).B)) ++ (mB cI cC cZ ma w2)) H := hP
  have hD : va_D A (([(oc, .inl (cL, 1, .inr (.inl fo9)))] : va_W) ++ (kB cL cC cB cR ka z1 ++ rgs (kR ka ((sComp g (xs (i + 1)) (xs (i + 2)) (xs (i + 3)) (xs (i + 4))).2).C ((sComp g (xs (i + 1)) (xs (i + 2)) (xs (i + 3)) (xs (i + 4))).2).S ((sComp g (xs (i + 1)) (xs (i + 2)) (xs (i + 3)) (xs (i + 4))).2).B)) ++ (mB cI cC cZ ma w2)) := hD
  obtain ⟨rfl, hU2⟩ := q418
  refine lv_iload (pc := 421) hx hb dL_law_421 (lv_at hl 0 rfl) ?_
  refine lv_icmp_eq (tgt := 428) (pc := 423) hx hb dL_law_423 (by decide) (fun h423 => ?_) (fun h423 => absurd h423 (fun q9 => q9 rfl))
  refine lv_goto (tgt := 904) (pc := 428) hx hb dL_law_428 (by decide) ?_
  have hP := x_Psub (w := ((kB cL cC cB cR ka z1 ++ rgs (kR ka ((sComp g (xs (i + 1)) (xs (i + 2)) (xs (i + 3)) (xs (i + 4))).2).C ((sComp g (xs (i + 1)) (xs (i + 2)) (xs (i + 3)) (xs (i + 4))).2).S ((sComp g (xs (i + 1)) (xs (i + 2)) (xs (i + 3)) (xs (i + 4))).2).B)) ++ ([(oc, .inl (cL, 1, .inr (.inl fo9)))] : va_W) ++ (mB cI cC cZ ma w2))) (is := [1, 2, 3, 4, 5, 6, 7, 8, 9, 10, 11, 12, 13, 14, 15, 16, 17, 18, 19, 20, 21, 22, 23, 24, 25, 26, 27, 28, 29, 30, 0, 31, 32, 33, 34, 35, 36, 37, 38, 39, 40, 41, 42, 43]) hP rfl
  have hD := hD.sub (ws' := ((kB cL cC cB cR ka z1 ++ rgs (kR ka ((sComp g (xs (i + 1)) (xs (i + 2)) (xs (i + 3)) (xs (i + 4))).2).C ((sComp g (xs (i + 1)) (xs (i + 2)) (xs (i + 3)) (xs (i + 4))).2).S ((sComp g (xs (i + 1)) (xs (i + 2)) (xs (i + 3)) (xs (i + 4))).2).B)) ++ ([(oc, .inl (cL, 1, .inr (.inl fo9)))] : va_W) ++ (mB cI cC cZ ma w2))) [1, 2, 3, 4, 5, 6, 7, 8, 9, 10, 11, 12, 13, 14, 15, 16, 17, 18, 19, 20, 21, 22, 23, 24, 25, 26, 27, 28, 29, 30, 0, 31, 32, 33, 34, 35, 36, 37, 38, 39, 40, 41, 42, 43] (by decide) rfl
  have hl := lv_sub (l' := [(0, .ref b), (1, .ref ka.k9), (2, .ref ma.m9), (3, .ref oc), (4, .int (nI i))]) hl [1, 2, 3, 4, 5] rfl
  exact kk z1 w2 ((sComp g (xs (i + 1)) (xs (i + 2)) (xs (i + 3)) (xs (i + 4))).2) fo9 H locs ls hk1 hU2 (sComp_ok hG) hP hD hS hl
set_option maxHeartbeats 4000000 in
set_option maxRecDepth 100000 in
theorem lw_case6 {p : Program} {l : Launch} {e : Env} {s : State} {m : MethodId} {below : List Frame} {meth : Method} {c : Code} {b L : Nat} {xs : Nat → Int32} {A : Nat → Prop} {D : va_G} {cI cL cC cB cZ cR : ClassId} {N0 : Nat} {ka : kA} {ma : mA} {oc cells slots : Nat} {Q : State → Prop} (hC : lwC p l s m c b L xs A D cI cL cC cB cZ cR N0 ka) {i : Nat} (hi : i + 7 ≤ L) {z : kS} {w : mS} {g : gS} {fo9 : Nat → Int64} {H : Heap} {locs : List Loc} {ls : Array Slot} (hk : kU z g) (hU : mU w g) (hG : gOk g) (hP : va_P D vwCl (lwW cI cL cC cB cZ cR ka ma oc z w g fo9) H) (hD : va_D A (lwW cI cL cC cB cZ cR ka ma oc z w g fo9)) (hS : va_S A s.heap H locs) (hl : lv_has ls 7 [(0, .ref b), (1, .ref ka.k9), (2, .ref ma.m9), (3, .ref oc), (4, .int (nI i))]) (hcl : cells + 1 ≤ room_1.cells) (hsl : slots + 6 ≤ room_1.slots) (kk : lwK p l e s m below meth c b A D cI cL cC cB cZ cR ka ma oc i (cells + 1) (slots + 6) Q 904) : W p l e room_1 s m #[Value.ref b] below meth c H locs cells slots Q (F0 m 431 ls []) := by
  obtain ⟨⟨hx, hb, hml, hown, hts⟩, hN, hX, hA0, hA, hK, htr, hra, hXs, hbl, hbA, hL9⟩ := hC
  have hb : c.code = bL_law := hb
  have hP : va_P D vwCl ((kB cL cC cB cR ka z ++ rgs (kR ka g.C g.S g.B)) ++ ([(oc, .inl (cL, 1, .inr (.inl fo9)))] : va_W) ++ (mB cI cC cZ ma w)) H := hP
  have hD : va_D A ((kB cL cC cB cR ka z ++ rgs (kR ka g.C g.S g.B)) ++ ([(oc, .inl (cL, 1, .inr (.inl fo9)))] : va_W) ++ (mB cI cC cZ ma w)) := hD
  refine lv_aload_n (pc := 431) hx hb dL_law_431 rfl (lv_at hl 1 rfl) ?_
  refine lv_aload_n (pc := 432) hx hb dL_law_432 rfl (lv_at hl 0 rfl) ?_
  refine lv_iload (pc := 433) hx hb dL_law_433 (lv_at hl 4 rfl) ?_
  refine lv_iconst (v := nI 1) (pc := 435) hx hb dL_law_435 kI_1 ?_
  refine lv_iadd (pc := 436) hx hb dL_law_436 ?_
  refine x_i (y := nI (i + 1)) (nI_add _ _) ?_
  refine x_sld (k := i + 1) (pc := 437) hx hb hXs hbl hbA hS (by omega) (by omega) dL_law_437 ?_
  refine lv_aload_n (pc := 438) hx hb dL_law_438 rfl (lv_at hl 0 rfl) ?_
  refine lv_iload (pc := 439) hx hb dL_law_439 (lv_at hl 4 rfl) ?_
  refine lv_iconst (v := nI 2) (pc := 441) hx hb dL_law_441 kI_2 ?_
  refine lv_iadd (pc := 442) hx hb dL_law_442 ?_
  refine x_i (y := nI (i + 2)) (nI_add _ _) ?_
  refine x_sld (k := i + 2) (pc := 443) hx hb hXs hbl hbA hS (by omega) (by omega) dL_law_443 ?_
  refine lv_aload_n (pc := 444) hx hb dL_law_444 rfl (lv_at hl 0 rfl) ?_
  refine lv_iload (pc := 445) hx hb dL_law_445 (lv_at hl 4 rfl) ?_
  refine lv_iconst (v := nI 3) (pc := 447) hx hb dL_law_447 kI_3 ?_
  refine lv_iadd (pc := 448) hx hb dL_law_448 ?_
  refine x_i (y := nI (i + 3)) (nI_add _ _) ?_
  refine x_sld (k := i + 3) (pc := 449) hx hb hXs hbl hbA hS (by omega) (by omega) dL_law_449 ?_
  refine lv_aload_n (pc := 450) hx hb dL_law_450 rfl (lv_at hl 0 rfl) ?_
  refine lv_iload (pc := 451) hx hb dL_law_451 (lv_at hl 4 rfl) ?_
  refine lv_iconst (v := nI 4) (pc := 453) hx hb dL_law_453 kI_4 ?_
  refine lv_iadd (pc := 454) hx hb dL_law_454 ?_
  refine x_i (y := nI (i + 4)) (nI_add _ _) ?_
  refine x_sld (k := i + 4) (pc := 455) hx hb hXs hbl hbA hS (by omega) (by omega) dL_law_455 ?_
  refine x_Vi (pc := 456) (As := [.int (xs (i + 1)), .int (xs (i + 2)), .int (xs (i + 3)), .int (xs (i + 4))]) (rest := []) (b := ka.k9) (wr := (([(oc, .inl (cL, 1, .inr (.inl fo9)))] : va_W) ++ (mB cI cC cZ ma w))) ⟨hx, hb, hml, hown, hts⟩ (U_attempt l D cI cL cC cB cZ cR H.size ka z g (xs (i + 1)) (xs (i + 2)) (xs (i + 3)) (xs (i + 4)) hra hk hG) ⟨callB_of 4 hts (x_good kw_223) rfl rfl rfl (hts _ kw_1) (hts _ kw_220) dc_X7_attempt ⟨Nat.le_of_ble_eq_true rfl, Nat.le_of_ble_eq_true rfl⟩, hts _ kw_221, hts _ kw_222⟩ (q0 := 0) rfl rfl rfl rfl hl.1 rfl (Nat.le_of_ble_eq_true rfl) dL_law_456 ⟨Nat.le_of_succ_le hcl, Nat.le_trans (Nat.le_add_right _ 6) hsl⟩ hN hK hP hD hS hA [0, 1, 2, 3, 4, 5, 6, 7, 8, 9, 10, 11, 12, 13, 14, 15, 16, 17, 18, 19, 20, 21, 22, 23, 24, 25, 26, 27, 28, 29] [30, 31, 32, 33, 34, 35, 36, 37, 38, 39, 40, 41, 42, 43] rfl rfl (by decide) (by decide) (by decide) (fun r456 u456 H locs q456 hP hD hS => ?_)
  obtain ⟨z1, rfl⟩ : ∃ z, z = u456 := ⟨_, rfl⟩
  have hP : va_P D vwCl (([(oc, .inl (cL, 1, .inr (.inl fo9)))] : va_W) ++ (mB cI cC cZ ma w) ++ (kB cL cC cB cR ka z1 ++ rgs (kR ka ((sAtt g (xs (i + 1)) (xs (i + 2)) (xs (i + 3)) (xs (i + 4))).2).C ((sAtt g (xs (i + 1)) (xs (i + 2)) (xs (i + 3)) (xs (i + 4))).2).S ((sAtt g (xs (i + 1)) (xs (i + 2)) (xs (i + 3)) (xs (i + 4))).2).B))) H := hP
  have hD : va_D A (([(oc, .inl (cL, 1, .inr (.inl fo9)))] : va_W) ++ (mB cI cC cZ ma w) ++ (kB cL cC cB cR ka z1 ++ rgs (kR ka ((sAtt g (xs (i + 1)) (xs (i + 2)) (xs (i + 3)) (xs (i + 4))).2).C ((sAtt g (xs (i + 1)) (xs (i + 2)) (xs (i + 3)) (xs (i + 4))).2).S ((sAtt g (xs (i + 1)) (xs (i + 2)) (xs (i + 3)) (xs (i + 4))).2).B))) := hD
  obtain ⟨rfl, hk1⟩ := q456
  refine lv_aload_n (pc := 459) hx hb dL_law_459 rfl (lv_at hl 2 rfl) ?_
  refine lv_aload_n (pc := 460) hx hb dL_law_460 rfl (lv_at hl 0 rfl) ?_
  refine lv_iload (pc := 461) hx hb dL_law_461 (lv_at hl 4 rfl) ?_
  refine lv_iconst (v := nI 1) (pc := 463) hx hb dL_law_463 kI_1 ?_
  refine lv_iadd (pc := 464) hx hb dL_law_464 ?_
  refine x_i (y := nI (i + 1)) (nI_add _ _) ?_
  refine x_sld (k := i + 1) (pc := 465) hx hb hXs hbl hbA hS (by omega) (by omega) dL_law_465 ?_
  refine lv_aload_n (pc := 466) hx hb dL_law_466 rfl (lv_at hl 0 rfl) ?_
  refine lv_iload (pc := 467) hx hb dL_law_467 (lv_at hl 4 rfl) ?_
  refine lv_iconst (v := nI 2) (pc := 469) hx hb dL_law_469 kI_2 ?_
  refine lv_iadd (pc := 470) hx hb dL_law_470 ?_
  refine x_i (y := nI (i + 2)) (nI_add _ _) ?_
  refine x_sld (k := i + 2) (pc := 471) hx hb hXs hbl hbA hS (by omega) (by omega) dL_law_471 ?_
  refine lv_aload_n (pc := 472) hx hb dL_law_472 rfl (lv_at hl 0 rfl) ?_
  refine lv_iload (pc := 473) hx hb dL_law_473 (lv_at hl 4 rfl) ?_
  refine lv_iconst (v := nI 3) (pc := 475) hx hb dL_law_475 kI_3 ?_
  refine lv_iadd (pc := 476) hx hb dL_law_476 ?_
  refine x_i (y := nI (i + 3)) (nI_add _ _) ?_
  refine x_sld (k := i + 3) (pc := 477) hx hb hXs hbl hbA hS (by omega) (by omega) dL_law_477 ?_
  refine lv_aload_n (pc := 478) hx hb dL_law_478 rfl (lv_at hl 0 rfl) ?_
  refine lv_iload (pc := 479) hx hb dL_law_479 (lv_at hl 4 rfl) ?_
  refine lv_iconst (v := nI 4) (pc := 481) hx hb dL_law_481 kI_4 ?_
  refine lv_iadd (pc := 482) hx hb dL_law_482 ?_
  refine x_i (y := nI (i + 4)) (nI_add _ _) ?_
  refine x_sld (k := i + 4) (pc := 483) hx hb hXs hbl hbA hS (by omega) (by omega) dL_law_483 ?_
  refine x_Vi (pc := 484) (As := [.int (xs (i + 1)), .int (xs (i + 2)), .int (xs (i + 3)), .int (xs (i + 4))]) (rest := [.int (nI ((sAtt g (xs (i + 1)) (xs (i + 2)) (xs (i + 3)) (xs (i + 4))).1))]) (b := ma.m9) (wr := (([(oc, .inl (cL, 1, .inr (.inl fo9)))] : va_W) ++ (kB cL cC cB cR ka z1 ++ rgs (kR ka ((sAtt g (xs (i + 1)) (xs (i + 2)) (xs (i + 3)) (xs (i + 4))).2).C ((sAtt g (xs (i + 1)) (xs (i + 2)) (xs (i + 3)) (xs (i + 4))).2).S ((sAtt g (xs (i + 1)) (xs (i + 2)) (xs (i + 3)) (xs (i + 4))).2).B)))) ⟨hx, hb, hml, hown, hts⟩ (M_attempt l D cI cL cC cB cZ cR H.size ma w g (xs (i + 1)) (xs (i + 2)) (xs (i + 3)) (xs (i + 4)) hU hG) ⟨callB_of 4 hts (x_good kw_865) rfl rfl rfl (hts _ kw_9) (hts _ kw_862) dc_X8_attempt ⟨Nat.le_of_ble_eq_true rfl, Nat.le_of_ble_eq_true rfl⟩, hts _ kw_863, hts _ kw_864⟩ (q0 := 1) rfl rfl rfl rfl hl.1 rfl (Nat.le_of_ble_eq_true rfl) dL_law_484 ⟨Nat.le_of_succ_le hcl, Nat.le_trans (Nat.le_add_right _ 6) hsl⟩ hN hK hP hD hS hA [1, 2, 3, 4, 5, 6, 7, 8, 9, 10, 11, 12, 13] [0, 14, 15, 16, 17, 18, 19, 20, 21, 22, 23, 24, 25, 26, 27, 28, 29, 30, 31, 32, 33, 34, 35, 36, 37, 38, 39, 40, 41, 42, 43] rfl rfl (by decide) (by decide) (by decide) (fun r484 u484 H locs q484 hP hD hS => ?_)
  obtain ⟨w1, rfl⟩ : ∃ z, z = u484 := ⟨_, rfl⟩
  have hP : va_P D vwCl (([(oc, .inl (cL, 1, .inr (.inl fo9)))] : va_W) ++ (kB cL cC cB cR ka z1 ++ rgs (kR ka ((sAtt g (xs (i + 1)) (xs (i + 2)) (xs (i + 3)) (xs (i + 4))).2).C ((sAtt g (xs (i + 1)) (xs (i + 2)) (xs (i + 3)) (xs (i + 4))).2).S ((sAtt g (xs (i + 1)) (xs (i + 2)) (xs (i + 3)) (xs (i + 4))).2).B)) ++ (mB cI cC cZ ma w1)) H := hP
  have hD : va_D A (([(oc, .inl (cL, 1, .inr (.inl fo9)))] : va_W) ++ (kB cL cC cB cR ka z1 ++ rgs (kR ka ((sAtt g (xs (i + 1)) (xs (i + 2)) (xs (i + 3)) (xs (i + 4))).2).C ((sAtt g (xs (i + 1)) (xs (i + 2)) (xs (i + 3)) (xs (i + 4))).2).S ((sAtt g (xs (i + 1)) (xs (i + 2)) (xs (i + 3)) (xs (i + 4))).2).B)) ++ (mB cI cC cZ ma w1)) := hD
  obtain ⟨rfl, hU1⟩ := q484
  refine lv_icmp_eq (tgt := 904) (pc := 487) hx hb dL_law_487 (by decide) (fun h487 => ?_) (fun h487 => absurd h487 (fun q9 => q9 rfl))
  have hP := x_Psub (w := ((kB cL cC cB cR ka z1 ++ rgs (kR ka ((sAtt g (xs (i + 1)) (xs (i + 2)) (xs (i + 3)) (xs (i + 4))).2).C ((sAtt g (xs (i + 1)) (xs (i + 2)) (xs (i + 3)) (xs (i + 4))).2).S ((sAtt g (xs (i + 1)) (xs (i + 2)) (xs (i + 3)) (xs (i + 4))).2).B)) ++ ([(oc, .inl (cL, 1, .inr (.inl fo9)))] : va_W) ++ (mB cI cC cZ ma w1))) (is := [1, 2, 3, 4, 5, 6, 7, 8, 9, 10, 11, 12, 13, 14, 15, 16, 17, 18, 19, 20, 21, 22, 23, 24, 25, 26, 27, 28, 29, 30, 0, 31, 32, 33, 34, 35, 36, 37, 38, 39, 40, 41, 42, 43]) hP rfl
  have hD := hD.sub (ws' := ((kB cL cC cB cR ka z1 ++ rgs (kR ka ((sAtt g (xs (i + 1)) (xs (i + 2)) (xs (i + 3)) (xs (i + 4))).2).C ((sAtt g (xs (i + 1)) (xs (i + 2)) (xs (i + 3)) (xs (i + 4))).2).S ((sAtt g (xs (i + 1)) (xs (i + 2)) (xs (i + 3)) (xs (i + 4))).2).B)) ++ ([(oc, .inl (cL, 1, .inr (.inl fo9)))] : va_W) ++ (mB cI cC cZ ma w1))) [1, 2, 3, 4, 5, 6, 7, 8, 9, 10, 11, 12, 13, 14, 15, 16, 17, 18, 19, 20, 21, 22, 23, 24, 25, 26, 27, 28, 29, 30, 0, 31, 32, 33, 34, 35, 36, 37, 38, 39, 40, 41, 42, 43] (by decide) rfl
  refine W.widen (k := cells + 1) (n := slots + 6) (Nat.le_succ _) (Nat.le_add_right _ 6) ?_
  exact kk z1 w1 ((sAtt g (xs (i + 1)) (xs (i + 2)) (xs (i + 3)) (xs (i + 4))).2) fo9 H locs ls hk1 hU1 (sAtt_ok hG) hP hD hS hl
