set_option maxHeartbeats 4000000 in
set_option maxRecDepth 100000 in
theorem lw_case1 {p : Program} {l : Launch} {e : Env} {s : State} {m : MethodId} {below : List Frame} {meth : Method} {c : Code} {b L : Nat} {xs : Nat → Int32} {A : Nat → Prop} {D : va_G} {cI cL cC cB cZ cR : ClassId} {N0 : Nat} {ka : kA} {ma : mA} {oc cells slots : Nat} {Q : State → Prop} (hC : lwC p l s m c b L xs A D cI cL cC cB cZ cR N0 ka) {i : Nat} (hi : i + 7 ≤ L) {z : kS} {w : mS} {g : gS} {fo9 : Nat → Int64} {H : Heap} {locs : List Loc} {ls : Array Slot} (hk : kU z g) (hU : mU w g) (hG : gOk g) (hP : va_P D vwCl (lwW cI cL cC cB cZ cR ka ma oc z w g fo9) H) (hD : va_D A (lwW cI cL cC cB cZ cR ka ma oc z w g fo9)) (hS : va_S A s.heap H locs) (hl : lv_has ls 7 [(0, .ref b), (1, .ref ka.k9), (2, .ref ma.m9), (3, .ref oc), (4, .int (nI i))]) (hcl : cells + 1 ≤ room_1.cells) (hsl : slots + 6 ≤ room_1.slots) (kk : lwK p l e s m below meth c b A D cI cL cC cB cZ cR ka ma oc i (cells + 1) (slots + 6) Q 904) : W p l e room_1 s m #[Value.ref b] below meth c H locs cells slots Q (F0 m 258 ls []) := by
  obtain ⟨⟨hx, hb, hml, hown, hts⟩, hN, hX, hA0, hA, hK, htr, hra, hXs, hbl, hbA, hL9⟩ := hC
  have hb : c.code = bL_law := hb
  have hP : va_P D vwCl ((kB cL cC cB cR ka z ++ rgs (kR ka g.C g.S g.B)) ++ ([(oc, .inl (cL, 1, .inr (.inl fo9)))] : va_W) ++ (mB cI cC cZ ma w)) H := hP
  have hD : va_D A ((kB cL cC cB cR ka z ++ rgs (kR ka g.C g.S g.B)) ++ ([(oc, .inl (cL, 1, .inr (.inl fo9)))] : va_W) ++ (mB cI cC cZ ma w)) := hD
  refine lv_aload_n (pc := 258) hx hb dL_law_258 rfl (lv_at hl 1 rfl) ?_
  refine lv_aload_n (pc := 259) hx hb dL_law_259 rfl (lv_at hl 0 rfl) ?_
  refine lv_iload (pc := 260) hx hb dL_law_260 (lv_at hl 4 rfl) ?_
  refine lv_iconst (v := nI 1) (pc := 262) hx hb dL_law_262 kI_1 ?_
  refine lv_iadd (pc := 263) hx hb dL_law_263 ?_
  refine x_i (y := nI (i + 1)) (nI_add _ _) ?_
  refine x_sld (k := i + 1) (pc := 264) hx hb hXs hbl hbA hS (by omega) (by omega) dL_law_264 ?_
  refine x_Vl (pc := 265) (As := [.int (xs (i + 1))]) (rest := []) (b := ka.k9) (wr := (([(oc, .inl (cL, 1, .inr (.inl fo9)))] : va_W) ++ (mB cI cC cZ ma w))) ⟨hx, hb, hml, hown, hts⟩ (U_low l D cI cL cC cB cZ cR H.size ka z g (xs (i + 1)) hra hk hG) ⟨callB_of 1 hts (x_good kw_204) rfl rfl rfl (hts _ kw_1) (hts _ kw_201) dc_X7_low ⟨Nat.le_of_ble_eq_true rfl, Nat.le_of_ble_eq_true rfl⟩, hts _ kw_202, hts _ kw_203⟩ (q0 := 0) rfl rfl rfl rfl hl.1 rfl (Nat.le_of_ble_eq_true rfl) dL_law_265 ⟨Nat.le_of_succ_le hcl, Nat.le_trans (Nat.le_add_right _ 6) hsl⟩ hN hK hP hD hS hA [0, 1, 2, 3, 4, 5, 6, 7, 8, 9, 10, 11, 12, 13, 14, 15, 16, 17, 18, 19, 20, 21, 22, 23, 24, 25, 26, 27, 28, 29] [30, 31, 32, 33, 34, 35, 36, 37, 38, 39, 40, 41, 42, 43] rfl rfl (by decide) (by decide) (by decide) (fun r265 u265 H locs q265 hP hD hS => ?_)
  obtain ⟨z1, rfl⟩ : ∃ z, z = u265 := ⟨_, rfl⟩
  have hP : va_P D vwCl (([(oc, .inl (cL, 1, .inr (.inl fo9)))] : va_W) ++ (mB cI cC cZ ma w) ++ (kB cL cC cB cR ka z1 ++ rgs (kR ka g.C g.S g.B))) H := hP
  have hD : va_D A (([(oc, .inl (cL, 1, .inr (.inl fo9)))] : va_W) ++ (mB cI cC cZ ma w) ++ (kB cL cC cB cR ka z1 ++ rgs (kR ka g.C g.S g.B))) := hD
  obtain ⟨rfl, hk1⟩ := q265
  refine lv_aload_n (pc := 268) hx hb dL_law_268 rfl (lv_at hl 2 rfl) ?_
  refine lv_aload_n (pc := 269) hx hb dL_law_269 rfl (lv_at hl 0 rfl) ?_
  refine lv_iload (pc := 270) hx hb dL_law_270 (lv_at hl 4 rfl) ?_
  refine lv_iconst (v := nI 1) (pc := 272) hx hb dL_law_272 kI_1 ?_
  refine lv_iadd (pc := 273) hx hb dL_law_273 ?_
  refine x_i (y := nI (i + 1)) (nI_add _ _) ?_
  refine x_sld (k := i + 1) (pc := 274) hx hb hXs hbl hbA hS (by omega) (by omega) dL_law_274 ?_
  refine x_Vl (pc := 275) (As := [.int (xs (i + 1))]) (rest := [.long (sLow g (xs (i + 1)))]) (b := ma.m9) (wr := (([(oc, .inl (cL, 1, .inr (.inl fo9)))] : va_W) ++ (kB cL cC cB cR ka z1 ++ rgs (kR ka g.C g.S g.B)))) ⟨hx, hb, hml, hown, hts⟩ (M_low l D cI cL cC cB cZ cR H.size ma w g (xs (i + 1)) hU hG) ⟨callB_of 1 hts (x_good kw_787) rfl rfl rfl (hts _ kw_9) (hts _ kw_784) dc_X8_low ⟨Nat.le_of_ble_eq_true rfl, Nat.le_of_ble_eq_true rfl⟩, hts _ kw_785, hts _ kw_786⟩ (q0 := 1) rfl rfl rfl rfl hl.1 rfl (Nat.le_of_ble_eq_true rfl) dL_law_275 ⟨Nat.le_of_succ_le hcl, Nat.le_trans (Nat.le_add_right _ 6) hsl⟩ hN hK hP hD hS hA [1, 2, 3, 4, 5, 6, 7, 8, 9, 10, 11, 12, 13] [0, 14, 15, 16, 17, 18, 19, 20, 21, 22, 23, 24, 25, 26, 27, 28, 29, 30, 31, 32, 33, 34, 35, 36, 37, 38, 39, 40, 41, 42, 43] rfl rfl (by decide) (by decide) (by decide) (fun r275 u275 H locs q275 hP hD hS => ?_)
  obtain ⟨w1, rfl⟩ : ∃ z, z = u275 := ⟨_, rfl⟩
  have hP : va_P D vwCl (([(oc, .inl (cL, 1, .inr (.inl fo9)))] : va_W) ++ (kB cL cC cB cR ka z1 ++ rgs (kR ka g.C g.S g.B)) ++ (mB cI cC cZ ma w1)) H := hP
  have hD : va_D A (([(oc, .inl (cL, 1, .inr (.inl fo9)))] : va_W) ++ (kB cL cC cB cR ka z1 ++ rgs (kR ka g.C g.S g.B)) ++ (mB cI cC cZ ma w1)) := hD
  obtain ⟨rfl, hU1⟩ := q275
  refine W.lcmp (pc := 278) hx hb dL_law_278 ?_
  refine x_i (y := nI 0) (x_lc rfl) ?_
  refine x_if_eq (tgt := 904) (pc := 279) hx hb (by omega) dL_law_279 (by decide) (fun h279 => ?_) (fun h279 => absurd h279 (fun q9 => q9 rfl))
  have hP := x_Psub (w := ((kB cL cC cB cR ka z1 ++ rgs (kR ka g.C g.S g.B)) ++ ([(oc, .inl (cL, 1, .inr (.inl fo9)))] : va_W) ++ (mB cI cC cZ ma w1))) (is := [1, 2, 3, 4, 5, 6, 7, 8, 9, 10, 11, 12, 13, 14, 15, 16, 17, 18, 19, 20, 21, 22, 23, 24, 25, 26, 27, 28, 29, 30, 0, 31, 32, 33, 34, 35, 36, 37, 38, 39, 40, 41, 42, 43]) hP rfl
  have hD := hD.sub (ws' := ((kB cL cC cB cR ka z1 ++ rgs (kR ka g.C g.S g.B)) ++ ([(oc, .inl (cL, 1, .inr (.inl fo9)))] : va_W) ++ (mB cI cC cZ ma w1))) [1, 2, 3, 4, 5, 6, 7, 8, 9, 10, 11, 12, 13, 14, 15, 16, 17, 18, 19, 20, 21, 22, 23, 24, 25, 26, 27, 28, 29, 30, 0, 31, 32, 33, 34, 35, 36, 37, 38, 39, 40, 41, 42, 43] (by decide) rfl
  refine W.widen (k := cells + 1) (n := slots + 6) (Nat.le_succ _) (Nat.le_add_right _ 6) ?_
  exact kk z1 w1 g fo9 H locs ls hk1 hU1 hG hP hD hS hl
set_option maxHeartbeats 4000000 in
set_option maxRecDepth 100000 in
theorem lw_case2 {p : Program} {l : Launch} {e : Env} {s : State} {m : MethodId} {below : List Frame} {meth : Method} {c : Code} {b L : Nat} {xs : Nat → Int32} {A : Nat → Prop} {D : va_G} {cI cL cC cB cZ cR : ClassId} {N0 : Nat} {ka : kA} {ma : mA} {oc cells slots : Nat} {Q : State → Prop} (hC : lwC p l s m c b L xs A D cI cL cC cB cZ cR N0 ka) {i : Nat} (hi : i + 7 ≤ L) {z : kS} {w : mS} {g : gS} {fo9 : Nat → Int64} {H : Heap} {locs : List Loc} {ls : Array Slot} (hk : kU z g) (hU : mU w g) (hG : gOk g) (hP : va_P D vwCl (lwW cI cL cC cB cZ cR ka ma oc z w g fo9) H) (hD : va_D A (lwW cI cL cC cB cZ cR ka ma oc z w g fo9)) (hS : va_S A s.heap H locs) (hl : lv_has ls 7 [(0, .ref b), (1, .ref ka.k9), (2, .ref ma.m9), (3, .ref oc), (4, .int (nI i))]) (hcl : cells + 1 ≤ room_1.cells) (hsl : slots + 6 ≤ room_1.slots) (kk : lwK p l e s m below meth c b A D cI cL cC cB cZ cR ka ma oc i (cells + 1) (slots + 6) Q 904) : W p l e room_1 s m #[Value.ref b] below meth c H locs cells slots Q (F0 m 284 ls []) := by
  obtain ⟨⟨hx, hb, hml, hown, hts⟩, hN, hX, hA0, hA, hK, htr, hra, hXs, hbl, hbA, hL9⟩ := hC
  have hb : c.code = bL_law := hb
  have hP : va_P D vwCl ((kB cL cC cB cR ka z ++ rgs (kR ka g.C g.S g.B)) ++ ([(oc, .inl (cL, 1, .inr (.inl fo9)))] : va_W) ++ (mB cI cC cZ ma w)) H := hP
  have hD : va_D A ((kB cL cC cB cR ka z ++ rgs (kR ka g.C g.S g.B)) ++ ([(oc, .inl (cL, 1, .inr (.inl fo9)))] : va_W) ++ (mB cI cC cZ ma w)) := hD
  refine lv_aload_n (pc := 284) hx hb dL_law_284 rfl (lv_at hl 1 rfl) ?_
  refine lv_aload_n (pc := 285) hx hb dL_law_285 rfl (lv_at hl 0 rfl) ?_
  refine lv_iload (pc := 286) hx hb dL_law_286 (lv_at hl 4 rfl) ?_
  refine lv_iconst (v := nI 1) (pc := 288) hx hb dL_law_288 kI_1 ?_
  refine lv_iadd (pc := 289) hx hb dL_law_289 ?_
  refine x_i (y := nI (i + 1)) (nI_add _ _) ?_
  refine x_sld (k := i + 1) (pc := 290) hx hb hXs hbl hbA hS (by omega) (by omega) dL_law_290 ?_
  refine x_Vi (pc := 291) (As := [.int (xs (i + 1))]) (rest := []) (b := ka.k9) (wr := (([(oc, .inl (cL, 1, .inr (.inl fo9)))] : va_W) ++ (mB cI cC cZ ma w))) ⟨hx, hb, hml, hown, hts⟩ (U_high l D cI cL cC cB cZ cR H.size ka z g (xs (i + 1)) hra hk hG) ⟨callB_of 1 hts (x_good kw_211) rfl rfl rfl (hts _ kw_1) (hts _ kw_208) dc_X7_high ⟨Nat.le_of_ble_eq_true rfl, Nat.le_of_ble_eq_true rfl⟩, hts _ kw_209, hts _ kw_210⟩ (q0 := 0) rfl rfl rfl rfl hl.1 rfl (Nat.le_of_ble_eq_true rfl) dL_law_291 ⟨Nat.le_of_succ_le hcl, Nat.le_trans (Nat.le_add_right _ 6) hsl⟩ hN hK hP hD hS hA [0, 1, 2, 3, 4, 5, 6, 7, 8, 9, 10, 11, 12, 13, 14, 15, 16, 17, 18, 19, 20, 21, 22, 23, 24, 25, 26, 27, 28, 29] [30, 31, 32, 33, 34, 35, 36, 37, 38, 39, 40, 41, 42, 43] rfl rfl (by decide) (by decide) (by decide) (fun r291 u291 H locs q291 hP hD hS => ?_)
  obtain ⟨z1, rfl⟩ : ∃ z, z = u291 := ⟨_, rfl⟩
  have hP : va_P D vwCl (([(oc, .inl (cL, 1, .inr (.inl fo9)))] : va_W) ++ (mB cI cC cZ ma w) ++ (kB cL cC cB cR ka z1 ++ rgs (kR ka g.C g.S g.B))) H := hP
  have hD : va_D A (([(oc, .inl (cL, 1, .inr (.inl fo9)))] : va_W) ++ (mB cI cC cZ ma w) ++ (kB cL cC cB cR ka z1 ++ rgs (kR ka g.C g.S g.B))) := hD
  obtain ⟨rfl, hk1⟩ := q291
  refine lv_aload_n (pc := 294) hx hb dL_law_294 rfl (lv_at hl 2 rfl) ?_
  refine lv_aload_n (pc := 295) hx hb dL_law_295 rfl (lv_at hl 0 rfl) ?_
  refine lv_iload (pc := 296) hx hb dL_law_296 (lv_at hl 4 rfl) ?_
  refine lv_iconst (v := nI 1) (pc := 298) hx hb dL_law_298 kI_1 ?_
  refine lv_iadd (pc := 299) hx hb dL_law_299 ?_
  refine x_i (y := nI (i + 1)) (nI_add _ _) ?_
  refine x_sld (k := i + 1) (pc := 300) hx hb hXs hbl hbA hS (by omega) (by omega) dL_law_300 ?_
  refine x_Vi (pc := 301) (As := [.int (xs (i + 1))]) (rest := [.int (sHigh g (xs (i + 1)))]) (b := ma.m9) (wr := (([(oc, .inl (cL, 1, .inr (.inl fo9)))] : va_W) ++ (kB cL cC cB cR ka z1 ++ rgs (kR ka g.C g.S g.B)))) ⟨hx, hb, hml, hown, hts⟩ (M_high l D cI cL cC cB cZ cR H.size ma w g (xs (i + 1)) hU hG) ⟨callB_of 1 hts (x_good kw_799) rfl rfl rfl (hts _ kw_9) (hts _ kw_796) dc_X8_high ⟨Nat.le_of_ble_eq_true rfl, Nat.le_of_ble_eq_true rfl⟩, hts _ kw_797, hts _ kw_798⟩ (q0 := 1) rfl rfl rfl rfl hl.1 rfl (Nat.le_of_ble_eq_true rfl) dL_law_301 ⟨Nat.le_of_succ_le hcl, Nat.le_trans (Nat.le_add_right _ 6) hsl⟩ hN hK hP hD hS hA [1, 2, 3, 4, 5, 6, 7, 8, 9, 10, 11, 12, 13] [0, 14, 15, 16, 17, 18, 19, 20, 21, 22, 23, 24, 25, 26, 27, 28, 29, 30, 31, 32, 33, 34, 35, 36, 37, 38, 39, 40, 41, 42, 43] rfl rfl (by decide) (by decide) (by decide) (fun r301 u301 H locs q301 hP hD hS => ?_)
  obtain ⟨w1, rfl⟩ : ∃ z, z = u301 := ⟨_, rfl⟩
  have hP : va_P D vwCl (([(oc, .inl (cL, 1, .inr (.inl fo9)))] : va_W) ++ (kB cL cC cB cR ka z1 ++ rgs (kR ka g.C g.S g.B)) ++ (mB cI cC cZ ma w1)) H := hP
  have hD : va_D A (([(oc, .inl (cL, 1, .inr (.inl fo9)))] : va_W) ++ (kB cL cC cB cR ka z1 ++ rgs (kR ka g.C g.S g.B)) ++ (mB cI cC cZ ma w1)) := hD
  obtain ⟨rfl, hU1⟩ := q301
  refine lv_icmp_eq (tgt := 904) (pc := 304) hx hb dL_law_304 (by decide) (fun h304 => ?_) (fun h304 => absurd h304 (fun q9 => q9 rfl))
  have hP := x_Psub (w := ((kB cL cC cB cR ka z1 ++ rgs (kR ka g.C g.S g.B)) ++ ([(oc, .inl (cL, 1, .inr (.inl fo9)))] : va_W) ++ (mB cI cC cZ ma w1))) (is := [1, 2, 3, 4, 5, 6, 7, 8, 9, 10, 11, 12, 13, 14, 15, 16, 17, 18, 19, 20, 21, 22, 23, 24, 25, 26, 27, 28, 29, 30, 0, 31, 32, 33, 34, 35, 36, 37, 38, 39, 40, 41, 42, 43]) hP rfl
  have hD := hD.sub (ws' := ((kB cL cC cB cR ka z1 ++ rgs (kR ka g.C g.S g.B)) ++ ([(oc, .inl (cL, 1, .inr (.inl fo9)))] : va_W) ++ (mB cI cC cZ ma w1))) [1, 2, 3, 4, 5, 6, 7, 8, 9, 10, 11, 12, 13, 14, 15, 16, 17, 18, 19, 20, 21, 22, 23, 24, 25, 26, 27, 28, 29, 30, 0, 31, 32, 33, 34, 35, 36, 37, 38, 39, 40, 41, 42, 43] (by decide) rfl
  refine W.widen (k := cells + 1) (n := slots + 6) (Nat.le_succ _) (Nat.le_add_right _ 6) ?_
  exact kk z1 w1 g fo9 H locs ls hk1 hU1 hG hP hD hS hl
set_option maxHeartbeats 4000000 in
set_option maxRecDepth 100000 in
theorem lw_case3 {p : Program} {l : Launch} {e : Env} {s : State} {m : MethodId} {below : List Frame} {meth : Method} {c : Code} {b L : Nat} {xs : Nat → Int32} {A : Nat → Prop} {D : va_G} {cI cL cC cB cZ cR : ClassId} {N0 : Nat} {ka : kA} {ma : mA} {oc cells slots : Nat} {Q : State → Prop} (hC : lwC p l s m c b L xs A D cI cL cC cB cZ cR N0 ka) {i : Nat} (hi : i + 7 ≤ L) {z : kS} {w : mS} {g : gS} {fo9 : Nat → Int64} {H : Heap} {locs : List Loc} {ls : Array Slot} (hk : kU z g) (hU : mU w g) (hG : gOk g) (hP : va_P D vwCl (lwW cI cL cC cB cZ cR ka ma oc z w g fo9) H) (hD : va_D A (lwW cI cL cC cB cZ cR ka ma oc z w g fo9)) (hS : va_S A s.heap H locs) (hl : lv_has ls 7 [(0, .ref b), (1, .ref ka.k9), (2, .ref ma.m9), (3, .ref oc), (4, .int (nI i))]) (hcl : cells + 1 ≤ room_1.cells) (hsl : slots + 6 ≤ room_1.slots) (kk : lwK p l e s m below meth c b A D cI cL cC cB cZ cR ka ma oc i (cells + 1) (slots + 6) Q 904) : W p l e room_1 s m #[Value.ref b] below meth c H locs cells slots Q (F0 m 309 ls []) := by
  obtain ⟨⟨hx, hb, hml, hown, hts⟩, hN, hX, hA0, hA, hK, htr, hra, hXs, hbl, hbA, hL9⟩ := hC
  have hb : c.code = bL_law := hb
  have hP : va_P D vwCl ((kB cL cC cB cR ka z ++ rgs (kR ka g.C g.S g.B)) ++ ([(oc, .inl (cL, 1, .inr (.inl fo9)))] : va_W) ++ (mB cI cC cZ ma w)) H := hP
  have hD : va_D A ((kB cL cC cB cR ka z ++ rgs (kR ka g.C g.S g.B)) ++ ([(oc, .inl (cL, 1, .inr (.inl fo9)))] : va_W) ++ (mB cI cC cZ ma w)) := hD
  refine lv_aload_n (pc := 309) hx hb dL_law_309 rfl (lv_at hl 1 rfl) ?_
  refine lv_aload_n (pc := 310) hx hb dL_law_310 rfl (lv_at hl 0 rfl) ?_
  refine lv_iload (pc := 311) hx hb dL_law_311 (lv_at hl 4 rfl) ?_
  refine lv_iconst (v := nI 1) (pc := 313) hx hb dL_law_313 kI_1 ?_
  refine lv_iadd (pc := 314) hx hb dL_law_314 ?_
  refine x_i (y := nI (i + 1)) (nI_add _ _) ?_
  refine x_sld (k := i + 1) (pc := 315) hx hb hXs hbl hbA hS (by omega) (by omega) dL_law_315 ?_
  refine x_Vi (pc := 316) (As := [.int (xs (i + 1))]) (rest := []) (b := ka.k9) (wr := (([(oc, .inl (cL, 1, .inr (.inl fo9)))] : va_W) ++ (mB cI cC cZ ma w))) ⟨hx, hb, hml, hown, hts⟩ (U_scale l D cI cL cC cB cZ cR H.size ka z g (xs (i + 1)) hra hk hG) ⟨callB_of 1 hts (x_good kw_215) rfl rfl rfl (hts _ kw_1) (hts _ kw_212) dc_X7_scale ⟨Nat.le_of_ble_eq_true rfl, Nat.le_of_ble_eq_true rfl⟩, hts _ kw_213, hts _ kw_214⟩ (q0 := 0) rfl rfl rfl rfl hl.1 rfl (Nat.le_of_ble_eq_true rfl) dL_law_316 ⟨Nat.le_of_succ_le hcl, Nat.le_trans (Nat.le_add_right _ 6) hsl⟩ hN hK hP hD hS hA [0, 1, 2, 3, 4, 5, 6, 7, 8, 9, 10, 11, 12, 13, 14, 15, 16, 17, 18, 19, 20, 21, 22, 23, 24, 25, 26, 27, 28, 29] [30, 31, 32, 33, 34, 35, 36, 37, 38, 39, 40, 41, 42, 43] rfl rfl (by decide) (by decide) (by decide) (fun r316 u316 H locs q316 hP hD hS => ?_)
  obtain ⟨z1, rfl⟩ : ∃ z, z = u316 := ⟨_, rfl⟩
  have hP : va_P D vwCl (([(oc, .inl (cL, 1, .inr (.inl fo9)))] : va_W) ++ (mB cI cC cZ ma w) ++ (kB cL cC cB cR ka z1 ++ rgs (kR ka g.C g.S g.B))) H := hP
  have hD : va_D A (([(oc, .inl (cL, 1, .inr (.inl fo9)))] : va_W) ++ (mB cI cC cZ ma w) ++ (kB cL cC cB cR ka z1 ++ rgs (kR ka g.C g.S g.B))) := hD
  obtain ⟨rfl, hk1⟩ := q316
  refine lv_aload_n (pc := 319) hx hb dL_law_319 rfl (lv_at hl 2 rfl) ?_
  refine lv_aload_n (pc := 320) hx hb dL_law_320 rfl (lv_at hl 0 rfl) ?_
  refine lv_iload (pc := 321) hx hb dL_law_321 (lv_at hl 4 rfl) ?_
  refine lv_iconst (v := nI 1) (pc := 323) hx hb dL_law_323 kI_1 ?_
  refine lv_iadd (pc := 324) hx hb dL_law_324 ?_
  refine x_i (y := nI (i + 1)) (nI_add _ _) ?_
  refine x_sld (k := i + 1) (pc := 325) hx hb hXs hbl hbA hS (by omega) (by omega) dL_law_325 ?_
  refine x_Vi (pc := 326) (As := [.int (xs (i + 1))]) (rest := [.int (sScale g (xs (i + 1)))]) (b := ma.m9) (wr := (([(oc, .inl (cL, 1, .inr (.inl fo9)))] : va_W) ++ (kB cL cC cB cR ka z1 ++ rgs (kR ka g.C g.S g.B)))) ⟨hx, hb, hml, hown, hts⟩ (M_scale l D cI cL cC cB cZ cR H.size ma w g (xs (i + 1)) hU hG) ⟨callB_of 1 hts (x_good kw_803) rfl rfl rfl (hts _ kw_9) (hts _ kw_800) dc_X8_scale ⟨Nat.le_of_ble_eq_true rfl, Nat.le_of_ble_eq_true rfl⟩, hts _ kw_801, hts _ kw_802⟩ (q0 := 1) rfl rfl rfl rfl hl.1 rfl (Nat.le_of_ble_eq_true rfl) dL_law_326 ⟨Nat.le_of_succ_le hcl, Nat.le_trans (Nat.le_add_right _ 6) hsl⟩ hN hK hP hD hS hA [1, 2, 3, 4, 5, 6, 7, 8, 9, 10, 11, 12, 13] [0, 14, 15, 16, 17, 18, 19, 20, 21, 22, 23, 24, 25, 26, 27, 28, 29, 30, 31, 32, 33, 34, 35, 36, 37, 38, 39, 40, 41, 42, 43] rfl rfl (by decide) (by decide) (by decide) (fun r326 u326 H locs q326 hP hD hS => ?_)
  obtain ⟨w1, rfl⟩ : ∃ z, z = u326 := ⟨_, rfl⟩
  have hP : va_P D vwCl (([(oc, .inl (cL, 1, .inr (.inl fo9)))] : va_W) ++ (kB cL cC cB cR ka z1 ++ rgs (kR ka g.C g.S g.B)) ++ (mB cI cC cZ ma w1)) H := hP
  have hD : va_D A (([(oc, .inl (cL, 1, .inr (.inl fo9)))] : va_W) ++ (kB cL cC cB cR ka z1 ++ rgs (kR ka g.C g.S g.B)) ++ (mB cI cC cZ ma w1)) := hD
  obtain ⟨rfl, hU1⟩ := q326
  refine lv_icmp_eq (tgt := 904) (pc := 329) hx hb dL_law_329 (by decide) (fun h329 => ?_) (fun h329 => absurd h329 (fun q9 => q9 rfl))
  have hP := x_Psub (w := ((kB cL cC cB cR ka z1 ++ rgs (kR ka g.C g.S g.B)) ++ ([(oc, .inl (cL, 1, .inr (.inl fo9)))] : va_W) ++ (mB cI cC cZ ma w1))) (is := [1, 2, 3, 4, 5, 6, 7, 8, 9, 10, 11, 12, 13, 14, 15, 16, 17, 18, 19, 20, 21, 22, 23, 24, 25, 26, 27, 28, 29, 30, 0, 31, 32, 33, 34, 35, 36, 37, 38, 39, 40, 41, 42, 43]) hP rfl
  have hD := hD.sub (ws' := ((kB cL cC cB cR ka z1 ++ rgs (kR ka g.C g.S g.B)) ++ ([(oc, .inl (cL, 1, .inr (.inl fo9)))] : va_W) ++ (mB cI cC cZ ma w1))) [1, 2, 3, 4, 5, 6, 7, 8, 9, 10, 11, 12, 13, 14, 15, 16, 17, 18, 19, 20, 21, 22, 23, 24, 25, 26, 27, 28, 29, 30, 0, 31, 32, 33, 34, 35, 36, 37, 38, 39, 40, 41, 42, 43] (by decide) rfl
  refine W.widen (k := cells + 1) (n := slots + 6) (Nat.le_succ _) (Nat.le_add_right _ 6) ?_
  exact kk z1 w1 g fo9 H locs ls hk1 hU1 hG hP hD hS hl
set_option maxHeartbeats 4000000 in
set_option maxRecDepth 100000 in
theorem lw_case4 {p : Program} {l : Launch} {e : Env} {s : State} {m : MethodId} {below : List Frame} {meth : Method} {c : Code} {b L : Nat} {xs : Nat → Int32} {A : Nat → Prop} {D : va_G} {cI cL cC cB cZ cR : ClassId} {N0 : Nat} {ka : kA} {ma : mA} {oc cells slots : Nat} {Q : State → Prop} (hC : lwC p l s m c b L xs A D cI cL cC cB cZ cR N0 ka) {i : Nat} (hi : i + 7 ≤ L) {z : kS} {w : mS} {g : gS} {fo9 : Nat → Int64} {H : Heap} {locs : List Loc} {ls : Array Slot} (hk : kU z g) (hU : mU w g) (hG : gOk g) (hP : va_P D vwCl (lwW cI cL cC cB cZ cR ka ma oc z w g fo9) H) (hD : va_D A (lwW cI cL cC cB cZ cR ka ma oc z w g fo9)) (hS : va_S A s.heap H locs) (hl : lv_has ls 7 [(0, .ref b), (1, .ref ka.k9), (2, .ref ma.m9), (3, .ref oc), (4, .int (nI i))]) (hcl : cells + 1 ≤ room_1.cells) (hsl : slots + 6 ≤ room_1.slots) (kk : lwK p l e s m below meth c b A D cI cL cC cB cZ cR ka ma oc i (cells + 1) (slots + 6) Q 904) : W p l e room_1 s m #[Value.ref b] below meth c H locs cells slots Q (F0 m 334 ls []) := by
  obtain ⟨⟨hx, hb, hml, hown, hts⟩, hN, hX, hA0, hA, hK, htr, hra, hXs, hbl, hbA, hL9⟩ := hC
  have hb : c.code = bL_law := hb
  have hP : va_P D vwCl ((kB cL cC cB cR ka z ++ rgs (kR ka g.C g.S g.B)) ++ ([(oc, .inl (cL, 1, .inr (.inl fo9)))] : va_W) ++ (mB cI cC cZ ma w)) H := hP
  have hD : va_D A ((kB cL cC cB cR ka z ++ rgs (kR ka g.C g.S g.B)) ++ ([(oc, .inl (cL, 1, .inr (.inl fo9)))] : va_W) ++ (mB cI cC cZ ma w)) := hD
  refine lv_aload_n (pc := 334) hx hb dL_law_334 rfl (lv_at hl 1 rfl) ?_
  refine lv_aload_n (pc := 335) hx hb dL_law_335 rfl (lv_at hl 0 rfl) ?_
  refine lv_iload (pc := 336) hx hb dL_law_336 (lv_at hl 4 rfl) ?_
  refine lv_iconst (v := nI 1) (pc := 338) hx hb dL_law_338 kI_1 ?_
  refine lv_iadd (pc := 339) hx hb dL_law_339 ?_
  refine x_i (y := nI (i + 1)) (nI_add _ _) ?_
  refine x_sld (k := i + 1) (pc := 340) hx hb hXs hbl hbA hS (by omega) (by omega) dL_law_340 ?_
  refine x_Vi (pc := 341) (As := [.int (xs (i + 1))]) (rest := []) (b := ka.k9) (wr := (([(oc, .inl (cL, 1, .inr (.inl fo9)))] : va_W) ++ (mB cI cC cZ ma w))) ⟨hx, hb, hml, hown, hts⟩ (U_neg l D cI cL cC cB cZ cR H.size ka z g (xs (i + 1)) hra hk hG) ⟨callB_of 1 hts (x_good kw_219) rfl rfl rfl (hts _ kw_1) (hts _ kw_216) dc_X7_negative ⟨Nat.le_of_ble_eq_true rfl, Nat.le_of_ble_eq_true rfl⟩, hts _ kw_217, hts _ kw_218⟩ (q0 := 0) rfl rfl rfl rfl hl.1 rfl (Nat.le_of_ble_eq_true rfl) dL_law_341 ⟨Nat.le_of_succ_le hcl, Nat.le_trans (Nat.le_add_right _ 6) hsl⟩ hN hK hP hD hS hA [0, 1, 2, 3, 4, 5, 6, 7, 8, 9, 10, 11, 12, 13, 14, 15, 16, 17, 18, 19, 20, 21, 22, 23, 24, 25, 26, 27, 28, 29] [30, 31, 32, 33, 34, 35, 36, 37, 38, 39, 40, 41, 42, 43] rfl rfl (by decide) (by decide) (by decide) (fun r341 u341 H locs q341 hP hD hS => ?_)
  obtain ⟨z1, rfl⟩ : ∃ z, z = u341 := ⟨_, rfl⟩
  have hP : va_P D vwCl (([(oc, .inl (cL, 1, .inr (.inl fo9)))] : va_W) ++ (mB cI cC cZ ma w) ++ (kB cL cC cB cR ka z1 ++ rgs (kR ka g.C g.S g.B))) H := hP
  have hD : va_D A (([(oc, .inl (cL, 1, .inr (.inl fo9)))] : va_W) ++ (mB cI cC cZ ma w) ++ (kB cL cC cB cR ka z1 ++ rgs (kR ka g.C g.S g.B))) := hD
  obtain ⟨rfl, hk1⟩ := q341
  refine lv_aload_n (pc := 344) hx hb dL_law_344 rfl (lv_at hl 2 rfl) ?_
  refine lv_aload_n (pc := 345) hx hb dL_law_345 rfl (lv_at hl 0 rfl) ?_
  refine lv_iload (pc := 346) hx hb dL_law_346 (lv_at hl 4 rfl) ?_
  refine lv_iconst (v := nI 1) (pc := 348) hx hb dL_law_348 kI_1 ?_
  refine lv_iadd (pc := 349) hx hb dL_law_349 ?_
  refine x_i (y := nI (i + 1)) (nI_add _ _) ?_
  refine x_sld (k := i + 1) (pc := 350) hx hb hXs hbl hbA hS (by omega) (by omega) dL_law_350 ?_
  refine x_Vi (pc := 351) (As := [.int (xs (i + 1))]) (rest := [.int (sNeg g (xs (i + 1)))]) (b := ma.m9) (wr := (([(oc, .inl (cL, 1, .inr (.inl fo9)))] : va_W) ++ (kB cL cC cB cR ka z1 ++ rgs (kR ka g.C g.S g.B)))) ⟨hx, hb, hml, hown, hts⟩ (M_negative l D cI cL cC cB cZ cR H.size ma w g (xs (i + 1)) hU hG) ⟨callB_of 1 hts (x_good kw_807) rfl rfl rfl (hts _ kw_9) (hts _ kw_804) dc_X8_negative ⟨Nat.le_of_ble_eq_true rfl, Nat.le_of_ble_eq_true rfl⟩, hts _ kw_805, hts _ kw_806⟩ (q0 := 1) rfl rfl rfl rfl hl.1 rfl (Nat.le_of_ble_eq_true rfl) dL_law_351 ⟨Nat.le_of_succ_le hcl, Nat.le_trans (Nat.le_add_right _ 6) hsl⟩ hN hK hP hD hS hA [1, 2, 3, 4, 5, 6, 7, 8, 9, 10, 11, 12, 13] [0, 14, 15, 16, 17, 18, 19, 20, 21, 22, 23, 24, 25, 26, 27, 28, 29, 30, 31, 32, 33, 34, 35, 36, 37, 38, 39, 40, 41, 42, 43] rfl rfl (by decide) (by decide) (by decide) (fun r351 u351 H locs q351 hP hD hS => ?_)
  obtain ⟨w1, rfl⟩ : ∃ z, z = u351 := ⟨_, rfl⟩
  have hP : va_P D vwCl (([(oc, .inl (cL, 1, .inr (.inl fo9)))] : va_W) ++ (kB cL cC cB cR ka z1 ++ rgs (kR ka g.C g.S g.B)) ++ (mB cI cC cZ ma w1)) H := hP
  have hD : va_D A (([(oc, .inl (cL, 1, .inr (.inl fo9)))] : va_W) ++ (kB cL cC cB cR ka z1 ++ rgs (kR ka g.C g.S g.B)) ++ (mB cI cC cZ ma w1)) := hD
  obtain ⟨rfl, hU1⟩ := q351
  refine lv_icmp_eq (tgt := 904) (pc := 354) hx hb dL_law_354 (by decide) (fun h354 => ?_) (fun h354 => absurd h354 (fun q9 => q9 rfl))
  have hP := x_Psub (w := ((kB cL cC cB cR ka z1 ++ rgs (kR ka g.C g.S g.B)) ++ ([(oc, .inl (cL, 1, .inr (.inl fo9)))] : va_W) ++ (mB cI cC cZ ma w1))) (is := [1, 2, 3, 4, 5, 6, 7, 8, 9, 10, 11, 12, 13, 14, 15, 16, 17, 18, 19, 20, 21, 22, 23, 24, 25, 26, 27, 28, 29, 30, 0, 31, 32, 33, 34, 35, 36, 37, 38, 39, 40, 41, 42, 43]) hP rfl
  have hD := hD.sub (ws' := ((kB cL cC cB cR ka z1 ++ rgs (kR ka g.C g.S g.B)) ++ ([(oc, .inl (cL, 1, .inr (.inl fo9)))] : va_W) ++ (mB cI cC cZ ma w1))) [1, 2, 3, 4, 5, 6, 7, 8, 9, 10, 11, 12, 13, 14, 15, 16, 17, 18, 19, 20, 21, 22, 23, 24, 25, 26, 27, 28, 29, 30, 0, 31, 32, 33, 34, 35, 36, 37, 38, 39, 40, 41, 42, 43] (by decide) rfl
  refine W.widen (k := cells + 1) (n := slots + 6) (Nat.le_succ _) (Nat.le_add_right _ 6) ?_
  exact kk z1 w1 g fo9 H locs ls hk1 hU1 hG hP hD hS hl
set_option maxHeartbeats 4000000 in
set_option maxRecDepth 100000 in
theorem lw_case15 {p : Program} {l : Launch} {e : Env} {s : State} {m : MethodId} {below : List Frame} {meth : Method} {c : Code} {b L : Nat} {xs : Nat → Int32} {A : Nat → Prop} {D : va_G} {cI cL cC cB cZ cR : ClassId} {N0 : Nat} {ka : kA} {ma : mA} {oc cells slots : Nat} {Q : State → Prop} (hC : lwC p l s m c b L xs A D cI cL cC cB cZ cR N0 ka) {i : Nat} (hi : i + 7 ≤ L) {z : kS} {w : mS} {g : gS} {fo9 : Nat → Int64} {H : Heap} {locs : List Loc} {ls : Array Slot} (hk : kU z g) (hU : mU w g) (hG : gOk g) (hP : va_P D vwCl (lwW cI cL cC cB cZ cR ka ma oc z w g fo9) H) (hD : va_D A (lwW cI cL cC cB cZ cR ka ma oc z w g fo9)) (hS : va_S A s.heap H locs) (hl : lv_has ls 7 [(0, .ref b), (1, .ref ka.k9), (2, .ref ma.m9), (3, .ref oc), (4, .int (nI i))]) (hcl : cells + 1 ≤ room_1.cells) (hsl : slots + 6 ≤ room_1.slots) (kk : lwK p l e s m below meth c b A D cI cL cC cB cZ cR ka ma oc i (cells + 1) (slots + 6) Q 904) : W p l e room_1 s m #[Value.ref b] below meth c H locs cells slots Q (F0 m 866 ls []) := by
  obtain ⟨⟨hx, hb, hml, hown, hts⟩, hN, hX, hA0, hA, hK, htr, hra, hXs, hbl, hbA, hL9⟩ := hC
  have hb : c.code = bL_law := hb
  have hP : va_P D vwCl ((kB cL cC cB cR ka z ++ rgs (kR ka g.C g.S g.B)) ++ ([(oc, .inl (cL, 1, .inr (.inl fo9)))] : va_W) ++ (mB cI cC cZ ma w)) H := hP
  have hD : va_D A ((kB cL cC cB cR ka z ++ rgs (kR ka g.C g.S g.B)) ++ ([(oc, .inl (cL, 1, .inr (.inl fo9)))] : va_W) ++ (mB cI cC cZ ma w)) := hD
  refine lv_aload_n (pc := 866) hx hb dL_law_866 rfl (lv_at hl 1 rfl) ?_
  refine lv_aload_n (pc := 867) hx hb dL_law_867 rfl (lv_at hl 0 rfl) ?_
  refine lv_iload (pc := 868) hx hb dL_law_868 (lv_at hl 4 rfl) ?_
  refine lv_iconst (v := nI 1) (pc := 870) hx hb dL_law_870 kI_1 ?_
  refine lv_iadd (pc := 871) hx hb dL_law_871 ?_
  refine x_i (y := nI (i + 1)) (nI_add _ _) ?_
  refine x_sld (k := i + 1) (pc := 872) hx hb hXs hbl hbA hS (by omega) (by omega) dL_law_872 ?_
  refine x_Vi (pc := 873) (As := [.int (xs (i + 1))]) (rest := []) (b := ka.k9) (wr := (([(oc, .inl (cL, 1, .inr (.inl fo9)))] : va_W) ++ (mB cI cC cZ ma w))) ⟨hx, hb, hml, hown, hts⟩ (U_at l D cI cL cC cB cZ cR H.size ka z g (xs (i + 1)) hra hk hG) ⟨callB_of 1 hts (x_good kw_435) rfl rfl rfl (hts _ kw_1) (hts _ kw_432) dc_X7_at ⟨Nat.le_of_ble_eq_true rfl, Nat.le_of_ble_eq_true rfl⟩, hts _ kw_433, hts _ kw_434⟩ (q0 := 0) rfl rfl rfl rfl hl.1 rfl (Nat.le_of_ble_eq_true rfl) dL_law_873 ⟨Nat.le_of_succ_le hcl, Nat.le_trans (Nat.le_add_right _ 6) hsl⟩ hN hK hP hD hS hA [0, 1, 2, 3, 4, 5, 6, 7, 8, 9, 10, 11, 12, 13, 14, 15, 16, 17, 18, 19, 20, 21, 22, 23, 24, 25, 26, 27, 28, 29] [30, 31, 32, 33, 34, 35, 36, 37, 38, 39, 40, 41, 42, 43] rfl rfl (by decide) (by decide) (by decide) (fun r873 u873 H locs q873 hP hD hS => ?_)
  obtain ⟨z1, rfl⟩ : ∃ z, z = u873 := ⟨_, rfl⟩
  have hP : va_P D vwCl (([(oc, .inl (cL, 1, .inr (.inl fo9)))] : va_W) ++ (mB cI cC cZ ma w) ++ (kB cL cC cB cR ka z1 ++ rgs (kR ka g.C g.S g.B))) H := hP
  have hD : va_D A (([(oc, .inl (cL, 1, .inr (.inl fo9)))] : va_W) ++ (mB cI cC cZ ma w) ++ (kB cL cC cB cR ka z1 ++ rgs (kR ka g.C g.S g.B))) := hD
  obtain ⟨rfl, hk1⟩ := q873
  refine lv_aload_n (pc := 876) hx hb dL_law_876 rfl (lv_at hl 2 rfl) ?_
  refine lv_aload_n (pc := 877) hx hb dL_law_877 rfl (lv_at hl 0 rfl) ?_
  refine lv_iload (pc := 878) hx hb dL_law_878 (lv_at hl 4 rfl) ?_
  refine lv_iconst (v := nI 1) (pc := 880) hx hb dL_law_880 kI_1 ?_
  refine lv_iadd (pc := 881) hx hb dL_law_881 ?_
  refine x_i (y := nI (i + 1)) (nI_add _ _) ?_
  refine x_sld (k := i + 1) (pc := 882) hx hb hXs hbl hbA hS (by omega) (by omega) dL_law_882 ?_
  refine x_Vi (pc := 883) (As := [.int (xs (i + 1))]) (rest := [.int (sAt g (xs (i + 1)))]) (b := ma.m9) (wr := (([(oc, .inl (cL, 1, .inr (.inl fo9)))] : va_W) ++ (kB cL cC cB cR ka z1 ++ rgs (kR ka g.C g.S g.B)))) ⟨hx, hb, hml, hown, hts⟩ (M_at l D cI cL cC cB cZ cR H.size ma w g (xs (i + 1)) hU hG) ⟨callB_of 1 hts (x_good kw_928) rfl rfl rfl (hts _ kw_9) (hts _ kw_925) dc_X8_at ⟨Nat.le_of_ble_eq_true rfl, Nat.le_of_ble_eq_true rfl⟩, hts _ kw_926, hts _ kw_927⟩ (q0 := 1) rfl rfl rfl rfl hl.1 rfl (Nat.le_of_ble_eq_true rfl) dL_law_883 ⟨Nat.le_of_succ_le hcl, Nat.le_trans (Nat.le_add_right _ 6) hsl⟩ hN hK hP hD hS hA [1, 2, 3, 4, 5, 6, 7, 8, 9, 10, 11, 12, 13] [0, 14, 15, 16, 17, 18, 19, 20, 21, 22, 23, 24, 25, 26, 27, 28, 29, 30, 31, 32, 33, 34, 35, 36, 37, 38, 39, 40, 41, 42, 43] rfl rfl (by decide) (by decide) (by decide) (fun r883 u883 H locs q883 hP hD hS => ?_)
  obtain ⟨w1, rfl⟩ : ∃ z, z = u883 := ⟨_, rfl⟩
  have hP : va_P D vwCl (([(oc, .inl (cL, 1, .inr (.inl fo9)))] : va_W) ++ (kB cL cC cB cR ka z1 ++ rgs (kR ka g.C g.S g.B)) ++ (mB cI cC cZ ma w1)) H := hP
  have hD : va_D A (([(oc, .inl (cL, 1, .inr (.inl fo9)))] : va_W) ++ (kB cL cC cB cR ka z1 ++ rgs (kR ka g.C g.S g.B)) ++ (mB cI cC cZ ma w1)) := hD
  obtain ⟨rfl, hU1⟩ := q883
  refine lv_icmp_eq (tgt := 904) (pc := 886) hx hb dL_law_886 (by decide) (fun h886 => ?_) (fun h886 => absurd h886 (fun q9 => q9 rfl))
  have hP := x_Psub (w := ((kB cL cC cB cR ka z1 ++ rgs (kR ka g.C g.S g.B)) ++ ([(oc, .inl (cL, 1, .inr (.inl fo9)))] : va_W) ++ (mB cI cC cZ ma w1))) (is := [1, 2, 3, 4, 5, 6, 7, 8, 9, 10, 11, 12, 13, 14, 15, 16, 17, 18, 19, 20, 21, 22, 23, 24, 25, 26, 27, 28, 29, 30, 0, 31, 32, 33, 34, 35, 36, 37, 38, 39, 40, 41, 42, 43]) hP rfl
  have hD := hD.sub (ws' := ((kB cL cC cB cR ka z1 ++ rgs (kR ka g.C g.S g.B)) ++ ([(oc, .inl (cL, 1, .inr (.inl fo9)))] : va_W) ++ (mB cI cC cZ ma w1))) [1, 2, 3, 4, 5, 6, 7, 8, 9, 10, 11, 12, 13, 14, 15, 16, 17, 18, 19, 20, 21, 22, 23, 24, 25, 26, 27, 28, 29, 30, 0, 31, 32, 33, 34, 35, 36, 37, 38, 39, 40, 41, 42, 43] (by decide) rfl
  refine W.widen (k := cells + 1) (n := slots + 6) (Nat.le_succ _) (Nat.le_add_right _ 6) ?_
  exact kk z1 w1 g fo9 H locs ls hk1 hU1 hG hP hD hS hl
set_option maxHeartbeats 4000000 in
set_option maxRecDepth 100000 in
theorem lw_case16 {p : Program} {l : Launch} {e : Env} {s : State} {m : MethodId} {below : List Frame} {meth : Method} {c : Code} {b L : Nat} {xs : Nat → Int32} {A : Nat → Prop} {D : va_G} {cI cL cC cB cZ cR : ClassId} {N0 : Nat} {ka : kA} {ma : mA} {oc cells slots : Nat} {Q : State → Prop} (hC : lwC p l s m c b L xs A D cI cL cC cB cZ cR N0 ka) {i : Nat} (hi : i + 7 ≤ L) {z : kS} {w : mS} {g : gS} {fo9 : Nat → Int64} {H : Heap} {locs : List Loc} {ls : Array Slot} (hk : kU z g) (hU : mU w g) (hG : gOk g) (hP : va_P D vwCl (lwW cI cL cC cB cZ cR ka ma oc z w g fo9) H) (hD : va_D A (lwW cI cL cC cB cZ cR ka ma oc z w g fo9)) (hS : va_S A s.heap H locs) (hl : lv_has ls 7 [(0, .ref b), (1, .ref ka.k9), (2, .ref ma.m9), (3, .ref oc), (4, .int (nI i))]) (hcl : cells + 1 ≤ room_1.cells) (hsl : slots + 6 ≤ room_1.slots) (kk : lwK p l e s m below meth c b A D cI cL cC cB cZ cR ka ma oc i (cells + 1) (slots + 6) Q 904) : W p l e room_1 s m #[Value.ref b] below meth c H locs cells slots Q (F0 m 891 ls []) := by
  obtain ⟨⟨hx, hb, hml, hown, hts⟩, hN, hX, hA0, hA, hK, htr, hra, hXs, hbl, hbA, hL9⟩ := hC
  have hb : c.code = bL_law := hb
  have hP : va_P D vwCl ((kB cL cC cB cR ka z ++ rgs (kR ka g.C g.S g.B)) ++ ([(oc, .inl (cL, 1, .inr (.inl fo9)))] : va_W) ++ (mB cI cC cZ ma w)) H := hP
  have hD : va_D A ((kB cL cC cB cR ka z ++ rgs (kR ka g.C g.S g.B)) ++ ([(oc, .inl (cL, 1, .inr (.inl fo9)))] : va_W) ++ (mB cI cC cZ ma w)) := hD
  refine lv_aload_n (pc := 891) hx hb dL_law_891 rfl (lv_at hl 1 rfl) ?_
  refine x_Vi (pc := 892) (As := []) (rest := []) (b := ka.k9) (wr := (([(oc, .inl (cL, 1, .inr (.inl fo9)))] : va_W) ++ (mB cI cC cZ ma w))) ⟨hx, hb, hml, hown, hts⟩ (U_reuse l D cI cL cC cB cZ cR H.size ka z g hra hk hG) ⟨callB_of 0 hts (x_good kw_443) rfl rfl rfl (hts _ kw_1) (hts _ kw_440) dc_X7_reuse ⟨Nat.le_of_ble_eq_true rfl, Nat.le_of_ble_eq_true rfl⟩, hts _ kw_441, hts _ kw_442⟩ (q0 := 0) rfl rfl rfl rfl hl.1 rfl (Nat.le_of_ble_eq_true rfl) dL_law_892 ⟨Nat.le_of_succ_le hcl, Nat.le_trans (Nat.le_add_right _ 6) hsl⟩ hN hK hP hD hS hA [0, 1, 2, 3, 4, 5, 6, 7, 8, 9, 10, 11, 12, 13, 14, 15, 16, 17, 18, 19, 20, 21, 22, 23, 24, 25, 26, 27, 28, 29] [30, 31, 32, 33, 34, 35, 36, 37, 38, 39, 40, 41, 42, 43] rfl rfl (by decide) (by decide) (by decide) (fun r892 u892 H locs q892 hP hD hS => ?_)
  obtain ⟨z1, rfl⟩ : ∃ z, z = u892 := ⟨_, rfl⟩
  have hP : va_P D vwCl (([(oc, .inl (cL, 1, .inr (.inl fo9)))] : va_W) ++ (mB cI cC cZ ma w) ++ (kB cL cC cB cR ka z1 ++ rgs (kR ka ((sReuse g).2).C ((sReuse g).2).S ((sReuse g).2).B))) H := hP
  have hD : va_D A (([(oc, .inl (cL, 1, .inr (.inl fo9)))] : va_W) ++ (mB cI cC cZ ma w) ++ (kB cL cC cB cR ka z1 ++ rgs (kR ka ((sReuse g).2).C ((sReuse g).2).S ((sReuse g).2).B))) := hD
  obtain ⟨rfl, hk1⟩ := q892
  refine lv_aload_n (pc := 895) hx hb dL_law_895 rfl (lv_at hl 2 rfl) ?_
  refine x_Vi (pc := 896) (As := []) (rest := [.int (nI ((sReuse g).1))]) (b := ma.m9) (wr := (([(oc, .inl (cL, 1, .inr (.inl fo9)))] : va_W) ++ (kB cL cC cB cR ka z1 ++ rgs (kR ka ((sReuse g).2).C ((sReuse g).2).S ((sReuse g).2).B)))) ⟨hx, hb, hml, hown, hts⟩ (M_reuse l D cI cL cC cB cZ cR H.size ma w g hU hG) ⟨callB_of 0 hts (x_good kw_932) rfl rfl rfl (hts _ kw_9) (hts _ kw_929) dc_X8_reuse ⟨Nat.le_of_ble_eq_true rfl, Nat.le_of_ble_eq_true rfl⟩, hts _ kw_930, hts _ kw_931⟩ (q0 := 1) rfl rfl rfl rfl hl.1 rfl (Nat.le_of_ble_eq_true rfl) dL_law_896 ⟨Nat.le_of_succ_le hcl, Nat.le_trans (Nat.le_add_right _ 6) hsl⟩ hN hK hP hD hS hA [1, 2, 3, 4, 5, 6, 7, 8, 9, 10, 11, 12, 13] [0, 14, 15, 16, 17, 18, 19, 20, 21, 22, 23, 24, 25, 26, 27, 28, 29, 30, 31, 32, 33, 34, 35, 36, 37, 38, 39, 40, 41, 42, 43] rfl rfl (by decide) (by decide) (by decide) (fun r896 u896 H locs q896 hP hD hS => ?_)
  obtain ⟨w1, rfl⟩ : ∃ z, z = u896 := ⟨_, rfl⟩
  have hP : va_P D vwCl (([(oc, .inl (cL, 1, .inr (.inl fo9)))] : va_W) ++ (kB cL cC cB cR ka z1 ++ rgs (kR ka ((sReuse g).2).C ((sReuse g).2).S ((sReuse g).2).B)) ++ (mB cI cC cZ ma w1)) H := hP
  have hD : va_D A (([(oc, .inl (cL, 1, .inr (.inl fo9)))] : va_W) ++ (kB cL cC cB cR ka z1 ++ rgs (kR ka ((sReuse g).2).C ((sReuse g).2).S ((sReuse g).2).B)) ++ (mB cI cC cZ ma w1)) := hD
  obtain ⟨rfl, hU1⟩ := q896
  refine lv_icmp_eq (tgt := 904) (pc := 899) hx hb dL_law_899 (by decide) (fun h899 => ?_) (fun h899 => absurd h899 (fun q9 => q9 rfl))
  have hP := x_Psub (w := ((kB cL cC cB cR ka z1 ++ rgs (kR ka ((sReuse g).2).C ((sReuse g).2).S ((sReuse g).2).B)) ++ ([(oc, .inl (cL, 1, .inr (.inl fo9)))] : va_W) ++ (mB cI cC cZ ma w1))) (is := [1, 2, 3, 4, 5, 6, 7, 8, 9, 10, 11, 12, 13, 14, 15, 16, 17, 18, 19, 20, 21, 22, 23, 24, 25, 26, 27, 28, 29, 30, 0, 31, 32, 33, 34, 35, 36, 37, 38, 39, 40, 41, 42, 43]) hP rfl
  have hD := hD.sub (ws' := ((kB cL cC cB cR ka z1 ++ rgs (kR ka ((sReuse g).2).C ((sReuse g).2).S ((sReuse g).2).B)) ++ ([(oc, .inl (cL, 1, .inr (.inl fo9)))] : va_W) ++ (mB cI cC cZ ma w1))) [1, 2, 3, 4, 5, 6, 7, 8, 9, 10, 11, 12, 13, 14, 15, 16, 17, 18, 19, 20, 21, 22, 23, 24, 25, 26, 27, 28, 29, 30, 0, 31, 32, 33, 34, 35, 36, 37, 38, 39, 40, 41, 42, 43] (by decide) rfl
  refine W.widen (k := cells + 1) (n := slots + 6) (Nat.le_succ _) (Nat.le_add_right _ 6) ?_
  exact kk z1 w1 ((sReuse g).2) fo9 H locs ls hk1 hU1 (sReuse_ok hG) hP hD hS hl
