/-! the law's loop -/
theorem lp_cmp {i L : Nat} (hL : L ≤ 3584) (hi : i ≤ 3600) : (nI L - nI 7 < nI i) ↔ ¬ (i + 7 ≤ L) := by
  by_cases c : 7 ≤ L
  · rw [pk_sub c, nI_ltI (by omega) (by omega)]; omega
  · have h1 : ∀ k, k < 7 → nI k - nI 7 < nI 0 := by decide
    have h2 : ¬ nI i < nI 0 := by rw [nI_ltI (by omega) (by omega)]; omega
    have h3 := h1 L (by omega)
    constructor
    · intro _; omega
    · intro _; exact Int32.lt_of_lt_of_le h3 (Int32.not_lt.mp h2)
theorem sw_and (x : Int32) : x &&& nI 31 = nI (iN x % 32) := by
  have h := pk_andN (n := iN x) (iN_lt x) (m := nI 31) 5 (by decide)
  rw [nI_iN] at h
  exact h
theorem x_inc7 (j : Nat) : nI (7 * j) + Int32.ofInt 7 = nI (7 * (j + 1)) := by
  have h : Int32.ofInt 7 = nI 7 := by decide +kernel
  rw [h, nI_add]; rfl
theorem lw_head {p : Program} {l : Launch} {e : Env} {s : State} {m : MethodId} {below : List Frame} {meth : Method} {c : Code} {b L : Nat} {xs : Nat → Int32} {A : Nat → Prop} {D : va_G} {cI cL cC cB cZ cR : ClassId} {N0 : Nat} {ka : kA} {ma : mA} {oc cells slots : Nat} {Q : State → Prop} (hC : lwC p l s m c b L xs A D cI cL cC cB cZ cR N0 ka) {i : Nat} (hi : i ≤ 3600) {H : Heap} {locs : List Loc} {ls : Array Slot} (hS : va_S A s.heap H locs) (hl : lv_has ls 7 [(0, .ref b), (1, .ref ka.k9), (2, .ref ma.m9), (3, .ref oc), (4, .int (nI i))]) (k1 : i + 7 ≤ L → W p l e room_1 s m #[Value.ref b] below meth c H locs cells slots Q (F0 m 33 ls [])) (k2 : ¬ (i + 7 ≤ L) → W p l e room_1 s m #[Value.ref b] below meth c H locs cells slots Q (F0 m 910 ls [])) : W p l e room_1 s m #[Value.ref b] below meth c H locs cells slots Q (F0 m 23 ls []) := by
  obtain ⟨⟨hx, hb, hml, hown, hts⟩, hN, hX, hA0, hA, hK, htr, hra, hXs, hbl, hbA, hL9⟩ := hC
  have hb : c.code = bL_law := hb
  refine lv_iload (pc := 23) hx hb dL_law_23 (lv_at hl 4 rfl) ?_
  refine lv_aload_n (pc := 25) hx hb dL_law_25 rfl (lv_at hl 0 rfl) ?_
  refine x_slen (pc := 26) hx hb hXs hbl hbA hS dL_law_26 ?_
  refine lv_bipush (v := nI 7) (pc := 27) hx hb dL_law_27 (by decide +kernel) ?_
  refine lv_isub (pc := 29) hx hb dL_law_29 ?_
  exact lv_icmp_gt (tgt := 910) (pc := 30) hx hb dL_law_30 (by decide) (fun h => k2 ((lp_cmp hL9 hi).mp h)) (fun h => k1 (Classical.byContradiction (fun q => h ((lp_cmp hL9 hi).mpr q))))
theorem lw_body {p : Program} {l : Launch} {e : Env} {s : State} {m : MethodId} {below : List Frame} {meth : Method} {c : Code} {b L : Nat} {xs : Nat → Int32} {A : Nat → Prop} {D : va_G} {cI cL cC cB cZ cR : ClassId} {N0 : Nat} {ka : kA} {ma : mA} {oc cells slots : Nat} {Q : State → Prop} (hC : lwC p l s m c b L xs A D cI cL cC cB cZ cR N0 ka) {i : Nat} (hi : i + 7 ≤ L) {z : kS} {w : mS} {g : gS} {fo9 : Nat → Int64} {H : Heap} {locs : List Loc} {ls : Array Slot} (hk : kU z g) (hU : mU w g) (hG : gOk g) (hP : va_P D vwCl (lwW cI cL cC cB cZ cR ka ma oc z w g fo9) H) (hD : va_D A (lwW cI cL cC cB cZ cR ka ma oc z w g fo9)) (hS : va_S A s.heap H locs) (hl : lv_has ls 7 [(0, .ref b), (1, .ref ka.k9), (2, .ref ma.m9), (3, .ref oc), (4, .int (nI i))]) (hcl : cells + 1 ≤ room_1.cells) (hsl : slots + 6 ≤ room_1.slots) (kk : lwK p l e s m below meth c b A D cI cL cC cB cZ cR ka ma oc i (cells + 1) (slots + 6) Q 904) : W p l e room_1 s m #[Value.ref b] below meth c H locs cells slots Q (F0 m 33 ls []) := by
  have hC9 := hC
  obtain ⟨⟨hx, hb, hml, hown, hts⟩, hN, hX, hA0, hA, hK, htr, hra, hXs, hbl, hbA, hL9⟩ := hC
  have hb : c.code = bL_law := hb
  refine lv_aload_n (pc := 33) hx hb dL_law_33 rfl (lv_at hl 0 rfl) ?_
  refine lv_iload (pc := 34) hx hb dL_law_34 (lv_at hl 4 rfl) ?_
  refine x_sld (k := i) (pc := 36) hx hb hXs hbl hbA hS (by omega) (by omega) dL_law_36 ?_
  refine lv_bipush (v := nI 31) (pc := 37) hx hb dL_law_37 (by decide +kernel) ?_
  refine lv_iand (pc := 39) hx hb dL_law_39 ?_
  refine x_i (y := nI (iN (xs i) % 32)) (sw_and _) ?_
  generalize hv : iN (xs i) % 32 = v
  have hv2 : v < 32 := by omega
  by_cases hc : v ≤ 16
  · rcases (show v = 0 ∨ v = 1 ∨ v = 2 ∨ v = 3 ∨ v = 4 ∨ v = 5 ∨ v = 6 ∨ v = 7 ∨ v = 8 ∨ v = 9 ∨ v = 10 ∨ v = 11 ∨ v = 12 ∨ v = 13 ∨ v = 14 ∨ v = 15 ∨ v = 16 by omega) with rfl | rfl | rfl | rfl | rfl | rfl | rfl | rfl | rfl | rfl | rfl | rfl | rfl | rfl | rfl | rfl | rfl
    · refine lv_tableIn (x := nI 0) (off := 84) (tgt := 124) (pc := 40) hx hb dL_law_40 (by decide +kernel) (by decide +kernel) (by decide +kernel) (by decide) ?_
      exact lw_case0 hC9 hi hk hU hG hP hD hS hl hcl hsl kk
    · refine lv_tableIn (x := nI 1) (off := 218) (tgt := 258) (pc := 40) hx hb dL_law_40 (by decide +kernel) (by decide +kernel) (by decide +kernel) (by decide) ?_
      exact lw_case1 hC9 hi hk hU hG hP hD hS hl hcl hsl kk
    · refine lv_tableIn (x := nI 2) (off := 244) (tgt := 284) (pc := 40) hx hb dL_law_40 (by decide +kernel) (by decide +kernel) (by decide +kernel) (by decide) ?_
      exact lw_case2 hC9 hi hk hU hG hP hD hS hl hcl hsl kk
    · refine lv_tableIn (x := nI 3) (off := 269) (tgt := 309) (pc := 40) hx hb dL_law_40 (by decide +kernel) (by decide +kernel) (by decide +kernel) (by decide) ?_
      exact lw_case3 hC9 hi hk hU hG hP hD hS hl hcl hsl kk
    · refine lv_tableIn (x := nI 4) (off := 294) (tgt := 334) (pc := 40) hx hb dL_law_40 (by decide +kernel) (by decide +kernel) (by decide +kernel) (by decide) ?_
      exact lw_case4 hC9 hi hk hU hG hP hD hS hl hcl hsl kk
    · refine lv_tableIn (x := nI 5) (off := 319) (tgt := 359) (pc := 40) hx hb dL_law_40 (by decide +kernel) (by decide +kernel) (by decide +kernel) (by decide) ?_
      exact lw_case5 hC9 hi hk hU hG hP hD hS hl hcl hsl kk
    · refine lv_tableIn (x := nI 6) (off := 391) (tgt := 431) (pc := 40) hx hb dL_law_40 (by decide +kernel) (by decide +kernel) (by decide +kernel) (by decide) ?_
      exact lw_case6 hC9 hi hk hU hG hP hD hS hl hcl hsl kk
    · refine lv_tableIn (x := nI 7) (off := 452) (tgt := 492) (pc := 40) hx hb dL_law_40 (by decide +kernel) (by decide +kernel) (by decide +kernel) (by decide) ?_
      exact lw_case7 hC9 hi hk hU hG hP hD hS hl hcl hsl kk
    · refine lv_tableIn (x := nI 8) (off := 524) (tgt := 564) (pc := 40) hx hb dL_law_40 (by decide +kernel) (by decide +kernel) (by decide +kernel) (by decide) ?_
      exact lw_case8 hC9 hi hk hU hG hP hD hS hl hcl hsl kk
    · refine lv_tableIn (x := nI 9) (off := 572) (tgt := 612) (pc := 40) hx hb dL_law_40 (by decide +kernel) (by decide +kernel) (by decide +kernel) (by decide) ?_
      exact lw_case9 hC9 hi hk hU hG hP hD hS hl hcl hsl kk
    · refine lv_tableIn (x := nI 10) (off := 640) (tgt := 680) (pc := 40) hx hb dL_law_40 (by decide +kernel) (by decide +kernel) (by decide +kernel) (by decide) ?_
      exact lw_case10 hC9 hi hk hU hG hP hD hS hl hcl hsl kk
    · refine lv_tableIn (x := nI 11) (off := 667) (tgt := 707) (pc := 40) hx hb dL_law_40 (by decide +kernel) (by decide +kernel) (by decide +kernel) (by decide) ?_
      exact lw_case11 hC9 hi hk hU hG hP hD hS hl hcl hsl kk
    · refine lv_tableIn (x := nI 12) (off := 678) (tgt := 718) (pc := 40) hx hb dL_law_40 (by decide +kernel) (by decide +kernel) (by decide +kernel) (by decide) ?_
      exact lw_case12 hC9 hi hk hU hG hP hD hS hl hcl hsl kk
    · refine lv_tableIn (x := nI 13) (off := 714) (tgt := 754) (pc := 40) hx hb dL_law_40 (by decide +kernel) (by decide +kernel) (by decide +kernel) (by decide) ?_
      exact lw_case13 hC9 hi hk hU hG hP hD hS hl hcl hsl kk
    · refine lv_tableIn (x := nI 14) (off := 770) (tgt := 810) (pc := 40) hx hb dL_law_40 (by decide +kernel) (by decide +kernel) (by decide +kernel) (by decide) ?_
      exact lw_case14 hC9 hi hk hU hG hP hD hS hl hcl hsl kk
    · refine lv_tableIn (x := nI 15) (off := 826) (tgt := 866) (pc := 40) hx hb dL_law_40 (by decide +kernel) (by decide +kernel) (by decide +kernel) (by decide) ?_
      exact lw_case15 hC9 hi hk hU hG hP hD hS hl hcl hsl kk
    · refine lv_tableIn (x := nI 16) (off := 851) (tgt := 891) (pc := 40) hx hb dL_law_40 (by decide +kernel) (by decide +kernel) (by decide +kernel) (by decide) ?_
      exact lw_case16 hC9 hi hk hU hG hP hD hS hl hcl hsl kk
  · refine lv_tableOut (tgt := 904) (pc := 40) hx hb dL_law_40 (Or.inr (by rw [nI_toInt (by omega)]; omega)) (by decide) ?_
    refine W.widen (k := cells + 1) (n := slots + 6) (Nat.le_succ _) (Nat.le_add_right _ 6) ?_
    exact kk z w g fo9 H locs ls hk hU hG hP hD hS hl
theorem lw_loop {p : Program} {l : Launch} {e : Env} {s : State} {m : MethodId} {below : List Frame} {meth : Method} {c : Code} {b L : Nat} {xs : Nat → Int32} {A : Nat → Prop} {D : va_G} {cI cL cC cB cZ cR : ClassId} {ka : kA} {ma : mA} {oc : Nat} (hC : lwC p l s m c b L xs A D cI cL cC cB cZ cR s.heap.size ka) (hr : meth.sig.returnType = ret) (hlk : meth.locks = false) : ∀ (n j : Nat) (z : kS) (w : mS) (g : gS) (fo9 : Nat → Int64) (H : Heap) (locs : List Loc) (ls : Array Slot) (cells slots : Nat), L ≤ 7 * (j + n) + 6 → 7 * j ≤ 3600 → cells ≤ 1000 + j → slots ≤ 10000 + 6 * j → kU z g → mU w g → gOk g → va_P D vwCl (lwW cI cL cC cB cZ cR ka ma oc z w g fo9) H → va_D A (lwW cI cL cC cB cZ cR ka ma oc z w g fo9) → va_S A s.heap H locs → lv_has ls 7 [(0, .ref b), (1, .ref ka.k9), (2, .ref ma.m9), (3, .ref oc), (4, .int (nI (7 * j)))] → W p l e room_1 s m #[Value.ref b] below meth c H locs cells slots (lw_Z below #[Value.ref b] s) (F0 m 23 ls []) := by
  intro n
  induction n with
  | zero =>
    intro j z w g fo9 H locs ls cells slots hn hj hc hs hk hU hG hP hD hS hl
    refine lw_head hC hj hS hl (fun h => absurd h (by omega)) (fun _ => ?_)
    obtain ⟨⟨hx, hb, hml, hown, hts⟩, hN, hX, hA0, hA, hK, htr, hra, hXs, hbl, hbA, hL9⟩ := hC
    have hb : c.code = bL_law := hb
    refine lv_iconst (v := nI 1) (pc := 910) hx hb dL_law_910 kI_1 ?_
    refine va_forget (fun q hq => hA0 _ (hS.2.2 q hq)) ?_
    refine W.widen (k := 604760) (n := 7281825) (by omega) (by omega) ?_
    exact lw_ret hx hb hr hlk dL_law_911
  | succ n ih =>
    intro j z w g fo9 H locs ls cells slots hn hj hc hs hk hU hG hP hD hS hl
    have hC9 := hC
    obtain ⟨⟨hx, hb, hml, hown, hts⟩, hN, hX, hA0, hA, hK, htr, hra, hXs, hbl, hbA, hL9⟩ := hC
    have hb : c.code = bL_law := hb
    refine lw_head hC9 hj hS hl (fun h => ?_) (fun _ => ?_)
    · refine lw_body hC9 h hk hU hG hP hD hS hl (show cells + 1 ≤ 604760 by omega) (show slots + 6 ≤ 7281825 by omega) ?_
      intro z w g fo9 H locs ls hk hU hG hP hD hS hl
      refine lv_iinc (k := 4) (v := nI (7 * (j + 1))) (pc := 904) (lv' := [(4, .int (nI (7 * (j + 1)))), (0, .ref b), (1, .ref ka.k9), (2, .ref ma.m9), (3, .ref oc)]) hx hb dL_law_904 hl rfl (x_inc7 j) (by decide) rfl (fun ls hl => ?_)
      refine lv_goto (tgt := 23) (pc := 907) hx hb dL_law_907 (by decide) ?_
      have hl := lv_sub (l' := [(0, .ref b), (1, .ref ka.k9), (2, .ref ma.m9), (3, .ref oc), (4, .int (nI (7 * (j + 1))))]) hl [1, 2, 3, 4, 0] rfl
      exact ih (j + 1) z w g fo9 H locs ls (cells + 1) (slots + 6) (by omega) (by omega) (by omega) (by omega) hk hU hG hP hD hS hl
    · refine lv_iconst (v := nI 1) (pc := 910) hx hb dL_law_910 kI_1 ?_
      refine va_forget (fun q hq => hA0 _ (hS.2.2 q hq)) ?_
      refine W.widen (k := 604760) (n := 7281825) (by omega) (by omega) ?_
      exact lw_ret hx hb hr hlk dL_law_911
