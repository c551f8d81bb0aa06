set_option maxHeartbeats 4000000 in
set_option maxRecDepth 100000 in
theorem lw_case0 {p : Program} {l : Launch} {e : Env} {s : State} {m : MethodId} {below : List Frame} {meth : Method} {c : Code} {b L : Nat} {xs : Nat → Int32} {A : Nat → Prop} {D : va_G} {cI cL cC cB cZ cR : ClassId} {N0 : Nat} {ka : kA} {ma : mA} {oc cells slots : Nat} {Q : State → Prop} (hC : lwC p l s m c b L xs A D cI cL cC cB cZ cR N0 ka) {i : Nat} (hi : i + 7 ≤ L) {z : kS} {w : mS} {g : gS} {fo9 : Nat → Int64} {H : Heap} {locs : List Loc} {ls : Array Slot} (hk : kU z g) (hU : mU w g) (hG : gOk g) (hP : va_P D vwCl (lwW cI cL cC cB cZ cR ka ma oc z w g fo9) H) (hD : va_D A (lwW cI cL cC cB cZ cR ka ma oc z w g fo9)) (hS : va_S A s.heap H locs) (hl : lv_has ls 7 [(0, .ref b), (1, .ref ka.k9), (2, .ref ma.m9), (3, .ref oc), (4, .int (nI i))]) (hcl : cells + 1 ≤ room_1.cells) (hsl : slots + 6 ≤ room_1.slots) (kk : lwK p l e s m below meth c b A D cI cL cC cB cZ cR ka ma oc i (cells + 1) (slots + 6) Q 904) : W p l e room_1 s m #[Value.ref b] below meth c H locs cells slots Q (F0 m 124 ls []) := by
  obtain ⟨⟨hx, hb, hml, hown, hts⟩, hN, hX, hA0, hA, hK, htr, hra, hXs, hbl, hbA, hL9⟩ := hC
  have hb : c.code = bL_law := hb
  have hP : va_P D vwCl ((kB cL cC cB cR ka z ++ rgs (kR ka g.C g.S g.B)) ++ ([(oc, .inl (cL, 1, .inr (.inl fo9)))] : va_W) ++ (mB cI cC cZ ma w)) H := hP
  have hD : va_D A ((kB cL cC cB cR ka z ++ rgs (kR ka g.C g.S g.B)) ++ ([(oc, .inl (cL, 1, .inr (.inl fo9)))] : va_W) ++ (mB cI cC cZ ma w)) := hD
  refine lv_aload_n (pc := 124) hx hb dL_law_124 rfl (lv_at hl 1 rfl) ?_
  refine lv_aload_n (pc := 125) hx hb dL_law_125 rfl (lv_at hl 0 rfl) ?_
  refine lv_iload (pc := 126) hx hb dL_law_126 (lv_at hl 4 rfl) ?_
  refine lv_iconst (v := nI 1) (pc := 128) hx hb dL_law_128 kI_1 ?_
  refine lv_iadd (pc := 129) hx hb dL_law_129 ?_
  refine x_i (y := nI (i + 1)) (nI_add _ _) ?_
  refine x_sld (k := i + 1) (pc := 130) hx hb hXs hbl hbA hS (by omega) (by omega) dL_law_130 ?_
  refine lv_aload_n (pc := 131) hx hb dL_law_131 rfl (lv_at hl 0 rfl) ?_
  refine lv_iload (pc := 132) hx hb dL_law_132 (lv_at hl 4 rfl) ?_
  refine lv_iconst (v := nI 2) (pc := 134) hx hb dL_law_134 kI_2 ?_
  refine lv_iadd (pc := 135) hx hb dL_law_135 ?_
  refine x_i (y := nI (i + 2)) (nI_add _ _) ?_
  refine x_sld (k := i + 2) (pc := 136) hx hb hXs hbl hbA hS (by omega) (by omega) dL_law_136 ?_
  refine lv_i2l (v := (xs (i + 2)).toInt64) (pc := 137) hx hb dL_law_137 rfl ?_
  refine lv_bipush (v := nI 32) (pc := 138) hx hb dL_law_138 (by decide +kernel) ?_
  refine lv_lshl (v := ((xs (i + 2)).toInt64) <<< ((nI 32).toInt64 &&& 63)) (pc := 140) hx hb dL_law_140 rfl ?_
  refine lv_aload_n (pc := 141) hx hb dL_law_141 rfl (lv_at hl 0 rfl) ?_
  refine lv_iload (pc := 142) hx hb dL_law_142 (lv_at hl 4 rfl) ?_
  refine lv_iconst (v := nI 3) (pc := 144) hx hb dL_law_144 kI_3 ?_
  refine lv_iadd (pc := 145) hx hb dL_law_145 ?_
  refine x_i (y := nI (i + 3)) (nI_add _ _) ?_
  refine x_sld (k := i + 3) (pc := 146) hx hb hXs hbl hbA hS (by omega) (by omega) dL_law_146 ?_
  refine lv_i2l (v := (xs (i + 3)).toInt64) (pc := 147) hx hb dL_law_147 rfl ?_
  refine lv_ldc2 (v := (4294967295 : Int64)) (pc := 148) hx hb hown (hts _ kw_933) dL_law_148 ?_
  refine x_l (y := lN 4294967295) rfl ?_
  refine lv_land (pc := 151) hx hb dL_law_151 ?_
  refine lv_lor (pc := 152) hx hb dL_law_152 ?_
  refine lv_aload_n (pc := 153) hx hb dL_law_153 rfl (lv_at hl 0 rfl) ?_
  refine lv_iload (pc := 154) hx hb dL_law_154 (lv_at hl 4 rfl) ?_
  refine lv_iconst (v := nI 4) (pc := 156) hx hb dL_law_156 kI_4 ?_
  refine lv_iadd (pc := 157) hx hb dL_law_157 ?_
  refine x_i (y := nI (i + 4)) (nI_add _ _) ?_
  refine x_sld (k := i + 4) (pc := 158) hx hb hXs hbl hbA hS (by omega) (by omega) dL_law_158 ?_
  refine lv_aload_n (pc := 159) hx hb dL_law_159 rfl (lv_at hl 0 rfl) ?_
  refine lv_iload (pc := 160) hx hb dL_law_160 (lv_at hl 4 rfl) ?_
  refine lv_iconst (v := nI 5) (pc := 162) hx hb dL_law_162 kI_5 ?_
  refine lv_iadd (pc := 163) hx hb dL_law_163 ?_
  refine x_i (y := nI (i + 5)) (nI_add _ _) ?_
  refine x_sld (k := i + 5) (pc := 164) hx hb hXs hbl hbA hS (by omega) (by omega) dL_law_164 ?_
  refine lv_aload_n (pc := 165) hx hb dL_law_165 rfl (lv_at hl 0 rfl) ?_
  refine lv_iload (pc := 166) hx hb dL_law_166 (lv_at hl 4 rfl) ?_
  refine lv_bipush (v := nI 6) (pc := 168) hx hb dL_law_168 (by decide +kernel) ?_
  refine lv_iadd (pc := 170) hx hb dL_law_170 ?_
  refine x_i (y := nI (i + 6)) (nI_add _ _) ?_
  refine x_sld (k := i + 6) (pc := 171) hx hb hXs hbl hbA hS (by omega) (by omega) dL_law_171 ?_
  refine lv_if_eq (tgt := 179) (pc := 172) hx hb dL_law_172 (by decide) (fun h6 => ?_) (fun h6 => ?_)
  · refine lv_iconst (v := nI 0) (pc := 179) hx hb dL_law_179 kI_0 ?_
    refine x_SWi (pc := 180) (As := [.ref ka.k9, .int (xs (i + 1)), .long ((((xs (i + 2)).toInt64) <<< ((nI 32).toInt64 &&& 63)) ||| (((xs (i + 3)).toInt64) &&& (lN 4294967295))), .int (xs (i + 4)), .int (xs (i + 5)), .int (nI 0)]) (rest := []) (wr := (([(oc, .inl (cL, 1, .inr (.inl fo9)))] : va_W) ++ (mB cI cC cZ ma w))) (N0 := N0) (hh := [(0, 12, 15, 13)]) ⟨hx, hb, hml, hown, hts⟩ (U_set l D cI cL cC cB cZ cR H.size N0 ka z g (xs (i + 1)) ((((xs (i + 2)).toInt64) <<< ((nI 32).toInt64 &&& 63)) ||| (((xs (i + 3)).toInt64) &&& (lN 4294967295))) (xs (i + 4)) (xs (i + 5)) (nI 0) hra hk hG (by decide +kernel) (x_N0 hD hA0 [0, 1, 2, 3, 4, 5, 6, 7, 8, 9, 10, 11, 12, 13, 14, 15, 16, 17, 18, 19, 20, 21, 22, 23, 24, 25, 26, 27, 28, 29] rfl) htr) ⟨rfl, rfl, Nat.le_of_ble_eq_true rfl, Nat.le_of_ble_eq_true rfl⟩ (pay_in hts (x_good kw_446)) List.mem_cons_self (hts _ kw_446) (hts _ kw_0) dc_L_set (hts _ kw_444) (hts _ kw_445) rfl hl.1 rfl (Nat.le_of_ble_eq_true rfl) dL_law_180 ⟨hcl, hsl⟩ hN hK hP hD hS hA [0, 1, 2, 3, 4, 5, 6, 7, 8, 9, 10, 11, 12, 13, 14, 15, 16, 17, 18, 19, 20, 21, 22, 23, 24, 25, 26, 27, 28, 29] [30, 31, 32, 33, 34, 35, 36, 37, 38, 39, 40, 41, 42, 43] rfl rfl (by decide) (by decide) (by decide) hX rfl hA0 (fun r180 u180 H locs q180 hP hD hS => ?_)
    obtain ⟨z1, rfl⟩ : ∃ z, z = u180 := ⟨_, rfl⟩
    have hP : va_P D vwCl (([(oc, .inl (cL, 1, .inr (.inl fo9)))] : va_W) ++ (mB cI cC cZ ma w) ++ (kB cL cC cB cR ka z1 ++ rgs (kR ka ((sSet g (xs (i + 1)) ((((xs (i + 2)).toInt64) <<< ((nI 32).toInt64 &&& 63)) ||| (((xs (i + 3)).toInt64) &&& (lN 4294967295))) (xs (i + 4)) (xs (i + 5)) (nI 0)).2).C ((sSet g (xs (i + 1)) ((((xs (i + 2)).toInt64) <<< ((nI 32).toInt64 &&& 63)) ||| (((xs (i + 3)).toInt64) &&& (lN 4294967295))) (xs (i + 4)) (xs (i + 5)) (nI 0)).2).S ((sSet g (xs (i + 1)) ((((xs (i + 2)).toInt64) <<< ((nI 32).toInt64 &&& 63)) ||| (((xs (i + 3)).toInt64) &&& (lN 4294967295))) (xs (i + 4)) (xs (i + 5)) (nI 0)).2).B))) H := hP
    have hD : va_D A (([(oc, .inl (cL, 1, .inr (.inl fo9)))] : va_W) ++ (mB cI cC cZ ma w) ++ (kB cL cC cB cR ka z1 ++ rgs (kR ka ((sSet g (xs (i + 1)) ((((xs (i + 2)).toInt64) <<< ((nI 32).toInt64 &&& 63)) ||| (((xs (i + 3)).toInt64) &&& (lN 4294967295))) (xs (i + 4)) (xs (i + 5)) (nI 0)).2).C ((sSet g (xs (i + 1)) ((((xs (i + 2)).toInt64) <<< ((nI 32).toInt64 &&& 63)) ||| (((xs (i + 3)).toInt64) &&& (lN 4294967295))) (xs (i + 4)) (xs (i + 5)) (nI 0)).2).S ((sSet g (xs (i + 1)) ((((xs (i + 2)).toInt64) <<< ((nI 32).toInt64 &&& 63)) ||| (((xs (i + 3)).toInt64) &&& (lN 4294967295))) (xs (i + 4)) (xs (i + 5)) (nI 0)).2).B))) := hD
    obtain ⟨rfl, hk1⟩ := q180
    refine lv_istore (pc := 183) (lv' := [(5, .int (nI ((sSet g (xs (i + 1)) ((((xs (i + 2)).toInt64) <<< ((nI 32).toInt64 &&& 63)) ||| (((xs (i + 3)).toInt64) &&& (lN 4294967295))) (xs (i + 4)) (xs (i + 5)) (nI 0)).1))), (0, .ref b), (1, .ref ka.k9), (2, .ref ma.m9), (3, .ref oc), (4, .int (nI i))]) hx hb dL_law_183 hl (by decide) rfl (fun ls hl => ?_)
    refine lv_aload_n (pc := 185) hx hb dL_law_185 rfl (lv_at hl 3 rfl) ?_
    refine lv_aload_n (pc := 186) hx hb dL_law_186 rfl (lv_at hl 1 rfl) ?_
    refine lv_iload (pc := 187) hx hb dL_law_187 (lv_at hl 5 rfl) ?_
    refine lv_iconst (v := nI 1) (pc := 189) hx hb dL_law_189 kI_1 ?_
    refine lv_iadd (pc := 190) hx hb dL_law_190 ?_
    refine x_i (y := nI (i + 1)) (nI_add _ _) ?_
    refine x_sld (k := i + 1) (pc := 191) hx hb hXs hbl hbA hS (by omega) (by omega) dL_law_191 ?_
    refine lv_aload_n (pc := 192) hx hb dL_law_192 rfl (lv_at hl 1 rfl) ?_
    refine lv_iload (pc := 193) hx hb dL_law_193 (lv_at hl 5 rfl) ?_
    refine lv_iconst (v := nI 2) (pc := 195) hx hb dL_law_195 kI_2 ?_
    refine lv_iadd (pc := 196) hx hb dL_law_196 ?_
    refine x_i (y := nI (i + 2)) (nI_add _ _) ?_
    refine x_sld (k := i + 2) (pc := 197) hx hb hXs hbl hbA hS (by omega) (by omega) dL_law_197 ?_
    refine lv_i2l (v := (xs (i + 2)).toInt64) (pc := 198) hx hb dL_law_198 rfl ?_
    refine lv_bipush (v := nI 32) (pc := 199) hx hb dL_law_199 (by decide +kernel) ?_
    refine lv_lshl (v := ((xs (i + 2)).toInt64) <<< ((nI 32).toInt64 &&& 63)) (pc := 201) hx hb dL_law_201 rfl ?_
    refine lv_aload_n (pc := 202) hx hb dL_law_202 rfl (lv_at hl 1 rfl) ?_
    refine lv_iload (pc := 203) hx hb dL_law_203 (lv_at hl 5 rfl) ?_
    refine lv_iconst (v := nI 3) (pc := 205) hx hb dL_law_205 kI_3 ?_
    refine lv_iadd (pc := 206) hx hb dL_law_206 ?_
    refine x_i (y := nI (i + 3)) (nI_add _ _) ?_
    refine x_sld (k := i + 3) (pc := 207) hx hb hXs hbl hbA hS (by omega) (by omega) dL_law_207 ?_
    refine lv_i2l (v := (xs (i + 3)).toInt64) (pc := 208) hx hb dL_law_208 rfl ?_
    refine lv_ldc2 (v := (4294967295 : Int64)) (pc := 209) hx hb hown (hts _ kw_933) dL_law_209 ?_
    refine x_l (y := lN 4294967295) rfl ?_
    refine lv_land (pc := 212) hx hb dL_law_212 ?_
    refine lv_lor (pc := 213) hx hb dL_law_213 ?_
    refine lv_aload_n (pc := 214) hx hb dL_law_214 rfl (lv_at hl 1 rfl) ?_
    refine lv_iload (pc := 215) hx hb dL_law_215 (lv_at hl 5 rfl) ?_
    refine lv_iconst (v := nI 4) (pc := 217) hx hb dL_law_217 kI_4 ?_
    refine lv_iadd (pc := 218) hx hb dL_law_218 ?_
    refine x_i (y := nI (i + 4)) (nI_add _ _) ?_
    refine x_sld (k := i + 4) (pc := 219) hx hb hXs hbl hbA hS (by omega) (by omega) dL_law_219 ?_
    refine lv_aload_n (pc := 220) hx hb dL_law_220 rfl (lv_at hl 1 rfl) ?_
    refine lv_iload (pc := 221) hx hb dL_law_221 (lv_at hl 5 rfl) ?_
    refine lv_iconst (v := nI 5) (pc := 223) hx hb dL_law_223 kI_5 ?_
    refine lv_iadd (pc := 224) hx hb dL_law_224 ?_
    refine x_i (y := nI (i + 5)) (nI_add _ _) ?_
    refine x_sld (k := i + 5) (pc := 225) hx hb hXs hbl hbA hS (by omega) (by omega) dL_law_225 ?_
    refine lv_aload_n (pc := 226) hx hb dL_law_226 rfl (lv_at hl 1 rfl) ?_
    refine lv_iload (pc := 227) hx hb dL_law_227 (lv_at hl 5 rfl) ?_
    refine lv_bipush (v := nI 6) (pc := 229) hx hb dL_law_229 (by decide +kernel) ?_
    refine lv_iadd (pc := 231) hx hb dL_law_231 ?_
    refine x_i (y := nI (i + 6)) (nI_add _ _) ?_
    refine x_sld (k := i + 6) (pc := 232) hx hb hXs hbl hbA hS (by omega) (by omega) dL_law_232 ?_
    refine lv_if_eq (tgt := 240) (pc := 233) hx hb dL_law_233 (by decide) (fun h7 => ?_) (fun h7 => absurd h6 h7)
    refine lv_iconst (v := nI 0) (pc := 240) hx hb dL_law_240 kI_0 ?_
    refine x_Vv (pc := 241) (As := [.int (xs (i + 1)), .long ((((xs (i + 2)).toInt64) <<< ((nI 32).toInt64 &&& 63)) ||| (((xs (i + 3)).toInt64) &&& (lN 4294967295))), .int (xs (i + 4)), .int (xs (i + 5)), .int (nI 0)]) (rest := []) (b := ma.m9) (wr := (([(oc, .inl (cL, 1, .inr (.inl fo9)))] : va_W) ++ (kB cL cC cB cR ka z1 ++ rgs (kR ka ((sSet g (xs (i + 1)) ((((xs (i + 2)).toInt64) <<< ((nI 32).toInt64 &&& 63)) ||| (((xs (i + 3)).toInt64) &&& (lN 4294967295))) (xs (i + 4)) (xs (i + 5)) (nI 0)).2).C ((sSet g (xs (i + 1)) ((((xs (i + 2)).toInt64) <<< ((nI 32).toInt64 &&& 63)) ||| (((xs (i + 3)).toInt64) &&& (lN 4294967295))) (xs (i + 4)) (xs (i + 5)) (nI 0)).2).S ((sSet g (xs (i + 1)) ((((xs (i + 2)).toInt64) <<< ((nI 32).toInt64 &&& 63)) ||| (((xs (i + 3)).toInt64) &&& (lN 4294967295))) (xs (i + 4)) (xs (i + 5)) (nI 0)).2).B)))) ⟨hx, hb, hml, hown, hts⟩ (M_set l D cI cL cC cB cZ cR H.size ma w g (xs (i + 1)) ((((xs (i + 2)).toInt64) <<< ((nI 32).toInt64 &&& 63)) ||| (((xs (i + 3)).toInt64) &&& (lN 4294967295))) (xs (i + 4)) (xs (i + 5)) (nI 0) hU hG (by decide +kernel)) ⟨callB_of 5 hts (x_good kw_770) rfl rfl rfl (hts _ kw_9) (hts _ kw_767) dc_X8_set ⟨Nat.le_of_ble_eq_true rfl, Nat.le_of_ble_eq_true rfl⟩, hts _ kw_768, hts _ kw_769⟩ (q0 := 1) rfl rfl rfl rfl hl.1 rfl (Nat.le_of_ble_eq_true rfl) dL_law_241 ⟨hcl, hsl⟩ hN hK hP hD hS hA [1, 2, 3, 4, 5, 6, 7, 8, 9, 10, 11, 12, 13] [0, 14, 15, 16, 17, 18, 19, 20, 21, 22, 23, 24, 25, 26, 27, 28, 29, 30, 31, 32, 33, 34, 35, 36, 37, 38, 39, 40, 41, 42, 43] rfl rfl (by decide) (by decide) (by decide) (fun u241 H locs q241 hP hD hS => ?_)
    obtain ⟨w1, rfl⟩ : ∃ z, z = u241 := ⟨_, rfl⟩
    have hP : va_P D vwCl (([(oc, .inl (cL, 1, .inr (.inl fo9)))] : va_W) ++ (kB cL cC cB cR ka z1 ++ rgs (kR ka ((sSet g (xs (i + 1)) ((((xs (i + 2)).toInt64) <<< ((nI 32).toInt64 &&& 63)) ||| (((xs (i + 3)).toInt64) &&& (lN 4294967295))) (xs (i + 4)) (xs (i + 5)) (nI 0)).2).C ((sSet g (xs (i + 1)) ((((xs (i + 2)).toInt64) <<< ((nI 32).toInt64 &&& 63)) ||| (((xs (i + 3)).toInt64) &&& (lN 4294967295))) (xs (i + 4)) (xs (i + 5)) (nI 0)).2).S ((sSet g (xs (i + 1)) ((((xs (i + 2)).toInt64) <<< ((nI 32).toInt64 &&& 63)) ||| (((xs (i + 3)).toInt64) &&& (lN 4294967295))) (xs (i + 4)) (xs (i + 5)) (nI 0)).2).B)) ++ (mB cI cC cZ ma w1)) H := hP
    have hD : va_D A (([(oc, .inl (cL, 1, .inr (.inl fo9)))] : va_W) ++ (kB cL cC cB cR ka z1 ++ rgs (kR ka ((sSet g (xs (i + 1)) ((((xs (i + 2)).toInt64) <<< ((nI 32).toInt64 &&& 63)) ||| (((xs (i + 3)).toInt64) &&& (lN 4294967295))) (xs (i + 4)) (xs (i + 5)) (nI 0)).2).C ((sSet g (xs (i + 1)) ((((xs (i + 2)).toInt64) <<< ((nI 32).toInt64 &&& 63)) ||| (((xs (i + 3)).toInt64) &&& (lN 4294967295))) (xs (i + 4)) (xs (i + 5)) (nI 0)).2).S ((sSet g (xs (i + 1)) ((((xs (i + 2)).toInt64) <<< ((nI 32).toInt64 &&& 63)) ||| (((xs (i + 3)).toInt64) &&& (lN 4294967295))) (xs (i + 4)) (xs (i + 5)) (nI 0)).2).B)) ++ (mB cI cC cZ ma w1)) := hD
    obtain ⟨ht1, hU1⟩ := q241
    refine lv_aload_n (pc := 244) hx hb dL_law_244 rfl (lv_at hl 3 rfl) ?_
    refine x_Vi (pc := 245) (As := []) (rest := []) (b := ma.m9) (wr := (([(oc, .inl (cL, 1, .inr (.inl fo9)))] : va_W) ++ (kB cL cC cB cR ka z1 ++ rgs (kR ka ((sSet g (xs (i + 1)) ((((xs (i + 2)).toInt64) <<< ((nI 32).toInt64 &&& 63)) ||| (((xs (i + 3)).toInt64) &&& (lN 4294967295))) (xs (i + 4)) (xs (i + 5)) (nI 0)).2).C ((sSet g (xs (i + 1)) ((((xs (i + 2)).toInt64) <<< ((nI 32).toInt64 &&& 63)) ||| (((xs (i + 3)).toInt64) &&& (lN 4294967295))) (xs (i + 4)) (xs (i + 5)) (nI 0)).2).S ((sSet g (xs (i + 1)) ((((xs (i + 2)).toInt64) <<< ((nI 32).toInt64 &&& 63)) ||| (((xs (i + 3)).toInt64) &&& (lN 4294967295))) (xs (i + 4)) (xs (i + 5)) (nI 0)).2).B)))) ⟨hx, hb, hml, hown, hts⟩ (M_thrown l D cI cL cC cB cZ cR H.size ma w1 ((sSet g (xs (i + 1)) ((((xs (i + 2)).toInt64) <<< ((nI 32).toInt64 &&& 63)) ||| (((xs (i + 3)).toInt64) &&& (lN 4294967295))) (xs (i + 4)) (xs (i + 5)) (nI 0)).2) ((sSet g (xs (i + 1)) ((((xs (i + 2)).toInt64) <<< ((nI 32).toInt64 &&& 63)) ||| (((xs (i + 3)).toInt64) &&& (lN 4294967295))) (xs (i + 4)) (xs (i + 5)) (nI 0)).1) hU1 (sSet_ok hG (by decide +kernel)) ht1) ⟨callB_of 0 hts (x_good kw_766) rfl rfl rfl (hts _ kw_9) (hts _ kw_763) dc_X8_thrown ⟨Nat.le_of_ble_eq_true rfl, Nat.le_of_ble_eq_true rfl⟩, hts _ kw_764, hts _ kw_765⟩ (q0 := 31) rfl rfl rfl rfl hl.1 rfl (Nat.le_of_ble_eq_true rfl) dL_law_245 ⟨hcl, hsl⟩ hN hK hP hD hS hA [31, 32, 33, 34, 35, 36, 37, 38, 39, 40, 41, 42, 43] [0, 1, 2, 3, 4, 5, 6, 7, 8, 9, 10, 11, 12, 13, 14, 15, 16, 17, 18, 19, 20, 21, 22, 23, 24, 25, 26, 27, 28, 29, 30] rfl rfl (by decide) (by decide) (by decide) (fun r245 u245 H locs q245 hP hD hS => ?_)
    obtain ⟨w2, rfl⟩ : ∃ z, z = u245 := ⟨_, rfl⟩
    have hP : va_P D vwCl (([(oc, .inl (cL, 1, .inr (.inl fo9)))] : va_W) ++ (kB cL cC cB cR ka z1 ++ rgs (kR ka ((sSet g (xs (i + 1)) ((((xs (i + 2)).toInt64) <<< ((nI 32).toInt64 &&& 63)) ||| (((xs (i + 3)).toInt64) &&& (lN 4294967295))) (xs (i + 4)) (xs (i + 5)) (nI 0)).2).C ((sSet g (xs (i + 1)) ((((xs (i + 2)).toInt64) <<< ((nI 32).toInt64 &&& 63)) ||| (((xs (i + 3)).toInt64) &&& (lN 4294967295))) (xs (i + 4)) (xs (i + 5)) (nI 0)).2).S ((sSet g (xs (i + 1)) ((((xs (i + 2)).toInt64) <<< ((nI 32).toInt64 &&& 63)) ||| (((xs (i + 3)).toInt64) &&& (lN 4294967295))) (xs (i + 4)) (xs (i + 5)) (nI 0)).2).B)) ++ (mB cI cC cZ ma w2)) H := hP
    have hD : va_D A (([(oc, .inl (cL, 1, .inr (.inl fo9)))] : va_W) ++ (kB cL cC cB cR ka z1 ++ rgs (kR ka ((sSet g (xs (i + 1)) ((((xs (i + 2)).toInt64) <<< ((nI 32).toInt64 &&& 63)) ||| (((xs (i + 3)).toInt64) &&& (lN 4294967295))) (xs (i + 4)) (xs (i + 5)) (nI 0)).2).C ((sSet g (xs (i + 1)) ((((xs (i + 2)).toInt64) <<< ((nI 32).toInt64 &&& 63)) ||| (((xs (i + 3)).toInt64) &&& (lN 4294967295))) (xs (i + 4)) (xs (i + 5)) (nI 0)).2).S ((sSet g (xs (i + 1)) ((((xs (i + 2)).toInt64) <<< ((nI 32).toInt64 &&& 63)) ||| (((xs (i + 3)).toInt64) &&& (lN 4294967295))) (xs (i + 4)) (xs (i + 5)) (nI 0)).2).B)) ++ (mB cI cC cZ ma w2)) := hD
    obtain ⟨rfl, hU2⟩ := q245
    refine lv_iload (pc := 248) hx hb dL_law_248 (lv_at hl 0 rfl) ?_
    refine lv_icmp_eq (tgt := 255) (pc := 250) hx hb dL_law_250 (by decide) (fun h250 => ?_) (fun h250 => absurd h250 (fun q9 => q9 rfl))
    refine lv_goto (tgt := 904) (pc := 255) hx hb dL_law_255 (by decide) ?_
    have hP := x_Psub (w := ((kB cL cC cB cR ka z1 ++ rgs (kR ka ((sSet g (xs (i + 1)) ((((xs (i + 2)).toInt64) <<< ((nI 32).toInt64 &&& 63)) ||| (((xs (i + 3)).toInt64) &&& (lN 4294967295))) (xs (i + 4)) (xs (i + 5)) (nI 0)).2).C ((sSet g (xs (i + 1)) ((((xs (i + 2)).toInt64) <<< ((nI 32).toInt64 &&& 63)) ||| (((xs (i + 3)).toInt64) &&& (lN 4294967295))) (xs (i + 4)) (xs (i + 5)) (nI 0)).2).S ((sSet g (xs (i + 1)) ((((xs (i + 2)).toInt64) <<< ((nI 32).toInt64 &&& 63)) ||| (((xs (i + 3)).toInt64) &&& (lN 4294967295))) (xs (i + 4)) (xs (i + 5)) (nI 0)).2).B)) ++ ([(oc, .inl (cL, 1, .inr (.inl fo9)))] : va_W) ++ (mB cI cC cZ ma w2))) (is := [1, 2, 3, 4, 5, 6, 7, 8, 9, 10, 11, 12, 13, 14, 15, 16, 17, 18, 19, 20, 21, 22, 23, 24, 25, 26, 27, 28, 29, 30, 0, 31, 32, 33, 34, 35, 36, 37, 38, 39, 40, 41, 42, 43]) hP rfl
    have hD := hD.sub (ws' := ((kB cL cC cB cR ka z1 ++ rgs (kR ka ((sSet g (xs (i + 1)) ((((xs (i + 2)).toInt64) <<< ((nI 32).toInt64 &&& 63)) ||| (((xs (i + 3)).toInt64) &&& (lN 4294967295))) (xs (i + 4)) (xs (i + 5)) (nI 0)).2).C ((sSet g (xs (i + 1)) ((((xs (i + 2)).toInt64) <<< ((nI 32).toInt64 &&& 63)) ||| (((xs (i + 3)).toInt64) &&& (lN 4294967295))) (xs (i + 4)) (xs (i + 5)) (nI 0)).2).S ((sSet g (xs (i + 1)) ((((xs (i + 2)).toInt64) <<< ((nI 32).toInt64 &&& 63)) ||| (((xs (i + 3)).toInt64) &&& (lN 4294967295))) (xs (i + 4)) (xs (i + 5)) (nI 0)).2).B)) ++ ([(oc, .inl (cL, 1, .inr (.inl fo9)))] : va_W) ++ (mB cI cC cZ ma w2))) [1, 2, 3, 4, 5, 6, 7, 8, 9, 10, 11, 12, 13, 14, 15, 16, 17, 18, 19, 20, 21, 22, 23, 24, 25, 26, 27, 28, 29, 30, 0, 31, 32, 33, 34, 35, 36, 37, 38, 39, 40, 41, 42, 43] (by decide) rfl
    have hl := lv_sub (l' := [(0, .ref b), (1, .ref ka.k9), (2, .ref ma.m9), (3, .ref oc), (4, .int (nI i))]) hl [1, 2, 3, 4, 5] rfl
    exact kk z1 w2 ((sSet g (xs (i + 1)) ((((xs (i + 2)).toInt64) <<< ((nI 32).toInt64 &&& 63)) ||| (((xs (i + 3)).toInt64) &&& (lN 4294967295))) (xs (i + 4)) (xs (i + 5)) (nI 0)).2) fo9 H locs ls hk1 hU2 (sSet_ok hG (by decide +kernel)) hP hD hS hl
  · refine lv_iconst (v := nI 1) (pc := 175) hx hb dL_law_175 kI_1 ?_
    refine lv_goto (tgt := 180) (pc := 176) hx hb dL_law_176 (by decide) ?_
    refine x_SWi (pc := 180) (As := [.ref ka.k9, .int (xs (i + 1)), .long ((((xs (i + 2)).toInt64) <<< ((nI 32).toInt64 &&& 63)) ||| (((xs (i + 3)).toInt64) &&& (lN 4294967295))), .int (xs (i + 4)), .int (xs (i + 5)), .int (nI 1)]) (rest := []) (wr := (([(oc, .inl (cL, 1, .inr (.inl fo9)))] : va_W) ++ (mB cI cC cZ ma w))) (N0 := N0) (hh := [(0, 12, 15, 13)]) ⟨hx, hb, hml, hown, hts⟩ (U_set l D cI cL cC cB cZ cR H.size N0 ka z g (xs (i + 1)) ((((xs (i + 2)).toInt64) <<< ((nI 32).toInt64 &&& 63)) ||| (((xs (i + 3)).toInt64) &&& (lN 4294967295))) (xs (i + 4)) (xs (i + 5)) (nI 1) hra hk hG (by decide +kernel) (x_N0 hD hA0 [0, 1, 2, 3, 4, 5, 6, 7, 8, 9, 10, 11, 12, 13, 14, 15, 16, 17, 18, 19, 20, 21, 22, 23, 24, 25, 26, 27, 28, 29] rfl) htr) ⟨rfl, rfl, Nat.le_of_ble_eq_true rfl, Nat.le_of_ble_eq_true rfl⟩ (pay_in hts (x_good kw_446)) List.mem_cons_self (hts _ kw_446) (hts _ kw_0) dc_L_set (hts _ kw_444) (hts _ kw_445) rfl hl.1 rfl (Nat.le_of_ble_eq_true rfl) dL_law_180 ⟨hcl, hsl⟩ hN hK hP hD hS hA [0, 1, 2, 3, 4, 5, 6, 7, 8, 9, 10, 11, 12, 13, 14, 15, 16, 17, 18, 19, 20, 21, 22, 23, 24, 25, 26, 27, 28, 29] [30, 31, 32, 33, 34, 35, 36, 37, 38, 39, 40, 41, 42, 43] rfl rfl (by decide) (by decide) (by decide) hX rfl hA0 (fun r180 u180 H locs q180 hP hD hS => ?_)
    obtain ⟨z1, rfl⟩ : ∃ z, z = u180 := ⟨_, rfl⟩
    have hP : va_P D vwCl (([(oc, .inl (cL, 1, .inr (.inl fo9)))] : va_W) ++ (mB cI cC cZ ma w) ++ (kB cL cC cB cR ka z1 ++ rgs (kR ka ((sSet g (xs (i + 1)) ((((xs (i + 2)).toInt64) <<< ((nI 32).toInt64 &&& 63)) ||| (((xs (i + 3)).toInt64) &&& (lN 4294967295))) (xs (i + 4)) (xs (i + 5)) (nI 1)).2).C ((sSet g (xs (i + 1)) ((((xs (i + 2)).toInt64) <<< ((nI 32).toInt64 &&& 63)) ||| (((xs (i + 3)).toInt64) &&& (lN 4294967295))) (xs (i + 4)) (xs (i + 5)) (nI 1)).2).S ((sSet g (xs (i + 1)) ((((xs (i + 2)).toInt64) <<< ((nI 32).toInt64 &&& 63)) ||| (((xs (i + 3)).toInt64) &&& (lN 4294967295))) (xs (i + 4)) (xs (i + 5)) (nI 1)).2).B))) H := hP
    have hD : va_D A (([(oc, .inl (cL, 1, .inr (.inl fo9)))] : va_W) ++ (mB cI cC cZ ma w) ++ (kB cL cC cB cR ka z1 ++ rgs (kR ka ((sSet g (xs (i + 1)) ((((xs (i + 2)).toInt64) <<< ((nI 32).toInt64 &&& 63)) ||| (((xs (i + 3)).toInt64) &&& (lN 4294967295))) (xs (i + 4)) (xs (i + 5)) (nI 1)).2).C ((sSet g (xs (i + 1)) ((((xs (i + 2)).toInt64) <<< ((nI 32).toInt64 &&& 63)) ||| (((xs (i + 3)).toInt64) &&& (lN 4294967295))) (xs (i + 4)) (xs (i + 5)) (nI 1)).2).S ((sSet g (xs (i + 1)) ((((xs (i + 2)).toInt64) <<< ((nI 32).toInt64 &&& 63)) ||| (((xs (i + 3)).toInt64) &&& (lN 4294967295))) (xs (i + 4)) (xs (i + 5)) (nI 1)).2).B))) := hD
    obtain ⟨rfl, hk1⟩ := q180
    refine lv_istore (pc := 183) (lv' := [(5, .int (nI ((sSet g (xs (i + 1)) ((((xs (i + 2)).toInt64) <<< ((nI 32).toInt64 &&& 63)) ||| (((xs (i + 3)).toInt64) &&& (lN 4294967295))) (xs (i + 4)) (xs (i + 5)) (nI 1)).1))), (0, .ref b), (1, .ref ka.k9), (2, .ref ma.m9), (3, .ref oc), (4, .int (nI i))]) hx hb dL_law_183 hl (by decide) rfl (fun ls hl => ?_)
    refine lv_aload_n (pc := 185) hx hb dL_law_185 rfl (lv_at hl 3 rfl) ?_
    refine lv_aload_n (pc := 186) hx hb dL_law_186 rfl (lv_at hl 1 rfl) ?_
    refine lv_iload (pc := 187) hx hb dL_law_187 (lv_at hl 5 rfl) ?_
    refine lv_iconst (v := nI 1) (pc := 189) hx hb dL_law_189 kI_1 ?_
    refine lv_iadd (pc := 190) hx hb dL_law_190 ?_
    refine x_i (y := nI (i + 1)) (nI_add _ _) ?_
    refine x_sld (k := i + 1) (pc := 191) hx hb hXs hbl hbA hS (by omega) (by omega) dL_law_191 ?_
    refine lv_aload_n (pc := 192) hx hb dL_law_192 rfl (lv_at hl 1 rfl) ?_
    refine lv_iload (pc := 193) hx hb dL_law_193 (lv_at hl 5 rfl) ?_
    refine lv_iconst (v := nI 2) (pc := 195) hx hb dL_law_195 kI_2 ?_
    refine lv_iadd (pc := 196) hx hb dL_law_196 ?_
    refine x_i (y := nI (i + 2)) (nI_add _ _) ?_
    refine x_sld (k := i + 2) (pc := 197) hx hb hXs hbl hbA hS (by omega) (by omega) dL_law_197 ?_
    refine lv_i2l (v := (xs (i + 2)).toInt64) (pc := 198) hx hb dL_law_198 rfl ?_
    refine lv_bipush (v := nI 32) (pc := 199) hx hb dL_law_199 (by decide +kernel) ?_
    refine lv_lshl (v := ((xs (i + 2)).toInt64) <<< ((nI 32).toInt64 &&& 63)) (pc := 201) hx hb dL_law_201 rfl ?_
    refine lv_aload_n (pc := 202) hx hb dL_law_202 rfl (lv_at hl 1 rfl) ?_
    refine lv_iload (pc := 203) hx hb dL_law_203 (lv_at hl 5 rfl) ?_
    refine lv_iconst (v := nI 3) (pc := 205) hx hb dL_law_205 kI_3 ?_
    refine lv_iadd (pc := 206) hx hb dL_law_206 ?_
    refine x_i (y := nI (i + 3)) (nI_add _ _) ?_
    refine x_sld (k := i + 3) (pc := 207) hx hb hXs hbl hbA hS (by omega) (by omega) dL_law_207 ?_
    refine lv_i2l (v := (xs (i + 3)).toInt64) (pc := 208) hx hb dL_law_208 rfl ?_
    refine lv_ldc2 (v := (4294967295 : Int64)) (pc := 209) hx hb hown (hts _ kw_933) dL_law_209 ?_
    refine x_l (y := lN 4294967295) rfl ?_
    refine lv_land (pc := 212) hx hb dL_law_212 ?_
    refine lv_lor (pc := 213) hx hb dL_law_213 ?_
    refine lv_aload_n (pc := 214) hx hb dL_law_214 rfl (lv_at hl 1 rfl) ?_
    refine lv_iload (pc := 215) hx hb dL_law_215 (lv_at hl 5 rfl) ?_
    refine lv_iconst (v := nI 4) (pc := 217) hx hb dL_law_217 kI_4 ?_
    refine lv_iadd (pc := 218) hx hb dL_law_218 ?_
    refine x_i (y := nI (i + 4)) (nI_add _ _) ?_
    refine x_sld (k := i + 4) (pc := 219) hx hb hXs hbl hbA hS (by omega) (by omega) dL_law_219 ?_
    refine lv_aload_n (pc := 220) hx hb dL_law_220 rfl (lv_at hl 1 rfl) ?_
    refine lv_iload (pc := 221) hx hb dL_law_221 (lv_at hl 5 rfl) ?_
    refine lv_iconst (v := nI 5) (pc := 223) hx hb dL_law_223 kI_5 ?_
    refine lv_iadd (pc := 224) hx hb dL_law_224 ?_
    refine x_i (y := nI (i + 5)) (nI_add _ _) ?_
    refine x_sld (k := i + 5) (pc := 225) hx hb hXs hbl hbA hS (by omega) (by omega) dL_law_225 ?_
    refine lv_aload_n (pc := 226) hx hb dL_law_226 rfl (lv_at hl 1 rfl) ?_
    refine lv_iload (pc := 227) hx hb dL_law_227 (lv_at hl 5 rfl) ?_
    refine lv_bipush (v := nI 6) (pc := 229) hx hb dL_law_229 (by decide +kernel) ?_
    refine lv_iadd (pc := 231) hx hb dL_law_231 ?_
    refine x_i (y := nI (i + 6)) (nI_add _ _) ?_
    refine x_sld (k := i + 6) (pc := 232) hx hb hXs hbl hbA hS (by omega) (by omega) dL_law_232 ?_
    refine lv_if_eq (tgt := 240) (pc := 233) hx hb dL_law_233 (by decide) (fun h7 => absurd h7 h6) (fun h7 => ?_)
    refine lv_iconst (v := nI 1) (pc := 236) hx hb dL_law_236 kI_1 ?_
    refine lv_goto (tgt := 241) (pc := 237) hx hb dL_law_237 (by decide) ?_
    refine x_Vv (pc := 241) (As := [.int (xs (i + 1)), .long ((((xs (i + 2)).toInt64) <<< ((nI 32).toInt64 &&& 63)) ||| (((xs (i + 3)).toInt64) &&& (lN 4294967295))), .int (xs (i + 4)), .int (xs (i + 5)), .int (nI 1)]) (rest := []) (b := ma.m9) (wr := (([(oc, .inl (cL, 1, .inr (.inl fo9)))] : va_W) ++ (kB cL cC cB cR ka z1 ++ rgs (kR ka ((sSet g (xs (i + 1)) ((((xs (i + 2)).toInt64) <<< ((nI 32).toInt64 &&& 63)) ||| (((xs (i + 3)).toInt64) &&& (lN 4294967295))) (xs (i + 4)) (xs (i + 5)) (nI 1)).2).C ((sSet g (xs (i + 1)) ((((xs (i + 2)).toInt64) <<< ((nI 32).toInt64 &&& 63)) ||| (((xs (i + 3)).toInt64) &&& (lN 4294967295))) (xs (i + 4)) (xs (i + 5)) (nI 1)).2).S ((sSet g (xs (i + 1)) ((((xs (i + 2)).toInt64) <<< ((nI 32).toInt64 &&& 63)) ||| (((xs (i + 3)).toInt64) &&& (lN 4294967295))) (xs (i + 4)) (xs (i + 5)) (nI 1)).2).B)))) ⟨hx, hb, hml, hown, hts⟩ (M_set l D cI cL cC cB cZ cR H.size ma w g (xs (i + 1)) ((((xs (i + 2)).toInt64) <<< ((nI 32).toInt64 &&& 63)) ||| (((xs (i + 3)).toInt64) &&& (lN 4294967295))) (xs (i + 4)) (xs (i + 5)) (nI 1) hU hG (by decide +kernel)) ⟨callB_of 5 hts (x_good kw_770) rfl rfl rfl (hts _ kw_9) (hts _ kw_767) dc_X8_set ⟨Nat.le_of_ble_eq_true rfl, Nat.le_of_ble_eq_true rfl⟩, hts _ kw_768, hts _ kw_769⟩ (q0 := 1) rfl rfl rfl rfl hl.1 rfl (Nat.le_of_ble_eq_true rfl) dL_law_241 ⟨hcl, hsl⟩ hN hK hP hD hS hA [1, 2, 3, 4, 5, 6, 7, 8, 9, 10, 11, 12, 13] [0, 14, 15, 16, 17, 18, 19, 20, 21, 22, 23, 24, 25, 26, 27, 28, 29, 30, 31, 32, 33, 34, 35, 36, 37, 38, 39, 40, 41, 42, 43] rfl rfl (by decide) (by decide) (by decide) (fun u241 H locs q241 hP hD hS => ?_)
    obtain ⟨w1, rfl⟩ : ∃ z, z = u241 := ⟨_, rfl⟩
    have hP : va_P D vwCl (([(oc, .inl (cL, 1, .inr (.inl fo9)))] : va_W) ++ (kB cL cC cB cR ka z1 ++ rgs (kR ka ((sSet g (xs (i + 1)) ((((xs (i + 2)).toInt64) <<< ((nI 32).toInt64 &&& 63)) ||| (((xs (i + 3)).toInt64) &&& (lN 4294967295))) (xs (i + 4)) (xs (i + 5)) (nI 1)).2).C ((sSet g (xs (i + 1)) ((((xs (i + 2)).toInt64) <<< ((nI 32).toInt64 &&& 63)) ||| (((xs (i + 3)).toInt64) &&& (lN 4294967295))) (xs (i + 4)) (xs (i + 5)) (nI 1)).2).S ((sSet g (xs (i + 1)) ((((xs (i + 2)).toInt64) <<< ((nI 32).toInt64 &&& 63)) ||| (((xs (i + 3)).toInt64) &&& (lN 4294967295))) (xs (i + 4)) (xs (i + 5)) (nI 1)).2).B)) ++ (mB cI cC cZ ma w1)) H := hP
    have hD : va_D A (([(oc, .inl (cL, 1, .inr (.inl fo9)))] : va_W) ++ (kB cL cC cB cR ka z1 ++ rgs (kR ka ((sSet g (xs (i + 1)) ((((xs (i + 2)).toInt64) <<< ((nI 32).toInt64 &&& 63)) ||| (((xs (i + 3)).toInt64) &&& (lN 4294967295))) (xs (i + 4)) (xs (i + 5)) (nI 1)).2).C ((sSet g (xs (i + 1)) ((((xs (i + 2)).toInt64) <<< ((nI 32).toInt64 &&& 63)) ||| (((xs (i + 3)).toInt64) &&& (lN 4294967295))) (xs (i + 4)) (xs (i + 5)) (nI 1)).2).S ((sSet g (xs (i + 1)) ((((xs (i + 2)).toInt64) <<< ((nI 32).toInt64 &&& 63)) ||| (((xs (i + 3)).toInt64) &&& (lN 4294967295))) (xs (i + 4)) (xs (i + 5)) (nI 1)).2).B)) ++ (mB cI cC cZ ma w1)) := hD
    obtain ⟨ht1, hU1⟩ := q241
    refine lv_aload_n (pc := 244) hx hb dL_law_244 rfl (lv_at hl 3 rfl) ?_
    refine x_Vi (pc := 245) (As := []) (rest := []) (b := ma.m9) (wr := (([(oc, .inl (cL, 1, .inr (.inl fo9)))] : va_W) ++ (kB cL cC cB cR ka z1 ++ rgs (kR ka ((sSet g (xs (i + 1)) ((((xs (i + 2)).toInt64) <<< ((nI 32).toInt64 &&& 63)) ||| (((xs (i + 3)).toInt64) &&& (lN 4294967295))) (xs (i + 4)) (xs (i + 5)) (nI 1)).2).C ((sSet g (xs (i + 1)) ((((xs (i + 2)).toInt64) <<< ((nI 32).toInt64 &&& 63)) ||| (((xs (i + 3)).toInt64) &&& (lN 4294967295))) (xs (i + 4)) (xs (i + 5)) (nI 1)).2).S ((sSet g (xs (i + 1)) ((((xs (i + 2)).toInt64) <<< ((nI 32).toInt64 &&& 63)) ||| (((xs (i + 3)).toInt64) &&& (lN 4294967295))) (xs (i + 4)) (xs (i + 5)) (nI 1)).2).B)))) ⟨hx, hb, hml, hown, hts⟩ (M_thrown l D cI cL cC cB cZ cR H.size ma w1 ((sSet g (xs (i + 1)) ((((xs (i + 2)).toInt64) <<< ((nI 32).toInt64 &&& 63)) ||| (((xs (i + 3)).toInt64) &&& (lN 4294967295))) (xs (i + 4)) (xs (i + 5)) (nI 1)).2) ((sSet g (xs (i + 1)) ((((xs (i + 2)).toInt64) <<< ((nI 32).toInt64 &&& 63)) ||| (((xs (i + 3)).toInt64) &&& (lN 4294967295))) (xs (i + 4)) (xs (i + 5)) (nI 1)).1) hU1 (sSet_ok hG (by decide +kernel)) ht1) ⟨callB_of 0 hts (x_good kw_766) rfl rfl rfl (hts _ kw_9) (hts _ kw_763) dc_X8_thrown ⟨Nat.le_of_ble_eq_true rfl, Nat.le_of_ble_eq_true rfl⟩, hts _ kw_764, hts _ kw_765⟩ (q0 := 31) rfl rfl rfl rfl hl.1 rfl (Nat.le_of_ble_eq_true rfl) dL_law_245 ⟨hcl, hsl⟩ hN hK hP hD hS hA [31, 32, 33, 34, 35, 36, 37, 38, 39, 40, 41, 42, 43] [0, 1, 2, 3, 4, 5, 6, 7, 8, 9, 10, 11, 12, 13, 14, 15, 16, 17, 18, 19, 20, 21, 22, 23, 24, 25, 26, 27, 28, 29, 30] rfl rfl (by decide) (by decide) (by decide) (fun r245 u245 H locs q245 hP hD hS => ?_)
    obtain ⟨w2, rfl⟩ : ∃ z, z = u245 := ⟨_, rfl⟩
    have hP : va_P D vwCl (([(oc, .inl (cL, 1, .inr (.inl fo9)))] : va_W) ++ (kB cL cC cB cR ka z1 ++ rgs (kR ka ((sSet g (xs (i + 1)) ((((xs (i + 2)).toInt64) <<< ((nI 32).toInt64 &&& 63)) ||| (((xs (i + 3)).toInt64) &&& (lN 4294967295))) (xs (i + 4)) (xs (i + 5)) (nI 1)).2).C ((sSet g (xs (i + 1)) ((((xs (i + 2)).toInt64) <<< ((nI 32).toInt64 &&& 63)) ||| (((xs (i + 3)).toInt64) &&& (lN 4294967295))) (xs (i + 4)) (xs (i + 5)) (nI 1)).2).S ((sSet g (xs (i + 1)) ((((xs (i + 2)).toInt64) <<< ((nI 32).toInt64 &&& 63)) ||| (((xs (i + 3)).toInt64) &&& (lN 4294967295))) (xs (i + 4)) (xs (i + 5)) (nI 1)).2).B)) ++ (mB cI cC cZ ma w2)) H := hP
    have hD : va_D A (([(oc, .inl (cL, 1, .inr (.inl fo9)))] : va_W) ++ (kB cL cC cB cR ka z1 ++ rgs (kR ka ((sSet g (xs (i + 1)) ((((xs (i + 2)).toInt64) <<< ((nI 32).toInt64 &&& 63)) ||| (((xs (i + 3)).toInt64) &&& (lN 4294967295))) (xs (i + 4)) (xs (i + 5)) (nI 1)).2).C ((sSet g (xs (i + 1)) ((((xs (i + 2)).toInt64) <<< ((nI 32).toInt64 &&& 63)) ||| (((xs (i + 3)).toInt64) &&& (lN 4294967295))) (xs (i + 4)) (xs (i + 5)) (nI 1)).2).S ((sSet g (xs (i + 1)) ((((xs (i + 2)).toInt64) <<< ((nI 32).toInt64 &&& 63)) ||| (((xs (i + 3)).toInt64) &&& (lN 4294967295))) (xs (i + 4)) (xs (i + 5)) (nI 1)).2).B)) ++ (mB cI cC cZ ma w2)) := hD
    obtain ⟨rfl, hU2⟩ := q245
    refine lv_iload (pc := 248) hx hb dL_law_248 (lv_at hl 0 rfl) ?_
    refine lv_icmp_eq (tgt := 255) (pc := 250) hx hb dL_law_250 (by decide) (fun h250 => ?_) (fun h250 => absurd h250 (fun q9 => q9 rfl))
    refine lv_goto (tgt := 904) (pc := 255) hx hb dL_law_255 (by decide) ?_
    have hP := x_Psub (w := ((kB cL cC cB cR ka z1 ++ rgs (kR ka ((sSet g (xs (i + 1)) ((((xs (i + 2)).toInt64) <<< ((nI 32).toInt64 &&& 63)) ||| (((xs (i + 3)).toInt64) &&& (lN 4294967295))) (xs (i + 4)) (xs (i + 5)) (nI 1)).2).C ((sSet g (xs (i + 1)) ((((xs (i + 2)).toInt64) <<< ((nI 32).toInt64 &&& 63)) ||| (((xs (i + 3)).toInt64) &&& (lN 4294967295))) (xs (i + 4)) (xs (i + 5)) (nI 1)).2).S ((sSet g (xs (i + 1)) ((((xs (i + 2)).toInt64) <<< ((nI 32).toInt64 &&& 63)) ||| (((xs (i + 3)).toInt64) &&& (lN 4294967295))) (xs (i + 4)) (xs (i + 5)) (nI 1)).2).B)) ++ ([(oc, .inl (cL, 1, .inr (.inl fo9)))] : va_W) ++ (mB cI cC cZ ma w2))) (is := [1, 2, 3, 4, 5, 6, 7, 8, 9, 10, 11, 12, 13, 14, 15, 16, 17, 18, 19, 20, 21, 22, 23, 24, 25, 26, 27, 28, 29, 30, 0, 31, 32, 33, 34, 35, 36, 37, 38, 39, 40, 41, 42, 43]) hP rfl
    have hD := hD.sub (ws' := ((kB cL cC cB cR ka z1 ++ rgs (kR ka ((sSet g (xs (i + 1)) ((((xs (i + 2)).toInt64) <<< ((nI 32).toInt64 &&& 63)) ||| (((xs (i + 3)).toInt64) &&& (lN 4294967295))) (xs (i + 4)) (xs (i + 5)) (nI 1)).2).C ((sSet g (xs (i + 1)) ((((xs (i + 2)).toInt64) <<< ((nI 32).toInt64 &&& 63)) ||| (((xs (i + 3)).toInt64) &&& (lN 4294967295))) (xs (i + 4)) (xs (i + 5)) (nI 1)).2).S ((sSet g (xs (i + 1)) ((((xs (i + 2)).toInt64) <<< ((nI 32).toInt64 &&& 63)) ||| (((xs (i + 3)).toInt64) &&& (lN 4294967295))) (xs (i + 4)) (xs (i + 5)) (nI 1)).2).B)) ++ ([(oc, .inl (cL, 1, .inr (.inl fo9)))] : va_W) ++ (mB cI cC cZ ma w2))) [1, 2, 3, 4, 5, 6, 7, 8, 9, 10, 11, 12, 13, 14, 15, 16, 17, 18, 19, 20, 21, 22, 23, 24, 25, 26, 27, 28, 29, 30, 0, 31, 32, 33, 34, 35, 36, 37, 38, 39, 40, 41, 42, 43] (by decide) rfl
    have hl := lv_sub (l' := [(0, .ref b), (1, .ref ka.k9), (2, .ref ma.m9), (3, .ref oc), (4, .int (nI i))]) hl [1, 2, 3, 4, 5] rfl
    exact kk z1 w2 ((sSet g (xs (i + 1)) ((((xs (i + 2)).toInt64) <<< ((nI 32).toInt64 &&& 63)) ||| (((xs (i + 3)).toInt64) &&& (lN 4294967295))) (xs (i + 4)) (xs (i + 5)) (nI 1)).2) fo9 H locs ls hk1 hU2 (sSet_ok hG (by decide +kernel)) hP hD hS hl
