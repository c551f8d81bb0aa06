section XR2
variable {p : Program} {l : Launch} {e : Env} {R : Room} {s : State} {m : MethodId} {args : Array Value} {below : List Frame} {meth : Method} {c : Code} {H : Heap} {locs : List Loc} {cells slots : Nat} {Q : State → Prop}
variable {cc : ByteArray} {pc : Nat} {ls : Array Slot} {rest : List Value}
theorem x_o_eq (hexec : p.tables.exec = Jvm.exec) (hb : c.code = cc) {a b : Nat} {off : Int} {tgt : Nat} (hdg : decode cc pc = .ok (.ifCond .eq off, 3)) (ht : (pc : Int) + off = (tgt : Int))
    (kt : a = b → W p l e R s m args below meth c H locs cells slots Q (F0 m tgt ls rest)) (kf : a ≠ b → W p l e R s m args below meth c H locs cells slots Q (F0 m (pc + 3) ls rest)) : W p l e R s m args below meth c H locs cells slots Q (F0 m pc ls (.int (ord3 a b) :: rest)) :=
  lv_if_eq hexec hb hdg ht (fun q => kt ((ord3_z a b).mp q)) (fun q => kf (fun z => q ((ord3_z a b).mpr z)))
theorem x_o_ne (hexec : p.tables.exec = Jvm.exec) (hb : c.code = cc) {a b : Nat} {off : Int} {tgt : Nat} (hdg : decode cc pc = .ok (.ifCond .ne off, 3)) (ht : (pc : Int) + off = (tgt : Int))
    (kt : a ≠ b → W p l e R s m args below meth c H locs cells slots Q (F0 m tgt ls rest)) (kf : a = b → W p l e R s m args below meth c H locs cells slots Q (F0 m (pc + 3) ls rest)) : W p l e R s m args below meth c H locs cells slots Q (F0 m pc ls (.int (ord3 a b) :: rest)) :=
  lv_if_ne hexec hb hdg ht (fun q => kt (fun z => q ((ord3_z a b).mpr z))) (fun q => kf ((ord3_z a b).mp q))
theorem x_o_lt (hexec : p.tables.exec = Jvm.exec) (hb : c.code = cc) {a b : Nat} {off : Int} {tgt : Nat} (hdg : decode cc pc = .ok (.ifCond .lt off, 3)) (ht : (pc : Int) + off = (tgt : Int))
    (kt : a < b → W p l e R s m args below meth c H locs cells slots Q (F0 m tgt ls rest)) (kf : b ≤ a → W p l e R s m args below meth c H locs cells slots Q (F0 m (pc + 3) ls rest)) : W p l e R s m args below meth c H locs cells slots Q (F0 m pc ls (.int (ord3 a b) :: rest)) :=
  lv_if_lt hexec hb hdg ht (fun q => kt ((ord3_ltz a b).mp q)) (fun q => kf (Nat.le_of_not_lt (fun z => q ((ord3_ltz a b).mpr z))))
theorem x_o_ge (hexec : p.tables.exec = Jvm.exec) (hb : c.code = cc) {a b : Nat} {off : Int} {tgt : Nat} (hdg : decode cc pc = .ok (.ifCond .ge off, 3)) (ht : (pc : Int) + off = (tgt : Int))
    (kt : b ≤ a → W p l e R s m args below meth c H locs cells slots Q (F0 m tgt ls rest)) (kf : a < b → W p l e R s m args below meth c H locs cells slots Q (F0 m (pc + 3) ls rest)) : W p l e R s m args below meth c H locs cells slots Q (F0 m pc ls (.int (ord3 a b) :: rest)) :=
  lv_if_ge hexec hb hdg ht (fun q => kt ((ord3_ge a b).mp q)) (fun q => kf (Nat.lt_of_not_le (fun z => q ((ord3_ge a b).mpr z))))
theorem x_o_gt (hexec : p.tables.exec = Jvm.exec) (hb : c.code = cc) {a b : Nat} {off : Int} {tgt : Nat} (hdg : decode cc pc = .ok (.ifCond .gt off, 3)) (ht : (pc : Int) + off = (tgt : Int))
    (kt : b < a → W p l e R s m args below meth c H locs cells slots Q (F0 m tgt ls rest)) (kf : a ≤ b → W p l e R s m args below meth c H locs cells slots Q (F0 m (pc + 3) ls rest)) : W p l e R s m args below meth c H locs cells slots Q (F0 m pc ls (.int (ord3 a b) :: rest)) :=
  lv_if_gt hexec hb hdg ht (fun q => kt ((ord3_gtz a b).mp q)) (fun q => kf (Nat.le_of_not_lt (fun z => q ((ord3_gtz a b).mpr z))))
end XR2
theorem lc3 {a b : Nat} (ha : a < 9223372036854775808) (hb : b < 9223372036854775808) : lg_cmp (lN a) (lN b) = ord3 a b := by
  have h1 := pk_lLT (a := b) (b := a) hb ha
  have h2 := pk_lEQ (a := a) (b := b) ha hb
  unfold lg_cmp ord3
  by_cases c : a < b
  · rw [if_neg (fun z => by have := h1.mp z; omega), if_neg (fun z => by have := h2.mp z; omega), if_pos c]
  · by_cases d : a = b
    · rw [if_neg (fun z => by have := h1.mp z; omega), if_pos (h2.mpr d), if_neg c, if_pos d]; rfl
    · rw [if_pos (h1.mpr (by omega)), if_neg c, if_neg d]; rfl
theorem wM {n : Nat} (h : n < 18446744073709551616) : lN n &&& lN 4294967295 = lN (n % 4294967296) := wb_mask (n := n) (k := 32) h (by decide)
theorem wS {n : Nat} (h : n < 18446744073709551616) : ((lN n).toUInt64 >>> ((nI 32).toInt64.toUInt64 &&& Int64.toUInt64 63)).toInt64 = lN (n / 4294967296) := wb_shr (n := n) (k := 32) h (by decide)
theorem wL (n : Nat) : lN n <<< ((nI 32).toInt64 &&& 63) = lN (n * 4294967296) := wb_shl n (k := 32) (by decide)
theorem w1 {n : Nat} (h : n < 18446744073709551616) : lN n &&& lN 1 = lN (n % 2) := wb_mask (n := n) (k := 1) h (by decide)
theorem wO {a b : Nat} (ha : a < 4294967296) (h : a + b * 4294967296 < 18446744073709551616) : lN a ||| lN (b * 4294967296) = lN (a + b * 4294967296) := g_or' (k := 32) (by decide) ha h
theorem wO2 {a b : Nat} (ha : a < 4294967296) (h : b * 4294967296 + a < 18446744073709551616) : lN (b * 4294967296) ||| lN a = lN (b * 4294967296 + a) := g_or (k := 32) (by decide) ha h
theorem w_hi {hi : Nat} (h : hi < 4294967296) : (nI hi).toInt64 &&& lN 4294967295 = lN hi := by
  apply wx_inj
  rw [Int64.toBitVec_and]
  show (BitVec.ofNat 32 hi).signExtend 64 &&& BitVec.ofNat 64 4294967295 = BitVec.ofNat 64 hi
  apply BitVec.eq_of_getLsbD_eq
  intro i h64
  rw [BitVec.getLsbD_and, BitVec.getLsbD_signExtend, BitVec.getLsbD_ofNat, BitVec.getLsbD_ofNat, BitVec.getLsbD_ofNat]
  have hm : (4294967295 : Nat).testBit i = decide (i < 32) := Nat.testBit_two_pow_sub_one 32 i
  rw [hm]
  by_cases c : i < 32
  · simp [c, h64]
  · have hz : hi.testBit i = false := Nat.testBit_lt_two_pow (Nat.lt_of_lt_of_le h (Nat.pow_le_pow_right (n := 2) (by decide) (show 32 ≤ i by omega)))
    simp [c, hz]

