/-! one state for both sides, and what each call makes of it -/
def iN (i : Int32) : Nat := i.toBitVec.toNat
def jN (x : Int64) : Nat := x.toBitVec.toNat
theorem nI_bv (n : Nat) : (nI n).toBitVec = BitVec.ofNat 32 n := rfl
theorem lN_bv (n : Nat) : (lN n).toBitVec = BitVec.ofNat 64 n := rfl
theorem nI_iN (i : Int32) : nI (iN i) = i := by
  apply Int32.toBitVec_inj.mp
  rw [nI_bv]; exact BitVec.eq_of_toNat_eq (by rw [BitVec.toNat_ofNat]; exact Nat.mod_eq_of_lt (BitVec.isLt _))
theorem lN_jN (i : Int64) : lN (jN i) = i := by
  apply Int64.toBitVec_inj.mp
  rw [lN_bv]; exact BitVec.eq_of_toNat_eq (by rw [BitVec.toNat_ofNat]; exact Nat.mod_eq_of_lt (BitVec.isLt _))
theorem iN_lt (i : Int32) : iN i < 4294967296 := i.toBitVec.isLt
theorem jN_lt (i : Int64) : jN i < 18446744073709551616 := i.toBitVec.isLt
theorem iN_nI {n : Nat} (h : n < 4294967296) : iN (nI n) = n := by
  unfold iN; rw [nI_bv, BitVec.toNat_ofNat]; exact Nat.mod_eq_of_lt h
/-- a number in its range: its word, and that it is one -/
theorem inR_iN {k : Nat} {r : Int32} (hk : k < 2 ^ 31) (h : inR k r = 1) : iN r < k := by
  rcases inR_sp k r hk with ⟨_, j, hj, rfl⟩ | ⟨h0, _⟩
  · rw [iN_nI (by omega)]; exact hj
  · omega
theorem inR_01 (k : Nat) (r : Int32) : inR k r = 0 ∨ inR k r = 1 := by
  have := inR_le k r
  omega
abbrev gS : Type := (Nat → Nat) × (Nat → Nat) × (Nat → Nat) × List Nat × List Nat
abbrev gS.C (g : gS) : Nat → Nat := g.1
abbrev gS.S (g : gS) : Nat → Nat := g.2.1
abbrev gS.B (g : gS) : Nat → Nat := g.2.2.1
abbrev gS.L (g : gS) : List Nat := g.2.2.2.1
abbrev gS.O (g : gS) : List Nat := g.2.2.2.2
def gS.reg (g : gS) (to v s n : Nat) : gS := (upN g.C to v, upN g.S to s, upN g.B to (sgn n v), g.L, g.O)
def gS.txt (g : gS) (L : List Nat) : gS := (g.C, g.S, g.B, L, g.O)
def gS.out (g : gS) (O : List Nat) : gS := (g.C, g.S, g.B, g.L, O)
def gOk (g : gS) : Prop := mOk g.C g.S g.B ∧ (∀ i, i < 6 → g.B i = 1 → g.C i ≠ 0) ∧ g.L.length ≤ 40 ∧ (∀ x ∈ g.L, x < 128) ∧ g.O.length ≤ 80 ∧ (∀ x ∈ g.O, x < 128)
theorem gOk.reg {g : gS} (h : gOk g) {to v s n : Nat} (hv : v < lim) (hs : s ≤ 28) (hn : n ≤ 1) : gOk (g.reg to v s n) := by
  obtain ⟨h1, h2, h3⟩ := h
  refine ⟨fun r hr => ?_, fun i hi hb => ?_, h3⟩
  · show upN g.C to v r < lim ∧ upN g.S to s r ≤ 28 ∧ upN g.B to (sgn n v) r ≤ 1
    by_cases c : r = to
    · subst c
      rw [upN_s, upN_s, upN_s]
      exact ⟨hv, hs, by unfold sgn; split <;> omega⟩
    · rw [upN_n c, upN_n c, upN_n c]; exact h1 r hr
  · have hb : upN g.B to (sgn n v) i = 1 := hb
    show upN g.C to v i ≠ 0
    by_cases c : i = to
    · subst c
      rw [upN_s] at hb ⊢
      intro h0
      unfold sgn at hb
      rw [if_pos h0] at hb
      omega
    · rw [upN_n c] at hb ⊢; exact h2 i hi hb
theorem gOk.txt {g : gS} (h : gOk g) {L : List Nat} (h1 : L.length ≤ 40) (h2 : ∀ x ∈ L, x < 128) : gOk (g.txt L) := ⟨h.1, h.2.1, h1, h2, h.2.2.2.2⟩
theorem gOk.out {g : gS} (h : gOk g) {L : List Nat} (h1 : L.length ≤ 80) (h2 : ∀ x ∈ L, x < 128) : gOk (g.out L) := ⟨h.1, h.2.1, h.2.2.1, h.2.2.2.1, h1, h2⟩
def gS.v (g : gS) (p : Int32) : Nat := g.C (iN p)
/-! the steps -/
def sSet (g : gS) (p0 : Int32) (p1 : Int64) (p2 p3 p4 : Int32) : Nat × gS := if inR 6 p0 = 1 ∧ inR 29 p3 = 1 then (0, g.reg (iN p0) (jN p1 + 18446744073709551616 * iN p2) (iN p3) (iN p4)) else (1, g)
def sLow (g : gS) (p : Int32) : Int64 := if inR 6 p = 1 then lN (g.C (iN p) % 18446744073709551616) else lN 0
def sHigh (g : gS) (p : Int32) : Int32 := if inR 6 p = 1 then nI (dg 4294967296 (g.C (iN p)) 2) else nI 0
def sScale (g : gS) (p : Int32) : Int32 := if inR 6 p = 1 then nI (g.S (iN p)) else -1
def sNeg (g : gS) (p : Int32) : Int32 := if inR 6 p = 1 then nI (g.B (iN p)) else nI 0
def gOp (g : gS) (op a b : Int32) : Option (Nat × Nat × Nat) := opR (iN op) (g.C (iN a)) (g.S (iN a)) (g.B (iN a)) (g.C (iN b)) (g.S (iN b)) (g.B (iN b))
def sComp (g : gS) (op to a b : Int32) : Nat × gS := if okR op to a b = 1 then (match gOp g op a b with | none => (2, g) | some z => (0, g.reg (iN to) z.1 z.2.1 z.2.2)) else (1, g)
def sAtt (g : gS) (op to a b : Int32) : Nat × gS := if okR op to a b = 1 then (match gOp g op a b with | none => (0, g) | some z => (1, g.reg (iN to) z.1 z.2.1 z.2.2)) else (0, g)
def sRound (g : gS) (to a d md : Int32) : Nat × gS := if inR 6 to = 1 ∧ inR 6 a = 1 ∧ inR 29 d = 1 ∧ inR 5 md = 1 then (0, g.reg (iN to) (rdC (iN md) (g.B (iN a)) (g.C (iN a)) (g.S (iN a)) (iN d)) (rdS (g.S (iN a)) (iN d)) (g.B (iN a))) else (1, g)
def sTrim (g : gS) (to a : Int32) : Nat × gS := if inR 6 to = 1 ∧ inR 6 a = 1 then (0, g.reg (iN to) (trm (g.C (iN a)) (g.S (iN a))).1 (trm (g.C (iN a)) (g.S (iN a))).2 (g.B (iN a))) else (1, g)
def gCmp (g : gS) (a b : Nat) : Int32 := cmpR (jnV (g.B a) (neq (g.B b) 1) (g.C a * 10 ^ (g.S b - g.S a)) (g.C b * 10 ^ (g.S a - g.S b))) (jnS (g.B a) (neq (g.B b) 1) (g.C a * 10 ^ (g.S b - g.S a)) (g.C b * 10 ^ (g.S a - g.S b)))
def sCmp (g : gS) (a b : Int32) : Nat × Int32 := if inR 6 a = 1 ∧ inR 6 b = 1 then (0, gCmp g (iN a) (iN b)) else (1, nI 0)
def sType (g : gS) (c : Nat) : Nat × gS := if 32 ≤ c ∧ c ≤ 126 ∧ g.L.length ≠ 40 then (1, g.txt (g.L ++ [c])) else (0, g)
def sParse (g : gS) (p : Int32) : Nat × gS := if inR 6 p = 1 then (match prR g.L with | none => (2, g) | some z => (match plc z.1 (10 ^ z.2) (min z.2 28) with | none => (3, g) | some q => (0, g.reg (iN p) q.1 q.2 (prN g.L)))) else (1, g)
def gSh (g : gS) (a : Nat) : List Nat := shT (g.C a) (g.S a) (g.B a)
def sShow (g : gS) (p : Int32) : Nat × gS := if inR 6 p = 1 then (0, g.out (gSh g (iN p))) else (1, g)
def gTx (g : gS) (a : Nat) : List Nat := txT (g.B a) (rdC 1 (g.B a) (pcV (ptC g.L) (g.C a)) (g.S a) (ptK g.L)) (rdS (g.S a) (ptK g.L)) (gpF g.L (ptP g.L)) (fdF g.L (ptP g.L)) (ptK g.L) (kpF g.L (ptB g.L) (ptK g.L)) (ptC g.L)
def sFmt (g : gS) (p : Int32) : Nat × gS := if inR 6 p = 1 then (if ptO g.L = 1 then (0, g.out (gTx g (iN p))) else (2, g)) else (1, g)
def sAt (g : gS) (p : Int32) : Int32 := if inR g.O.length p = 1 then nI (g.O.getD (iN p) 0) else -1
def sReuse (g : gS) : Nat × gS := if g.O.length ≤ 40 then (1, g.txt g.O) else (0, g)
/-! the steps keep what is asked of a state -/
theorem sSet_ok {g : gS} (h : gOk g) {p0 p2 p3 p4 : Int32} {p1 : Int64} (h4 : iN p4 ≤ 1) : gOk (sSet g p0 p1 p2 p3 p4).2 := by
  unfold sSet
  split
  · rename_i c
    refine h.reg ?_ (by have := inR_iN (by decide) c.2; omega) h4
    have h1 := jN_lt p1
    have h2 := iN_lt p2
    show jN p1 + 18446744073709551616 * iN p2 < lim
    unfold lim; omega
  · exact h
theorem gOp_ok {g : gS} (h : gOk g) {op a b : Int32} (ha : inR 6 a = 1) (hb : inR 6 b = 1) {z : Nat × Nat × Nat} (ho : gOp g op a b = some z) : z.1 < lim ∧ z.2.1 ≤ 28 ∧ z.2.2 ≤ 1 := by
  have h1 := h.1 _ (inR_iN (by decide) ha)
  have h2 := h.1 _ (inR_iN (by decide) hb)
  exact opR_lt h1.1 h2.1 h1.2.1 h2.2.1 h1.2.2 h2.2.2 ho
theorem okR_4 {op to a b : Int32} (h : okR op to a b = 1) : inR 5 op = 1 ∧ inR 6 to = 1 ∧ inR 6 a = 1 ∧ inR 6 b = 1 := by
  unfold okR at h
  split at h
  · assumption
  · omega
theorem okR_01 (op to a b : Int32) : okR op to a b = 0 ∨ okR op to a b = 1 := by
  unfold okR
  split
  · exact Or.inr rfl
  · exact Or.inl rfl
theorem sComp_ok {g : gS} (h : gOk g) {op to a b : Int32} : gOk (sComp g op to a b).2 := by
  unfold sComp
  split
  · rename_i c
    split
    · exact h
    · rename_i z hz
      have h1 := gOp_ok h (okR_4 c).2.2.1 (okR_4 c).2.2.2 hz
      exact h.reg h1.1 h1.2.1 h1.2.2
  · exact h
theorem sAtt_ok {g : gS} (h : gOk g) {op to a b : Int32} : gOk (sAtt g op to a b).2 := by
  unfold sAtt
  split
  · rename_i c
    split
    · exact h
    · rename_i z hz
      have h1 := gOp_ok h (okR_4 c).2.2.1 (okR_4 c).2.2.2 hz
      exact h.reg h1.1 h1.2.1 h1.2.2
  · exact h
theorem sRound_ok {g : gS} (h : gOk g) {to a d md : Int32} : gOk (sRound g to a d md).2 := by
  unfold sRound
  split
  · rename_i c
    have h1 := h.1 _ (inR_iN (by decide) c.2.1)
    have h2 := inR_iN (by decide) c.2.2.1
    have h3 := rdS_le (g.S (iN a)) (iN d)
    exact h.reg (rdC_lt h1.1) (by omega) h1.2.2
  · exact h
theorem trm_ls : ∀ (s v : Nat), (trm v s).2 ≤ s
  | 0, v => by rw [trm_e (Or.inl rfl)]; exact Nat.le_refl _
  | s + 1, v => by
    by_cases c : v % 10 = 0
    · rw [trm_s (Nat.succ_pos _) c]
      have := trm_ls s (v / 10)
      show (trm (v / 10) (s + 1 - 1)).2 ≤ s + 1
      rw [Nat.add_sub_cancel]; omega
    · rw [trm_e (Or.inr c)]; exact Nat.le_refl _
theorem sTrim_ok {g : gS} (h : gOk g) {to a : Int32} : gOk (sTrim g to a).2 := by
  unfold sTrim
  split
  · rename_i c
    have h1 := h.1 _ (inR_iN (by decide) c.2)
    have h2 := trm_le (g.C (iN a)) (g.S (iN a))
    have h3 := trm_ls (g.S (iN a)) (g.C (iN a))
    exact h.reg (by omega) (by omega) h1.2.2
  · exact h
theorem sType_ok {g : gS} (h : gOk g) {c : Nat} : gOk (sType g c).2 := by
  unfold sType
  split
  · rename_i q
    have h1 := h.2.2.1
    refine h.txt (by rw [List.length_append]; show g.L.length + 1 ≤ 40; omega) (fun x hx => ?_)
    rcases List.mem_append.mp hx with hx | hx
    · exact h.2.2.2.1 x hx
    · rw [List.mem_singleton.mp hx]; omega
  · exact h
theorem sParse_ok {g : gS} (h : gOk g) {p : Int32} : gOk (sParse g p).2 := by
  unfold sParse
  split
  · split
    · exact h
    · split
      · exact h
      · rename_i q hq
        have h1 := plc_lt hq
        exact h.reg h1.1 (by omega) (by unfold prN; split <;> omega)
  · exact h
theorem sShow_ok {g : gS} (h : gOk g) {p : Int32} : gOk (sShow g p).2 := by
  unfold sShow
  split
  · refine h.out ?_ (sh_ch _ _ _)
    have := shT_len (g.C (iN p)) (g.S (iN p)) (g.B (iN p))
    show (shT _ _ _).length ≤ 80
    omega
  · exact h
theorem sFmt_ok {g : gS} (h : gOk g) {p : Int32} : gOk (sFmt g p).2 := by
  unfold sFmt
  split
  · rename_i c
    split
    · rename_i hO
      refine h.out ?_ (tx_ch _ _ _ _ _ _ _ _)
      have := tx_79 (g := g.B (iN p)) (s := g.S (iN p)) h.2.2.1 hO (h.1 _ (inR_iN (by decide) c)).1
      show (txT _ _ _ _ _ _ _ _).length ≤ 80
      omega
    · exact h
  · exact h
theorem sReuse_ok {g : gS} (h : gOk g) : gOk (sReuse g).2 := by
  unfold sReuse
  split
  · exact h.txt (by assumption) h.2.2.2.2.2
  · exact h
/-! the small links -/
theorem dg_hi {v : Nat} (h : v < lim) : dg 4294967296 v 2 = v / 2 ^ 64 := by
  unfold dg
  have h1 : v / 2 ^ 64 < 4294967296 := by
    rw [Nat.div_lt_iff_lt_mul (by decide)]; unfold lim at h; omega
  rw [show (4294967296 : Nat) ^ 2 = 2 ^ 64 by decide]
  exact Nat.mod_eq_of_lt h1
theorem sgn_B {g : gS} (h : gOk g) {i : Nat} (hi : i < 6) : sgn (g.B i) (g.C i) = g.B i := by
  unfold sgn
  split
  · rename_i c
    have h1 := (h.1 i hi).2.2
    have h2 := h.2.1 i hi
    by_cases q : g.B i = 1
    · exact absurd c (h2 q)
    · omega
  · rfl
theorem mx_a (a b : Nat) : max a b - a = b - a := by omega
theorem mx_b (a b : Nat) : max a b - b = a - b := by omega
theorem gTx_m {g : gS} (h : gOk g) {i : Nat} (hi : i < 6) : txT (g.B i) (fmQ (ptC g.L) (g.C i) (g.S i) (ptK g.L)) (ptK g.L) (grF g.L (anyF g.L (ptP g.L)) (ptP g.L)) (fdF g.L (ptP g.L)) (ptK g.L) (kpF g.L (ptB g.L) (ptK g.L)) (ptC g.L) = gTx g i := by
  unfold gTx
  have h1 := ptK_le g.L
  have h2 := h.2.2.1
  rw [tx_same (h.1 i hi).1 (by omega), gp_gr]
theorem gTx_80 {g : gS} (h : gOk g) {i : Nat} (hi : i < 6) (hO : ptO g.L = 1) : (gTx g i).length ≤ 79 := tx_79 h.2.2.1 hO (h.1 i hi).1

