/-! the reference over its whole object -/
abbrev mA : Type := Nat × Nat × Nat × Nat × Nat × Nat × Nat × Nat × Nat × Nat × Nat × Nat × Nat
abbrev mA.m9 (ma : mA) : Nat := ma.1
abbrev mA.ad (ma : mA) : Nat := ma.2.1
abbrev mA.as9 (ma : mA) : Nat := ma.2.2.1
abbrev mA.ab (ma : mA) : Nat := ma.2.2.2.1
abbrev mA.at9 (ma : mA) : Nat := ma.2.2.2.2.1
abbrev mA.ao (ma : mA) : Nat := ma.2.2.2.2.2.1
abbrev mA.al (ma : mA) : Nat := ma.2.2.2.2.2.2.1
abbrev mA.an (ma : mA) : Nat := ma.2.2.2.2.2.2.2.1
abbrev mA.ae (ma : mA) : Nat := ma.2.2.2.2.2.2.2.2.1
abbrev mA.ap9 (ma : mA) : Nat := ma.2.2.2.2.2.2.2.2.2.1
abbrev mA.aq (ma : mA) : Nat := ma.2.2.2.2.2.2.2.2.2.2.1
abbrev mA.ar (ma : mA) : Nat := ma.2.2.2.2.2.2.2.2.2.2.2.1
abbrev mA.am (ma : mA) : Nat := ma.2.2.2.2.2.2.2.2.2.2.2.2
abbrev mS : Type := Int32 × Int32 × Int32 × Int32 × Int32 × Int32 × Int32 × Int32 × Int32 × (Nat → Int32) × (Nat → Int32) × (Nat → Int32) × (Nat → Int32) × (Nat → Int32) × (Nat → Int32) × (Nat → Int32) × (Nat → Int32) × (Nat → Int32) × (Nat → Int32) × (Nat → Int32) × (Nat → Int32)
abbrev mS.th (w : mS) : Int32 := w.1
abbrev mS.si (w : mS) : Int32 := w.2.1
abbrev mS.le (w : mS) : Int32 := w.2.2.1
abbrev mS.pl (w : mS) : Int32 := w.2.2.2.1
abbrev mS.fd9 (w : mS) : Int32 := w.2.2.2.2.1
abbrev mS.gr (w : mS) : Int32 := w.2.2.2.2.2.1
abbrev mS.bk (w : mS) : Int32 := w.2.2.2.2.2.2.1
abbrev mS.kp (w : mS) : Int32 := w.2.2.2.2.2.2.2.1
abbrev mS.pe (w : mS) : Int32 := w.2.2.2.2.2.2.2.2.1
abbrev mS.fg (w : mS) : (Nat → Int32) := w.2.2.2.2.2.2.2.2.2.1
abbrev mS.fs (w : mS) : (Nat → Int32) := w.2.2.2.2.2.2.2.2.2.2.1
abbrev mS.fb (w : mS) : (Nat → Int32) := w.2.2.2.2.2.2.2.2.2.2.2.1
abbrev mS.fx (w : mS) : (Nat → Int32) := w.2.2.2.2.2.2.2.2.2.2.2.2.1
abbrev mS.fo (w : mS) : (Nat → Int32) := w.2.2.2.2.2.2.2.2.2.2.2.2.2.1
abbrev mS.fl (w : mS) : (Nat → Int32) := w.2.2.2.2.2.2.2.2.2.2.2.2.2.2.1
abbrev mS.fn (w : mS) : (Nat → Int32) := w.2.2.2.2.2.2.2.2.2.2.2.2.2.2.2.1
abbrev mS.fe (w : mS) : (Nat → Int32) := w.2.2.2.2.2.2.2.2.2.2.2.2.2.2.2.2.1
abbrev mS.ft (w : mS) : (Nat → Int32) := w.2.2.2.2.2.2.2.2.2.2.2.2.2.2.2.2.2.1
abbrev mS.fq (w : mS) : (Nat → Int32) := w.2.2.2.2.2.2.2.2.2.2.2.2.2.2.2.2.2.2.1
abbrev mS.fr (w : mS) : (Nat → Int32) := w.2.2.2.2.2.2.2.2.2.2.2.2.2.2.2.2.2.2.2.1
abbrev mS.fm (w : mS) : (Nat → Int32) := w.2.2.2.2.2.2.2.2.2.2.2.2.2.2.2.2.2.2.2.2
def mB (cI cC cZ : ClassId) (ma : mA) (w : mS) : va_W := [(ma.m9, .inr (8, [.int w.th, .ref ma.ad, .ref ma.as9, .ref ma.ab, .int w.si, .ref ma.at9, .int w.le, .ref ma.ao, .ref ma.al, .ref ma.an, .ref ma.ae, .ref ma.ap9, .ref ma.aq, .ref ma.ar, .ref ma.am, .int w.pl, .int w.fd9, .int w.gr, .int w.bk, .int w.kp, .int w.pe])), (ma.ad, .inl (cI, 180, .inl w.fg)), (ma.as9, .inl (cI, 6, .inl w.fs)), (ma.ab, .inl (cZ, 6, .inl w.fb)), (ma.at9, .inl (cC, 40, .inl w.fx)), (ma.ao, .inl (cC, 140, .inl w.fo)), (ma.al, .inl (cI, 100, .inl w.fl)), (ma.an, .inl (cI, 100, .inl w.fn)), (ma.ae, .inl (cI, 100, .inl w.fe)), (ma.ap9, .inl (cI, 100, .inl w.ft)), (ma.aq, .inl (cI, 100, .inl w.fq)), (ma.ar, .inl (cI, 100, .inl w.fr)), (ma.am, .inl (cI, 100, .inl w.fm))]
def mU (w : mS) (g : gS) : Prop := mSt w.fg w.fs w.fb g.C g.S g.B ∧ dR w.fl lim ∧ (w.si = nI g.L.length ∧ oR w.fx g.L) ∧ w.le = nI g.O.length ∧ oR w.fo g.O
def kU (z : kS) (g : gS) : Prop := (z.m1 = nI g.L.length ∧ oR z.fx g.L) ∧ z.m2 = nI g.O.length ∧ oR z.fo g.O
theorem kU_K {u z : kS} {g : gS} (h : kK u z) (hz : kU z g) : kU u g := by
  obtain ⟨h1, h2, h3, h4⟩ := h
  exact ⟨⟨h1.trans hz.1.1, by rw [h2]; exact hz.1.2⟩, h3.trans hz.2.1, by rw [h4]; exact hz.2.2⟩
theorem kU_T {u z : kS} {g : gS} {O : List Nat} (h : kT u z) (hz : kU z g) (h3 : u.m2 = nI O.length ∧ oR u.fo O) : kU u (g.out O) := by
  obtain ⟨h1, h2⟩ := h
  exact ⟨⟨h1.trans hz.1.1, by rw [h2]; exact hz.1.2⟩, h3⟩
theorem kU_O {u z : kS} {g : gS} {L : List Nat} (h : kO u z) (hz : kU z g) (h3 : u.m1 = nI L.length ∧ oR u.fx L) : kU u (g.txt L) := by
  obtain ⟨h1, h2⟩ := h
  exact ⟨h3, h1.trans hz.2.1, by rw [h2]; exact hz.2.2⟩
theorem nin2 {a b : Nat} {x y : Int32} (c : ¬ (inR a x = 1 ∧ inR b y = 1)) : inR a x = 0 ∨ inR b y = 0 := by
  have h1 := inR_le a x
  have h2 := inR_le b y
  omega
theorem nin4 {a b d e : Nat} {x y z t : Int32} (c : ¬ (inR a x = 1 ∧ inR b y = 1 ∧ inR d z = 1 ∧ inR e t = 1)) : inR a x = 0 ∨ inR b y = 0 ∨ inR d z = 0 ∨ inR e t = 0 := by
  have h1 := inR_le a x
  have h2 := inR_le b y
  have h3 := inR_le d z
  have h4 := inR_le e t
  omega
theorem nin1 {a : Nat} {x : Int32} (c : ¬ inR a x = 1) : inR a x = 0 := by
  have h1 := inR_le a x
  omega
theorem nok {op to a b : Int32} (c : ¬ okR op to a b = 1) : okR op to a b = 0 := by
  rcases okR_01 op to a b with h | h
  · exact h
  · exact absurd h c
theorem i29 {x : Int32} (c : inR 29 x = 1) : iN x ≤ 28 := by
  have := inR_iN (by decide) c
  omega
theorem i5 {x : Int32} (c : inR 5 x = 1) : iN x ≤ 4 := by
  have := inR_iN (by decide) c
  omega
theorem i6 {x : Int32} (c : inR 6 x = 1) : iN x < 6 := inR_iN (by decide) c
theorem nptO {L : List Nat} (h : ¬ ptO L = 1) : ptO L = 0 := by
  unfold ptO at h ⊢
  split at h
  · exact absurd rfl h
  · rename_i q
    rw [if_neg q]
