abbrev rm_U_set : Room := { frames := 7, cells := 1, slots := 6, locals := 125 }
set_option maxRecDepth 100000 in
theorem U_set (l : Launch) (D : va_G) (cI cL cC cB cZ cR : ClassId) (sz N0 : Nat) (ka : kA) (z : kS) (g : gS) (p0 : Int32) (p1 : Int64) (p2 : Int32) (p3 : Int32) (p4 : Int32) (hra : ∀ i, i < 6 → ka.ra i = some (ka.r i)) (hk : kU z g) (hG : gOk g) (h4 : iN p4 ≤ 1) (hN0 : ∀ q ∈ (((kB cL cC cB cR ka z ++ rgs (kR ka g.C g.S g.B))) : va_W), N0 ≤ q.1) (htr : l.stackTraces = false) : Met l yL_set wsL_set rm_U_set (xPcT D vwCl (tyAll cI cL cC cB cZ cR) [.ref ka.k9, .int p0, .long p1, .int p2, .int p3, .int p4] ((kB cL cC cB cR ka z ++ rgs (kR ka g.C g.S g.B))) sz N0) (va_Qi (fun (y : Int32) (u : kS) => y = nI (sSet g p0 p1 p2 p3 p4).1 ∧ kU u (sSet g p0 p1 p2 p3 p4).2) (xB D vwCl (tyAll cI cL cC cB cZ cR) (va_A ((kB cL cC cB cR ka z ++ rgs (kR ka g.C g.S g.B))) sz) (fun u : kS => (kB cL cC cB cR ka u ++ rgs (kR ka ((sSet g p0 p1 p2 p3 p4).2).C ((sSet g p0 p1 p2 p3 p4).2).S ((sSet g p0 p1 p2 p3 p4).2).B)))) (va_A ((kB cL cC cB cR ka z ++ rgs (kR ka g.C g.S g.B))) sz)) 1 6 (va_A ((kB cL cC cB cR ka z ++ rgs (kR ka g.C g.S g.B))) sz) := by
  by_cases c : inR 6 p0 = 1 ∧ inR 29 p3 = 1
  · skip
    have e : sSet g p0 p1 p2 p3 p4 = (0, g.reg (iN p0) (jN p1 + 18446744073709551616 * iN p2) (iN p3) (iN p4)) := by unfold sSet; rw [if_pos c]
    rw [e]
    have h := L_set_y l D cI cL cC cB cZ cR sz N0 ka z g.C g.S g.B (iN p0) (jN p1) (iN p2) (iN p3) (iN p4) hra (i6 c.1) (jN_lt p1) (iN_lt p2) (i29 c.2) h4 hN0 htr
    rw [nI_iN p0] at h
    rw [lN_jN p1] at h
    rw [nI_iN p2] at h
    rw [nI_iN p3] at h
    rw [nI_iN p4] at h
    exact x_uni h ⟨Nat.le_of_ble_eq_true rfl, Nat.le_of_ble_eq_true rfl, Nat.le_of_ble_eq_true rfl, Nat.le_of_ble_eq_true rfl⟩ (Nat.le_of_ble_eq_true rfl) (Nat.le_of_ble_eq_true rfl) (fun y u hp => ⟨u, ⟨hp.1, kU_K hp.2 hk⟩, rfl⟩)
  · skip
    have e : sSet g p0 p1 p2 p3 p4 = (1, g) := by unfold sSet; rw [if_neg c]
    rw [e]
    have h := L_set_n l D cI cL cC cB cZ cR sz N0 ka z g.C g.S g.B p0 p1 p2 p3 p4 (nin2 c) hN0 htr
    exact x_uni h ⟨Nat.le_of_ble_eq_true rfl, Nat.le_of_ble_eq_true rfl, Nat.le_of_ble_eq_true rfl, Nat.le_of_ble_eq_true rfl⟩ (Nat.le_of_ble_eq_true rfl) (Nat.le_of_ble_eq_true rfl) (fun y u hp => ⟨z, ⟨hp, hk⟩, rfl⟩)
abbrev rm_U_low : Room := { frames := 1, cells := 0, slots := 0, locals := 20 }
set_option maxRecDepth 100000 in
theorem U_low (l : Launch) (D : va_G) (cI cL cC cB cZ cR : ClassId) (sz : Nat) (ka : kA) (z : kS) (g : gS) (p0 : Int32) (hra : ∀ i, i < 6 → ka.ra i = some (ka.r i)) (hk : kU z g) (hG : gOk g)  : Met l yX7_low wsX7_low rm_U_low (xPc D vwCl (tyAll cI cL cC cB cZ cR) [.ref ka.k9, .int p0] ((kB cL cC cB cR ka z ++ rgs (kR ka g.C g.S g.B))) sz) (va_Ql (fun (y : Int64) (u : kS) => y = sLow g p0 ∧ kU u g) (xB D vwCl (tyAll cI cL cC cB cZ cR) (va_A ((kB cL cC cB cR ka z ++ rgs (kR ka g.C g.S g.B))) sz) (fun u : kS => (kB cL cC cB cR ka u ++ rgs (kR ka g.C g.S g.B)))) (va_A ((kB cL cC cB cR ka z ++ rgs (kR ka g.C g.S g.B))) sz)) 0 0 (va_A ((kB cL cC cB cR ka z ++ rgs (kR ka g.C g.S g.B))) sz) := by
  by_cases c : inR 6 p0 = 1
  · skip
    have e : sLow g p0 = lN (g.C (iN p0) % 18446744073709551616) := by unfold sLow; rw [if_pos c]
    rw [e]
    have h := K_low l D cI cL cC cB cZ cR sz ka z g.C g.S g.B (iN p0) hra (i6 c) (hG.1 _ (i6 c)).2.2
    rw [nI_iN p0] at h
    exact x_unl h ⟨Nat.le_of_ble_eq_true rfl, Nat.le_of_ble_eq_true rfl, Nat.le_of_ble_eq_true rfl, Nat.le_of_ble_eq_true rfl⟩ (Nat.le_of_ble_eq_true rfl) (Nat.le_of_ble_eq_true rfl) (fun y u hp => ⟨u, ⟨hp.1, kU_K hp.2 hk⟩, rfl⟩)
  · skip
    have e : sLow g p0 = lN 0 := by unfold sLow; rw [if_neg c]
    rw [e]
    have h := K_low_bad l D cI cL cC cB cZ cR sz ka z g.C g.S g.B p0 hra (nin1 c)
    exact x_unl h ⟨Nat.le_of_ble_eq_true rfl, Nat.le_of_ble_eq_true rfl, Nat.le_of_ble_eq_true rfl, Nat.le_of_ble_eq_true rfl⟩ (Nat.le_of_ble_eq_true rfl) (Nat.le_of_ble_eq_true rfl) (fun y u hp => ⟨u, ⟨hp.1, kU_K hp.2 hk⟩, rfl⟩)
abbrev rm_U_high : Room := { frames := 1, cells := 0, slots := 0, locals := 20 }
set_option maxRecDepth 100000 in
theorem U_high (l : Launch) (D : va_G) (cI cL cC cB cZ cR : ClassId) (sz : Nat) (ka : kA) (z : kS) (g : gS) (p0 : Int32) (hra : ∀ i, i < 6 → ka.ra i = some (ka.r i)) (hk : kU z g) (hG : gOk g)  : Met l yX7_high wsX7_high rm_U_high (xPc D vwCl (tyAll cI cL cC cB cZ cR) [.ref ka.k9, .int p0] ((kB cL cC cB cR ka z ++ rgs (kR ka g.C g.S g.B))) sz) (va_Qi (fun (y : Int32) (u : kS) => y = sHigh g p0 ∧ kU u g) (xB D vwCl (tyAll cI cL cC cB cZ cR) (va_A ((kB cL cC cB cR ka z ++ rgs (kR ka g.C g.S g.B))) sz) (fun u : kS => (kB cL cC cB cR ka u ++ rgs (kR ka g.C g.S g.B)))) (va_A ((kB cL cC cB cR ka z ++ rgs (kR ka g.C g.S g.B))) sz)) 0 0 (va_A ((kB cL cC cB cR ka z ++ rgs (kR ka g.C g.S g.B))) sz) := by
  by_cases c : inR 6 p0 = 1
  · skip
    have e : sHigh g p0 = nI (dg 4294967296 (g.C (iN p0)) 2) := by unfold sHigh; rw [if_pos c]
    rw [e]
    have h := K_high l D cI cL cC cB cZ cR sz ka z g.C g.S g.B (iN p0) hra (i6 c) (hG.1 _ (i6 c)).2.2
    rw [nI_iN p0] at h
    exact x_uni h ⟨Nat.le_of_ble_eq_true rfl, Nat.le_of_ble_eq_true rfl, Nat.le_of_ble_eq_true rfl, Nat.le_of_ble_eq_true rfl⟩ (Nat.le_of_ble_eq_true rfl) (Nat.le_of_ble_eq_true rfl) (fun y u hp => ⟨u, ⟨hp.1, kU_K hp.2 hk⟩, rfl⟩)
  · skip
    have e : sHigh g p0 = nI 0 := by unfold sHigh; rw [if_neg c]
    rw [e]
    have h := K_high_bad l D cI cL cC cB cZ cR sz ka z g.C g.S g.B p0 hra (nin1 c)
    exact x_uni h ⟨Nat.le_of_ble_eq_true rfl, Nat.le_of_ble_eq_true rfl, Nat.le_of_ble_eq_true rfl, Nat.le_of_ble_eq_true rfl⟩ (Nat.le_of_ble_eq_true rfl) (Nat.le_of_ble_eq_true rfl) (fun y u hp => ⟨u, ⟨hp.1, kU_K hp.2 hk⟩, rfl⟩)
abbrev rm_U_scale : Room := { frames := 1, cells := 0, slots := 0, locals := 20 }
set_option maxRecDepth 100000 in
theorem U_scale (l : Launch) (D : va_G) (cI cL cC cB cZ cR : ClassId) (sz : Nat) (ka : kA) (z : kS) (g : gS) (p0 : Int32) (hra : ∀ i, i < 6 → ka.ra i = some (ka.r i)) (hk : kU z g) (hG : gOk g)  : Met l yX7_scale wsX7_scale rm_U_scale (xPc D vwCl (tyAll cI cL cC cB cZ cR) [.ref ka.k9, .int p0] ((kB cL cC cB cR ka z ++ rgs (kR ka g.C g.S g.B))) sz) (va_Qi (fun (y : Int32) (u : kS) => y = sScale g p0 ∧ kU u g) (xB D vwCl (tyAll cI cL cC cB cZ cR) (va_A ((kB cL cC cB cR ka z ++ rgs (kR ka g.C g.S g.B))) sz) (fun u : kS => (kB cL cC cB cR ka u ++ rgs (kR ka g.C g.S g.B)))) (va_A ((kB cL cC cB cR ka z ++ rgs (kR ka g.C g.S g.B))) sz)) 0 0 (va_A ((kB cL cC cB cR ka z ++ rgs (kR ka g.C g.S g.B))) sz) := by
  by_cases c : inR 6 p0 = 1
  · skip
    have e : sScale g p0 = nI (g.S (iN p0)) := by unfold sScale; rw [if_pos c]
    rw [e]
    have h := K_scale l D cI cL cC cB cZ cR sz ka z g.C g.S g.B (iN p0) hra (i6 c) (hG.1 _ (i6 c)).2.2
    rw [nI_iN p0] at h
    exact x_uni h ⟨Nat.le_of_ble_eq_true rfl, Nat.le_of_ble_eq_true rfl, Nat.le_of_ble_eq_true rfl, Nat.le_of_ble_eq_true rfl⟩ (Nat.le_of_ble_eq_true rfl) (Nat.le_of_ble_eq_true rfl) (fun y u hp => ⟨u, ⟨hp.1, kU_K hp.2 hk⟩, rfl⟩)
  · skip
    have e : sScale g p0 = -1 := by unfold sScale; rw [if_neg c]
    rw [e]
    have h := K_scale_bad l D cI cL cC cB cZ cR sz ka z g.C g.S g.B p0 hra (nin1 c)
    exact x_uni h ⟨Nat.le_of_ble_eq_true rfl, Nat.le_of_ble_eq_true rfl, Nat.le_of_ble_eq_true rfl, Nat.le_of_ble_eq_true rfl⟩ (Nat.le_of_ble_eq_true rfl) (Nat.le_of_ble_eq_true rfl) (fun y u hp => ⟨u, ⟨hp.1, kU_K hp.2 hk⟩, rfl⟩)
abbrev rm_U_neg : Room := { frames := 1, cells := 0, slots := 0, locals := 20 }
set_option maxRecDepth 100000 in
theorem U_neg (l : Launch) (D : va_G) (cI cL cC cB cZ cR : ClassId) (sz : Nat) (ka : kA) (z : kS) (g : gS) (p0 : Int32) (hra : ∀ i, i < 6 → ka.ra i = some (ka.r i)) (hk : kU z g) (hG : gOk g)  : Met l yX7_negative wsX7_negative rm_U_neg (xPc D vwCl (tyAll cI cL cC cB cZ cR) [.ref ka.k9, .int p0] ((kB cL cC cB cR ka z ++ rgs (kR ka g.C g.S g.B))) sz) (va_Qi (fun (y : Int32) (u : kS) => y = sNeg g p0 ∧ kU u g) (xB D vwCl (tyAll cI cL cC cB cZ cR) (va_A ((kB cL cC cB cR ka z ++ rgs (kR ka g.C g.S g.B))) sz) (fun u : kS => (kB cL cC cB cR ka u ++ rgs (kR ka g.C g.S g.B)))) (va_A ((kB cL cC cB cR ka z ++ rgs (kR ka g.C g.S g.B))) sz)) 0 0 (va_A ((kB cL cC cB cR ka z ++ rgs (kR ka g.C g.S g.B))) sz) := by
  by_cases c : inR 6 p0 = 1
  · skip
    have e : sNeg g p0 = nI (g.B (iN p0)) := by unfold sNeg; rw [if_pos c]
    rw [e]
    have h := K_neg l D cI cL cC cB cZ cR sz ka z g.C g.S g.B (iN p0) hra (i6 c) (hG.1 _ (i6 c)).2.2
    rw [nI_iN p0] at h
    exact x_uni h ⟨Nat.le_of_ble_eq_true rfl, Nat.le_of_ble_eq_true rfl, Nat.le_of_ble_eq_true rfl, Nat.le_of_ble_eq_true rfl⟩ (Nat.le_of_ble_eq_true rfl) (Nat.le_of_ble_eq_true rfl) (fun y u hp => ⟨u, ⟨hp.1, kU_K hp.2 hk⟩, rfl⟩)
  · skip
    have e : sNeg g p0 = nI 0 := by unfold sNeg; rw [if_neg c]
    rw [e]
    have h := K_neg_bad l D cI cL cC cB cZ cR sz ka z g.C g.S g.B p0 hra (nin1 c)
    exact x_uni h ⟨Nat.le_of_ble_eq_true rfl, Nat.le_of_ble_eq_true rfl, Nat.le_of_ble_eq_true rfl, Nat.le_of_ble_eq_true rfl⟩ (Nat.le_of_ble_eq_true rfl) (Nat.le_of_ble_eq_true rfl) (fun y u hp => ⟨u, ⟨hp.1, kU_K hp.2 hk⟩, rfl⟩)
abbrev rm_U_compute : Room := { frames := 7, cells := 1, slots := 6, locals := 162 }
set_option maxRecDepth 100000 in
theorem U_compute (l : Launch) (D : va_G) (cI cL cC cB cZ cR : ClassId) (sz N0 : Nat) (ka : kA) (z : kS) (g : gS) (p0 : Int32) (p1 : Int32) (p2 : Int32) (p3 : Int32) (hra : ∀ i, i < 6 → ka.ra i = some (ka.r i)) (hk : kU z g) (hG : gOk g)  (hN0 : ∀ q ∈ (((kB cL cC cB cR ka z ++ rgs (kR ka g.C g.S g.B))) : va_W), N0 ≤ q.1) (htr : l.stackTraces = false) : Met l yL_compute wsL_compute rm_U_compute (xPcT D vwCl (tyAll cI cL cC cB cZ cR) [.ref ka.k9, .int p0, .int p1, .int p2, .int p3] ((kB cL cC cB cR ka z ++ rgs (kR ka g.C g.S g.B))) sz N0) (va_Qi (fun (y : Int32) (u : kS) => y = nI (sComp g p0 p1 p2 p3).1 ∧ kU u (sComp g p0 p1 p2 p3).2) (xB D vwCl (tyAll cI cL cC cB cZ cR) (va_A ((kB cL cC cB cR ka z ++ rgs (kR ka g.C g.S g.B))) sz) (fun u : kS => (kB cL cC cB cR ka u ++ rgs (kR ka ((sComp g p0 p1 p2 p3).2).C ((sComp g p0 p1 p2 p3).2).S ((sComp g p0 p1 p2 p3).2).B)))) (va_A ((kB cL cC cB cR ka z ++ rgs (kR ka g.C g.S g.B))) sz)) 1 6 (va_A ((kB cL cC cB cR ka z ++ rgs (kR ka g.C g.S g.B))) sz) := by
  by_cases c : okR p0 p1 p2 p3 = 1
  · cases ho : gOp g p0 p2 p3 with
    | none =>
      have e : sComp g p0 p1 p2 p3 = (2, g) := by unfold sComp; rw [if_pos c, ho]
      rw [e]
      have h := L_compute_a l D cI cL cC cB cZ cR sz N0 ka z g.C g.S g.B (iN p0) (iN p1) (iN p2) (iN p3) hra hG.1 (i5 (okR_4 c).1) (i6 (okR_4 c).2.2.1) (i6 (okR_4 c).2.2.2) (i6 (okR_4 c).2.1) ho hN0 htr
      rw [nI_iN p0] at h
      rw [nI_iN p1] at h
      rw [nI_iN p2] at h
      rw [nI_iN p3] at h
      exact x_uni h ⟨Nat.le_of_ble_eq_true rfl, Nat.le_of_ble_eq_true rfl, Nat.le_of_ble_eq_true rfl, Nat.le_of_ble_eq_true rfl⟩ (Nat.le_of_ble_eq_true rfl) (Nat.le_of_ble_eq_true rfl) (fun y u hp => ⟨u, ⟨hp.1, kU_K hp.2 hk⟩, rfl⟩)
    | some q9 =>
      obtain ⟨q, s3, g3⟩ := q9
      have e : sComp g p0 p1 p2 p3 = (0, g.reg (iN p1) q s3 g3) := by unfold sComp; rw [if_pos c, ho]
      rw [e]
      have h := L_compute_y l D cI cL cC cB cZ cR sz N0 ka z g.C g.S g.B (iN p0) (iN p1) (iN p2) (iN p3) q s3 g3 hra hG.1 (i5 (okR_4 c).1) (i6 (okR_4 c).2.2.1) (i6 (okR_4 c).2.2.2) (i6 (okR_4 c).2.1) ho hN0 htr
      rw [nI_iN p0] at h
      rw [nI_iN p1] at h
      rw [nI_iN p2] at h
      rw [nI_iN p3] at h
      exact x_uni h ⟨Nat.le_of_ble_eq_true rfl, Nat.le_of_ble_eq_true rfl, Nat.le_of_ble_eq_true rfl, Nat.le_of_ble_eq_true rfl⟩ (Nat.le_of_ble_eq_true rfl) (Nat.le_of_ble_eq_true rfl) (fun y u hp => ⟨u, ⟨hp.1, kU_K hp.2 hk⟩, rfl⟩)
  · skip
    have e : sComp g p0 p1 p2 p3 = (1, g) := by unfold sComp; rw [if_neg c]
    rw [e]
    have h := L_compute_n l D cI cL cC cB cZ cR sz N0 ka z g.C g.S g.B p0 p1 p2 p3 (nok c) hN0 htr
    exact x_uni h ⟨Nat.le_of_ble_eq_true rfl, Nat.le_of_ble_eq_true rfl, Nat.le_of_ble_eq_true rfl, Nat.le_of_ble_eq_true rfl⟩ (Nat.le_of_ble_eq_true rfl) (Nat.le_of_ble_eq_true rfl) (fun y u hp => ⟨z, ⟨hp, hk⟩, rfl⟩)
abbrev rm_U_attempt : Room := { frames := 6, cells := 0, slots := 0, locals := 138 }
set_option maxRecDepth 100000 in
theorem U_attempt (l : Launch) (D : va_G) (cI cL cC cB cZ cR : ClassId) (sz : Nat) (ka : kA) (z : kS) (g : gS) (p0 : Int32) (p1 : Int32) (p2 : Int32) (p3 : Int32) (hra : ∀ i, i < 6 → ka.ra i = some (ka.r i)) (hk : kU z g) (hG : gOk g)  : Met l yX7_attempt wsX7_attempt rm_U_attempt (xPc D vwCl (tyAll cI cL cC cB cZ cR) [.ref ka.k9, .int p0, .int p1, .int p2, .int p3] ((kB cL cC cB cR ka z ++ rgs (kR ka g.C g.S g.B))) sz) (va_Qi (fun (y : Int32) (u : kS) => y = nI (sAtt g p0 p1 p2 p3).1 ∧ kU u (sAtt g p0 p1 p2 p3).2) (xB D vwCl (tyAll cI cL cC cB cZ cR) (va_A ((kB cL cC cB cR ka z ++ rgs (kR ka g.C g.S g.B))) sz) (fun u : kS => (kB cL cC cB cR ka u ++ rgs (kR ka ((sAtt g p0 p1 p2 p3).2).C ((sAtt g p0 p1 p2 p3).2).S ((sAtt g p0 p1 p2 p3).2).B)))) (va_A ((kB cL cC cB cR ka z ++ rgs (kR ka g.C g.S g.B))) sz)) 0 0 (va_A ((kB cL cC cB cR ka z ++ rgs (kR ka g.C g.S g.B))) sz) := by
  by_cases c : okR p0 p1 p2 p3 = 1
  · cases ho : gOp g p0 p2 p3 with
    | none =>
      have e : sAtt g p0 p1 p2 p3 = (0, g) := by unfold sAtt; rw [if_pos c, ho]
      rw [e]
      have h := K_attempt_no l D cI cL cC cB cZ cR sz ka z g.C g.S g.B (iN p0) (iN p1) (iN p2) (iN p3) hra hG.1 (i5 (okR_4 c).1) (i6 (okR_4 c).2.2.1) (i6 (okR_4 c).2.2.2) (i6 (okR_4 c).2.1) ho
      rw [nI_iN p0] at h
      rw [nI_iN p1] at h
      rw [nI_iN p2] at h
      rw [nI_iN p3] at h
      exact x_uni h ⟨Nat.le_of_ble_eq_true rfl, Nat.le_of_ble_eq_true rfl, Nat.le_of_ble_eq_true rfl, Nat.le_of_ble_eq_true rfl⟩ (Nat.le_of_ble_eq_true rfl) (Nat.le_of_ble_eq_true rfl) (fun y u hp => ⟨u, ⟨hp.1, kU_K hp.2 hk⟩, rfl⟩)
    | some q9 =>
      obtain ⟨q, s3, g3⟩ := q9
      have e : sAtt g p0 p1 p2 p3 = (1, g.reg (iN p1) q s3 g3) := by unfold sAtt; rw [if_pos c, ho]
      rw [e]
      have h := K_attempt l D cI cL cC cB cZ cR sz ka z g.C g.S g.B (iN p0) (iN p1) (iN p2) (iN p3) q s3 g3 hra hG.1 (i5 (okR_4 c).1) (i6 (okR_4 c).2.2.1) (i6 (okR_4 c).2.2.2) (i6 (okR_4 c).2.1) ho
      rw [nI_iN p0] at h
      rw [nI_iN p1] at h
      rw [nI_iN p2] at h
      rw [nI_iN p3] at h
      exact x_uni h ⟨Nat.le_of_ble_eq_true rfl, Nat.le_of_ble_eq_true rfl, Nat.le_of_ble_eq_true rfl, Nat.le_of_ble_eq_true rfl⟩ (Nat.le_of_ble_eq_true rfl) (Nat.le_of_ble_eq_true rfl) (fun y u hp => ⟨u, ⟨hp.1, kU_K hp.2 hk⟩, rfl⟩)
  · skip
    have e : sAtt g p0 p1 p2 p3 = (0, g) := by unfold sAtt; rw [if_neg c]
    rw [e]
    have h := K_attempt_bad l D cI cL cC cB cZ cR sz ka z g.C g.S g.B p0 p1 p2 p3 hra (nok c)
    exact x_uni h ⟨Nat.le_of_ble_eq_true rfl, Nat.le_of_ble_eq_true rfl, Nat.le_of_ble_eq_true rfl, Nat.le_of_ble_eq_true rfl⟩ (Nat.le_of_ble_eq_true rfl) (Nat.le_of_ble_eq_true rfl) (fun y u hp => ⟨u, ⟨hp.1, kU_K hp.2 hk⟩, rfl⟩)
abbrev rm_U_round : Room := { frames := 7, cells := 1, slots := 6, locals := 123 }
set_option maxRecDepth 100000 in
theorem U_round (l : Launch) (D : va_G) (cI cL cC cB cZ cR : ClassId) (sz N0 : Nat) (ka : kA) (z : kS) (g : gS) (p0 : Int32) (p1 : Int32) (p2 : Int32) (p3 : Int32) (hra : ∀ i, i < 6 → ka.ra i = some (ka.r i)) (hk : kU z g) (hG : gOk g)  (hN0 : ∀ q ∈ (((kB cL cC cB cR ka z ++ rgs (kR ka g.C g.S g.B))) : va_W), N0 ≤ q.1) (htr : l.stackTraces = false) : Met l yL_round wsL_round rm_U_round (xPcT D vwCl (tyAll cI cL cC cB cZ cR) [.ref ka.k9, .int p0, .int p1, .int p2, .int p3] ((kB cL cC cB cR ka z ++ rgs (kR ka g.C g.S g.B))) sz N0) (va_Qi (fun (y : Int32) (u : kS) => y = nI (sRound g p0 p1 p2 p3).1 ∧ kU u (sRound g p0 p1 p2 p3).2) (xB D vwCl (tyAll cI cL cC cB cZ cR) (va_A ((kB cL cC cB cR ka z ++ rgs (kR ka g.C g.S g.B))) sz) (fun u : kS => (kB cL cC cB cR ka u ++ rgs (kR ka ((sRound g p0 p1 p2 p3).2).C ((sRound g p0 p1 p2 p3).2).S ((sRound g p0 p1 p2 p3).2).B)))) (va_A ((kB cL cC cB cR ka z ++ rgs (kR ka g.C g.S g.B))) sz)) 1 6 (va_A ((kB cL cC cB cR ka z ++ rgs (kR ka g.C g.S g.B))) sz) := by
  by_cases c : inR 6 p0 = 1 ∧ inR 6 p1 = 1 ∧ inR 29 p2 = 1 ∧ inR 5 p3 = 1
  · skip
    have e : sRound g p0 p1 p2 p3 = (0, g.reg (iN p0) (rdC (iN p3) (g.B (iN p1)) (g.C (iN p1)) (g.S (iN p1)) (iN p2)) (rdS (g.S (iN p1)) (iN p2)) (g.B (iN p1))) := by unfold sRound; rw [if_pos c]
    rw [e]
    have h := L_round_y l D cI cL cC cB cZ cR sz N0 ka z g.C g.S g.B (iN p0) (iN p1) (iN p2) (iN p3) hra hG.1 (i6 c.2.1) (i6 c.1) (i29 c.2.2.1) (i5 c.2.2.2) hN0 htr
    rw [nI_iN p0] at h
    rw [nI_iN p1] at h
    rw [nI_iN p2] at h
    rw [nI_iN p3] at h
    exact x_uni h ⟨Nat.le_of_ble_eq_true rfl, Nat.le_of_ble_eq_true rfl, Nat.le_of_ble_eq_true rfl, Nat.le_of_ble_eq_true rfl⟩ (Nat.le_of_ble_eq_true rfl) (Nat.le_of_ble_eq_true rfl) (fun y u hp => ⟨u, ⟨hp.1, kU_K hp.2 hk⟩, rfl⟩)
  · skip
    have e : sRound g p0 p1 p2 p3 = (1, g) := by unfold sRound; rw [if_neg c]
    rw [e]
    have h := L_round_n l D cI cL cC cB cZ cR sz N0 ka z g.C g.S g.B p0 p1 p2 p3 (nin4 c) hN0 htr
    exact x_uni h ⟨Nat.le_of_ble_eq_true rfl, Nat.le_of_ble_eq_true rfl, Nat.le_of_ble_eq_true rfl, Nat.le_of_ble_eq_true rfl⟩ (Nat.le_of_ble_eq_true rfl) (Nat.le_of_ble_eq_true rfl) (fun y u hp => ⟨z, ⟨hp, hk⟩, rfl⟩)
abbrev rm_U_trim : Room := { frames := 7, cells := 1, slots := 6, locals := 121 }
set_option maxRecDepth 100000 in
theorem U_trim (l : Launch) (D : va_G) (cI cL cC cB cZ cR : ClassId) (sz N0 : Nat) (ka : kA) (z : kS) (g : gS) (p0 : Int32) (p1 : Int32) (hra : ∀ i, i < 6 → ka.ra i = some (ka.r i)) (hk : kU z g) (hG : gOk g)  (hN0 : ∀ q ∈ (((kB cL cC cB cR ka z ++ rgs (kR ka g.C g.S g.B))) : va_W), N0 ≤ q.1) (htr : l.stackTraces = false) : Met l yL_trim wsL_trim rm_U_trim (xPcT D vwCl (tyAll cI cL cC cB cZ cR) [.ref ka.k9, .int p0, .int p1] ((kB cL cC cB cR ka z ++ rgs (kR ka g.C g.S g.B))) sz N0) (va_Qi (fun (y : Int32) (u : kS) => y = nI (sTrim g p0 p1).1 ∧ kU u (sTrim g p0 p1).2) (xB D vwCl (tyAll cI cL cC cB cZ cR) (va_A ((kB cL cC cB cR ka z ++ rgs (kR ka g.C g.S g.B))) sz) (fun u : kS => (kB cL cC cB cR ka u ++ rgs (kR ka ((sTrim g p0 p1).2).C ((sTrim g p0 p1).2).S ((sTrim g p0 p1).2).B)))) (va_A ((kB cL cC cB cR ka z ++ rgs (kR ka g.C g.S g.B))) sz)) 1 6 (va_A ((kB cL cC cB cR ka z ++ rgs (kR ka g.C g.S g.B))) sz) := by
  by_cases c : inR 6 p0 = 1 ∧ inR 6 p1 = 1
  · skip
    have e : sTrim g p0 p1 = (0, g.reg (iN p0) (trm (g.C (iN p1)) (g.S (iN p1))).1 (trm (g.C (iN p1)) (g.S (iN p1))).2 (g.B (iN p1))) := by unfold sTrim; rw [if_pos c]
    rw [e]
    have h := L_trim_y l D cI cL cC cB cZ cR sz N0 ka z g.C g.S g.B (iN p0) (iN p1) hra hG.1 (i6 c.2) (i6 c.1) hN0 htr
    rw [nI_iN p0] at h
    rw [nI_iN p1] at h
    exact x_uni h ⟨Nat.le_of_ble_eq_true rfl, Nat.le_of_ble_eq_true rfl, Nat.le_of_ble_eq_true rfl, Nat.le_of_ble_eq_true rfl⟩ (Nat.le_of_ble_eq_true rfl) (Nat.le_of_ble_eq_true rfl) (fun y u hp => ⟨u, ⟨hp.1, kU_K hp.2 hk⟩, rfl⟩)
  · skip
    have e : sTrim g p0 p1 = (1, g) := by unfold sTrim; rw [if_neg c]
    rw [e]
    have h := L_trim_n l D cI cL cC cB cZ cR sz N0 ka z g.C g.S g.B p0 p1 (nin2 c) hN0 htr
    exact x_uni h ⟨Nat.le_of_ble_eq_true rfl, Nat.le_of_ble_eq_true rfl, Nat.le_of_ble_eq_true rfl, Nat.le_of_ble_eq_true rfl⟩ (Nat.le_of_ble_eq_true rfl) (Nat.le_of_ble_eq_true rfl) (fun y u hp => ⟨z, ⟨hp, hk⟩, rfl⟩)
abbrev rm_U_compare : Room := { frames := 7, cells := 1, slots := 6, locals := 121 }
set_option maxRecDepth 100000 in
theorem U_compare (l : Launch) (D : va_G) (cI cL cC cB cZ cR : ClassId) (sz N0 : Nat) (ka : kA) (z : kS) (g : gS) (oc : Nat) (p0 : Int32) (p1 : Int32) (fo9 : Nat → Int64) (hra : ∀ i, i < 6 → ka.ra i = some (ka.r i)) (hk : kU z g) (hG : gOk g)  (hN0 : ∀ q ∈ ((((kB cL cC cB cR ka z ++ rgs (kR ka g.C g.S g.B)) ++ ([(oc, .inl (cL, 1, .inr (.inl fo9)))] : va_W))) : va_W), N0 ≤ q.1) (htr : l.stackTraces = false) : Met l yL_compare wsL_compare rm_U_compare (xPcT D vwCl (tyAll cI cL cC cB cZ cR) [.ref ka.k9, .int p0, .int p1, .ref oc] (((kB cL cC cB cR ka z ++ rgs (kR ka g.C g.S g.B)) ++ ([(oc, .inl (cL, 1, .inr (.inl fo9)))] : va_W))) sz N0) (va_Qi (fun (y : Int32) (u : (kS × (Nat → Int64))) => y = nI (sCmp g p0 p1).1 ∧ kU u.1 g ∧ ((sCmp g p0 p1).1 = 0 → u.2 0 = (sCmp g p0 p1).2.toInt64)) (xB D vwCl (tyAll cI cL cC cB cZ cR) (va_A (((kB cL cC cB cR ka z ++ rgs (kR ka g.C g.S g.B)) ++ ([(oc, .inl (cL, 1, .inr (.inl fo9)))] : va_W))) sz) (fun u : (kS × (Nat → Int64)) => ((kB cL cC cB cR ka u.1 ++ rgs (kR ka g.C g.S g.B)) ++ ([(oc, .inl (cL, 1, .inr (.inl u.2)))] : va_W)))) (va_A (((kB cL cC cB cR ka z ++ rgs (kR ka g.C g.S g.B)) ++ ([(oc, .inl (cL, 1, .inr (.inl fo9)))] : va_W))) sz)) 1 6 (va_A (((kB cL cC cB cR ka z ++ rgs (kR ka g.C g.S g.B)) ++ ([(oc, .inl (cL, 1, .inr (.inl fo9)))] : va_W))) sz) := by
  by_cases c : inR 6 p0 = 1 ∧ inR 6 p1 = 1
  · skip
    have e : sCmp g p0 p1 = (0, gCmp g (iN p0) (iN p1)) := by unfold sCmp; rw [if_pos c]
    rw [e]
    have h := L_compare_y l D cI cL cC cB cZ cR sz N0 ka z g.C g.S g.B oc (iN p0) (iN p1) fo9 hra hG.1 (i6 c.1) (i6 c.2) hG.2.1 hN0 htr
    rw [nI_iN p0] at h
    rw [nI_iN p1] at h
    exact x_uni h ⟨Nat.le_of_ble_eq_true rfl, Nat.le_of_ble_eq_true rfl, Nat.le_of_ble_eq_true rfl, Nat.le_of_ble_eq_true rfl⟩ (Nat.le_of_ble_eq_true rfl) (Nat.le_of_ble_eq_true rfl) (fun y u hp => ⟨u, ⟨hp.1, kU_K hp.2.2 hk, fun _ => hp.2.1⟩, rfl⟩)
  · skip
    have e : sCmp g p0 p1 = (1, nI 0) := by unfold sCmp; rw [if_neg c]
    rw [e]
    have h := L_compare_n l D cI cL cC cB cZ cR sz N0 ka z g.C g.S g.B oc p0 p1 fo9 (nin2 c) hN0 htr
    exact x_uni h ⟨Nat.le_of_ble_eq_true rfl, Nat.le_of_ble_eq_true rfl, Nat.le_of_ble_eq_true rfl, Nat.le_of_ble_eq_true rfl⟩ (Nat.le_of_ble_eq_true rfl) (Nat.le_of_ble_eq_true rfl) (fun y u hp => ⟨(z, fo9), ⟨hp, hk, fun h => absurd h (Nat.succ_ne_zero _)⟩, rfl⟩)
abbrev rm_U_type : Room := { frames := 1, cells := 0, slots := 0, locals := 21 }
set_option maxRecDepth 100000 in
theorem U_type (l : Launch) (D : va_G) (cI cL cC cB cZ cR : ClassId) (sz : Nat) (ka : kA) (z : kS) (g : gS) (c9 : Nat) (hra : ∀ i, i < 6 → ka.ra i = some (ka.r i)) (hk : kU z g) (hG : gOk g) (hc9 : c9 < 65536) : Met l yX7_type wsX7_type rm_U_type (xPc D vwCl (tyAll cI cL cC cB cZ cR) [.ref ka.k9, .int (nI c9)] ((kB cL cC cB cR ka z ++ rgs (kR ka g.C g.S g.B))) sz) (va_Qi (fun (y : Int32) (u : kS) => y = nI (sType g c9).1 ∧ kU u (sType g c9).2) (xB D vwCl (tyAll cI cL cC cB cZ cR) (va_A ((kB cL cC cB cR ka z ++ rgs (kR ka g.C g.S g.B))) sz) (fun u : kS => (kB cL cC cB cR ka u ++ rgs (kR ka ((sType g c9).2).C ((sType g c9).2).S ((sType g c9).2).B)))) (va_A ((kB cL cC cB cR ka z ++ rgs (kR ka g.C g.S g.B))) sz)) 0 0 (va_A ((kB cL cC cB cR ka z ++ rgs (kR ka g.C g.S g.B))) sz) := by
  by_cases c : 32 ≤ c9 ∧ c9 ≤ 126 ∧ g.L.length ≠ 40
  · skip
    have e : sType g c9 = (1, g.txt (g.L ++ [c9])) := by unfold sType; rw [if_pos c]
    rw [e]
    have h := K_type_y l D cI cL cC cB cZ cR sz ka z g.C g.S g.B g.L c9 hra hk.1.1 hk.1.2 (Nat.lt_of_le_of_ne hG.2.2.1 c.2.2) c.1 c.2.1
    exact x_uni h ⟨Nat.le_of_ble_eq_true rfl, Nat.le_of_ble_eq_true rfl, Nat.le_of_ble_eq_true rfl, Nat.le_of_ble_eq_true rfl⟩ (Nat.le_of_ble_eq_true rfl) (Nat.le_of_ble_eq_true rfl) (fun y u hp => ⟨u, ⟨hp.1, kU_O hp.2.2 hk hp.2.1⟩, rfl⟩)
  · skip
    have e : sType g c9 = (0, g) := by unfold sType; rw [if_neg c]
    rw [e]
    have h := K_type_n l D cI cL cC cB cZ cR sz ka z g.C g.S g.B g.L c9 hra hk.1.1 hk.1.2 hc9 hG.2.2.1 c
    exact x_uni h ⟨Nat.le_of_ble_eq_true rfl, Nat.le_of_ble_eq_true rfl, Nat.le_of_ble_eq_true rfl, Nat.le_of_ble_eq_true rfl⟩ (Nat.le_of_ble_eq_true rfl) (Nat.le_of_ble_eq_true rfl) (fun y u hp => ⟨u, ⟨hp.1, kU_K hp.2 hk⟩, rfl⟩)
abbrev rm_U_clear : Room := { frames := 1, cells := 0, slots := 0, locals := 20 }
set_option maxRecDepth 100000 in
theorem U_clear (l : Launch) (D : va_G) (cI cL cC cB cZ cR : ClassId) (sz : Nat) (ka : kA) (z : kS) (g : gS)  (hra : ∀ i, i < 6 → ka.ra i = some (ka.r i)) (hk : kU z g) (hG : gOk g)  : Met l yX7_clear wsX7_clear rm_U_clear (xPc D vwCl (tyAll cI cL cC cB cZ cR) [.ref ka.k9] ((kB cL cC cB cR ka z ++ rgs (kR ka g.C g.S g.B))) sz) (va_Qv (fun u : kS => kU u (g.txt [])) (xB D vwCl (tyAll cI cL cC cB cZ cR) (va_A ((kB cL cC cB cR ka z ++ rgs (kR ka g.C g.S g.B))) sz) (fun u : kS => (kB cL cC cB cR ka u ++ rgs (kR ka (g.txt []).C (g.txt []).S (g.txt []).B)))) (va_A ((kB cL cC cB cR ka z ++ rgs (kR ka g.C g.S g.B))) sz)) 0 0 (va_A ((kB cL cC cB cR ka z ++ rgs (kR ka g.C g.S g.B))) sz) := by
  have h := K_clear l D cI cL cC cB cZ cR sz ka z g.C g.S g.B hra
  exact x_unv h ⟨Nat.le_of_ble_eq_true rfl, Nat.le_of_ble_eq_true rfl, Nat.le_of_ble_eq_true rfl, Nat.le_of_ble_eq_true rfl⟩ (Nat.le_of_ble_eq_true rfl) (Nat.le_of_ble_eq_true rfl) (fun u hp => ⟨u, kU_O hp.2 hk ⟨hp.1, oR_nil _⟩, rfl⟩)
abbrev rm_U_parse : Room := { frames := 7, cells := 1, slots := 6, locals := 120 }
set_option maxRecDepth 100000 in
theorem U_parse (l : Launch) (D : va_G) (cI cL cC cB cZ cR : ClassId) (sz N0 : Nat) (ka : kA) (z : kS) (g : gS) (p0 : Int32) (hra : ∀ i, i < 6 → ka.ra i = some (ka.r i)) (hk : kU z g) (hG : gOk g)  (hN0 : ∀ q ∈ (((kB cL cC cB cR ka z ++ rgs (kR ka g.C g.S g.B))) : va_W), N0 ≤ q.1) (htr : l.stackTraces = false) : Met l yL_parse wsL_parse rm_U_parse (xPcT D vwCl (tyAll cI cL cC cB cZ cR) [.ref ka.k9, .int p0] ((kB cL cC cB cR ka z ++ rgs (kR ka g.C g.S g.B))) sz N0) (va_Qi (fun (y : Int32) (u : kS) => y = nI (sParse g p0).1 ∧ kU u (sParse g p0).2) (xB D vwCl (tyAll cI cL cC cB cZ cR) (va_A ((kB cL cC cB cR ka z ++ rgs (kR ka g.C g.S g.B))) sz) (fun u : kS => (kB cL cC cB cR ka u ++ rgs (kR ka ((sParse g p0).2).C ((sParse g p0).2).S ((sParse g p0).2).B)))) (va_A ((kB cL cC cB cR ka z ++ rgs (kR ka g.C g.S g.B))) sz)) 1 6 (va_A ((kB cL cC cB cR ka z ++ rgs (kR ka g.C g.S g.B))) sz) := by
  by_cases c : inR 6 p0 = 1
  · cases hr : prR g.L with
    | none =>
      have e : sParse g p0 = (2, g) := by unfold sParse; rw [if_pos c, hr]
      rw [e]
      have h := L_parse_s l D cI cL cC cB cZ cR sz N0 ka z g.C g.S g.B (iN p0) g.L hra hk.1.1 hk.1.2 hG.2.2.1 hG.2.2.2.1 (i6 c) hr hN0 htr
      rw [nI_iN p0] at h
      exact x_uni h ⟨Nat.le_of_ble_eq_true rfl, Nat.le_of_ble_eq_true rfl, Nat.le_of_ble_eq_true rfl, Nat.le_of_ble_eq_true rfl⟩ (Nat.le_of_ble_eq_true rfl) (Nat.le_of_ble_eq_true rfl) (fun y u hp => ⟨u, ⟨hp.1, kU_K hp.2 hk⟩, rfl⟩)
    | some z9 =>
      obtain ⟨v, b9⟩ := z9
      cases hq : plc v (10 ^ b9) (min b9 28) with
      | none =>
        have e : sParse g p0 = (3, g) := by unfold sParse; rw [if_pos c]; simp only [hr, hq]
        rw [e]
        have h := L_parse_a l D cI cL cC cB cZ cR sz N0 ka z g.C g.S g.B (iN p0) v b9 g.L hra hk.1.1 hk.1.2 hG.2.2.1 hG.2.2.2.1 (i6 c) hr hq hN0 htr
        rw [nI_iN p0] at h
        exact x_uni h ⟨Nat.le_of_ble_eq_true rfl, Nat.le_of_ble_eq_true rfl, Nat.le_of_ble_eq_true rfl, Nat.le_of_ble_eq_true rfl⟩ (Nat.le_of_ble_eq_true rfl) (Nat.le_of_ble_eq_true rfl) (fun y u hp => ⟨u, ⟨hp.1, kU_K hp.2 hk⟩, rfl⟩)
      | some z9 =>
        obtain ⟨q, s3⟩ := z9
        have e : sParse g p0 = (0, g.reg (iN p0) q s3 (prN g.L)) := by unfold sParse; rw [if_pos c]; simp only [hr, hq]
        rw [e]
        have h := L_parse_y l D cI cL cC cB cZ cR sz N0 ka z g.C g.S g.B (iN p0) v b9 q s3 g.L hra hk.1.1 hk.1.2 hG.2.2.1 hG.2.2.2.1 (i6 c) hr hq hN0 htr
        rw [nI_iN p0] at h
        exact x_uni h ⟨Nat.le_of_ble_eq_true rfl, Nat.le_of_ble_eq_true rfl, Nat.le_of_ble_eq_true rfl, Nat.le_of_ble_eq_true rfl⟩ (Nat.le_of_ble_eq_true rfl) (Nat.le_of_ble_eq_true rfl) (fun y u hp => ⟨u, ⟨hp.1, kU_K hp.2 hk⟩, rfl⟩)
  · skip
    have e : sParse g p0 = (1, g) := by unfold sParse; rw [if_neg c]
    rw [e]
    have h := L_parse_n l D cI cL cC cB cZ cR sz N0 ka z g.C g.S g.B p0 (nin1 c) hN0 htr
    exact x_uni h ⟨Nat.le_of_ble_eq_true rfl, Nat.le_of_ble_eq_true rfl, Nat.le_of_ble_eq_true rfl, Nat.le_of_ble_eq_true rfl⟩ (Nat.le_of_ble_eq_true rfl) (Nat.le_of_ble_eq_true rfl) (fun y u hp => ⟨z, ⟨hp, hk⟩, rfl⟩)
abbrev rm_U_show : Room := { frames := 7, cells := 1, slots := 6, locals := 120 }
set_option maxRecDepth 100000 in
theorem U_show (l : Launch) (D : va_G) (cI cL cC cB cZ cR : ClassId) (sz N0 : Nat) (ka : kA) (z : kS) (g : gS) (oc : Nat) (p0 : Int32) (fo9 : Nat → Int64) (hra : ∀ i, i < 6 → ka.ra i = some (ka.r i)) (hk : kU z g) (hG : gOk g)  (hN0 : ∀ q ∈ ((((kB cL cC cB cR ka z ++ rgs (kR ka g.C g.S g.B)) ++ ([(oc, .inl (cL, 1, .inr (.inl fo9)))] : va_W))) : va_W), N0 ≤ q.1) (htr : l.stackTraces = false) : Met l yL_show wsL_show rm_U_show (xPcT D vwCl (tyAll cI cL cC cB cZ cR) [.ref ka.k9, .int p0, .ref oc] (((kB cL cC cB cR ka z ++ rgs (kR ka g.C g.S g.B)) ++ ([(oc, .inl (cL, 1, .inr (.inl fo9)))] : va_W))) sz N0) (va_Qi (fun (y : Int32) (u : (kS × (Nat → Int64))) => y = nI (sShow g p0).1 ∧ kU u.1 (sShow g p0).2 ∧ ((sShow g p0).1 = 0 → u.2 0 = lN (sShow g p0).2.O.length)) (xB D vwCl (tyAll cI cL cC cB cZ cR) (va_A (((kB cL cC cB cR ka z ++ rgs (kR ka g.C g.S g.B)) ++ ([(oc, .inl (cL, 1, .inr (.inl fo9)))] : va_W))) sz) (fun u : (kS × (Nat → Int64)) => ((kB cL cC cB cR ka u.1 ++ rgs (kR ka ((sShow g p0).2).C ((sShow g p0).2).S ((sShow g p0).2).B)) ++ ([(oc, .inl (cL, 1, .inr (.inl u.2)))] : va_W)))) (va_A (((kB cL cC cB cR ka z ++ rgs (kR ka g.C g.S g.B)) ++ ([(oc, .inl (cL, 1, .inr (.inl fo9)))] : va_W))) sz)) 1 6 (va_A (((kB cL cC cB cR ka z ++ rgs (kR ka g.C g.S g.B)) ++ ([(oc, .inl (cL, 1, .inr (.inl fo9)))] : va_W))) sz) := by
  by_cases c : inR 6 p0 = 1
  · skip
    have e : sShow g p0 = (0, g.out (gSh g (iN p0))) := by unfold sShow; rw [if_pos c]
    rw [e]
    have h := L_show_y l D cI cL cC cB cZ cR sz N0 ka z g.C g.S g.B oc (iN p0) fo9 hra hG.1 (i6 c) hN0 htr
    rw [nI_iN p0] at h
    rw [sgn_B hG (i6 c)] at h
    exact x_uni h ⟨Nat.le_of_ble_eq_true rfl, Nat.le_of_ble_eq_true rfl, Nat.le_of_ble_eq_true rfl, Nat.le_of_ble_eq_true rfl⟩ (Nat.le_of_ble_eq_true rfl) (Nat.le_of_ble_eq_true rfl) (fun y u hp => ⟨u, ⟨hp.1, kU_T hp.2.2.2 hk hp.2.2.1, fun _ => hp.2.1⟩, rfl⟩)
  · skip
    have e : sShow g p0 = (1, g) := by unfold sShow; rw [if_neg c]
    rw [e]
    have h := L_show_n l D cI cL cC cB cZ cR sz N0 ka z g.C g.S g.B oc p0 fo9 (nin1 c) hN0 htr
    exact x_uni h ⟨Nat.le_of_ble_eq_true rfl, Nat.le_of_ble_eq_true rfl, Nat.le_of_ble_eq_true rfl, Nat.le_of_ble_eq_true rfl⟩ (Nat.le_of_ble_eq_true rfl) (Nat.le_of_ble_eq_true rfl) (fun y u hp => ⟨(z, fo9), ⟨hp, hk, fun h => absurd h (Nat.succ_ne_zero _)⟩, rfl⟩)
abbrev rm_U_format : Room := { frames := 7, cells := 1, slots := 6, locals := 126 }
set_option maxRecDepth 100000 in
theorem U_format (l : Launch) (D : va_G) (cI cL cC cB cZ cR : ClassId) (sz N0 : Nat) (ka : kA) (z : kS) (g : gS) (oc : Nat) (p0 : Int32) (fo9 : Nat → Int64) (hra : ∀ i, i < 6 → ka.ra i = some (ka.r i)) (hk : kU z g) (hG : gOk g)  (hN0 : ∀ q ∈ ((((kB cL cC cB cR ka z ++ rgs (kR ka g.C g.S g.B)) ++ ([(oc, .inl (cL, 1, .inr (.inl fo9)))] : va_W))) : va_W), N0 ≤ q.1) (htr : l.stackTraces = false) : Met l yL_format wsL_format rm_U_format (xPcT D vwCl (tyAll cI cL cC cB cZ cR) [.ref ka.k9, .int p0, .ref oc] (((kB cL cC cB cR ka z ++ rgs (kR ka g.C g.S g.B)) ++ ([(oc, .inl (cL, 1, .inr (.inl fo9)))] : va_W))) sz N0) (va_Qi (fun (y : Int32) (u : (kS × (Nat → Int64))) => y = nI (sFmt g p0).1 ∧ kU u.1 (sFmt g p0).2 ∧ ((sFmt g p0).1 = 0 → u.2 0 = lN (sFmt g p0).2.O.length)) (xB D vwCl (tyAll cI cL cC cB cZ cR) (va_A (((kB cL cC cB cR ka z ++ rgs (kR ka g.C g.S g.B)) ++ ([(oc, .inl (cL, 1, .inr (.inl fo9)))] : va_W))) sz) (fun u : (kS × (Nat → Int64)) => ((kB cL cC cB cR ka u.1 ++ rgs (kR ka ((sFmt g p0).2).C ((sFmt g p0).2).S ((sFmt g p0).2).B)) ++ ([(oc, .inl (cL, 1, .inr (.inl u.2)))] : va_W)))) (va_A (((kB cL cC cB cR ka z ++ rgs (kR ka g.C g.S g.B)) ++ ([(oc, .inl (cL, 1, .inr (.inl fo9)))] : va_W))) sz)) 1 6 (va_A (((kB cL cC cB cR ka z ++ rgs (kR ka g.C g.S g.B)) ++ ([(oc, .inl (cL, 1, .inr (.inl fo9)))] : va_W))) sz) := by
  by_cases c : inR 6 p0 = 1
  · by_cases hO : ptO g.L = 1
    · skip
      have e : sFmt g p0 = (0, g.out (gTx g (iN p0))) := by unfold sFmt; rw [if_pos c, if_pos hO]
      rw [e]
      have h := L_format_y l D cI cL cC cB cZ cR sz N0 ka z g.C g.S g.B oc (iN p0) g.L fo9 hra hG.1 hk.1.1 hk.1.2 hG.2.2.1 hG.2.2.2.1 (i6 c) hO (Nat.le_trans (gTx_80 hG (i6 c) hO) (by decide)) hN0 htr
      rw [nI_iN p0] at h
      exact x_uni h ⟨Nat.le_of_ble_eq_true rfl, Nat.le_of_ble_eq_true rfl, Nat.le_of_ble_eq_true rfl, Nat.le_of_ble_eq_true rfl⟩ (Nat.le_of_ble_eq_true rfl) (Nat.le_of_ble_eq_true rfl) (fun y u hp => ⟨u, ⟨hp.1, kU_T hp.2.2.2 hk hp.2.2.1, fun _ => hp.2.1⟩, rfl⟩)
    · skip
      have e : sFmt g p0 = (2, g) := by unfold sFmt; rw [if_pos c, if_neg hO]
      rw [e]
      have h := L_format_s l D cI cL cC cB cZ cR sz N0 ka z g.C g.S g.B oc (iN p0) g.L fo9 hra hk.1.1 hk.1.2 hG.2.2.1 hG.2.2.2.1 (i6 c) (nptO hO) hN0 htr
      rw [nI_iN p0] at h
      exact x_uni h ⟨Nat.le_of_ble_eq_true rfl, Nat.le_of_ble_eq_true rfl, Nat.le_of_ble_eq_true rfl, Nat.le_of_ble_eq_true rfl⟩ (Nat.le_of_ble_eq_true rfl) (Nat.le_of_ble_eq_true rfl) (fun y u hp => ⟨(u, fo9), ⟨hp.1, kU_K hp.2 hk, fun h => absurd h (Nat.succ_ne_zero _)⟩, rfl⟩)
  · skip
    have e : sFmt g p0 = (1, g) := by unfold sFmt; rw [if_neg c]
    rw [e]
    have h := L_format_n l D cI cL cC cB cZ cR sz N0 ka z g.C g.S g.B oc p0 fo9 (nin1 c) hN0 htr
    exact x_uni h ⟨Nat.le_of_ble_eq_true rfl, Nat.le_of_ble_eq_true rfl, Nat.le_of_ble_eq_true rfl, Nat.le_of_ble_eq_true rfl⟩ (Nat.le_of_ble_eq_true rfl) (Nat.le_of_ble_eq_true rfl) (fun y u hp => ⟨(z, fo9), ⟨hp, hk, fun h => absurd h (Nat.succ_ne_zero _)⟩, rfl⟩)
abbrev rm_U_at : Room := { frames := 1, cells := 0, slots := 0, locals := 21 }
set_option maxRecDepth 100000 in
theorem U_at (l : Launch) (D : va_G) (cI cL cC cB cZ cR : ClassId) (sz : Nat) (ka : kA) (z : kS) (g : gS) (p0 : Int32) (hra : ∀ i, i < 6 → ka.ra i = some (ka.r i)) (hk : kU z g) (hG : gOk g)  : Met l yX7_at wsX7_at rm_U_at (xPc D vwCl (tyAll cI cL cC cB cZ cR) [.ref ka.k9, .int p0] ((kB cL cC cB cR ka z ++ rgs (kR ka g.C g.S g.B))) sz) (va_Qi (fun (y : Int32) (u : kS) => y = sAt g p0 ∧ kU u g) (xB D vwCl (tyAll cI cL cC cB cZ cR) (va_A ((kB cL cC cB cR ka z ++ rgs (kR ka g.C g.S g.B))) sz) (fun u : kS => (kB cL cC cB cR ka u ++ rgs (kR ka g.C g.S g.B)))) (va_A ((kB cL cC cB cR ka z ++ rgs (kR ka g.C g.S g.B))) sz)) 0 0 (va_A ((kB cL cC cB cR ka z ++ rgs (kR ka g.C g.S g.B))) sz) := by
  by_cases c : inR g.O.length p0 = 1
  · skip
    have e : sAt g p0 = nI (g.O.getD (iN p0) 0) := by unfold sAt; rw [if_pos c]
    rw [e]
    have h := K_at l D cI cL cC cB cZ cR sz ka z g.C g.S g.B g.O (iN p0) hra hk.2.1 hk.2.2 hG.2.2.2.2.1 (inR_iN (Nat.lt_of_le_of_lt hG.2.2.2.2.1 (by decide)) c)
    rw [nI_iN p0] at h
    exact x_uni h ⟨Nat.le_of_ble_eq_true rfl, Nat.le_of_ble_eq_true rfl, Nat.le_of_ble_eq_true rfl, Nat.le_of_ble_eq_true rfl⟩ (Nat.le_of_ble_eq_true rfl) (Nat.le_of_ble_eq_true rfl) (fun y u hp => ⟨u, ⟨hp.1, kU_K hp.2 hk⟩, rfl⟩)
  · skip
    have e : sAt g p0 = -1 := by unfold sAt; rw [if_neg c]
    rw [e]
    have h := K_at_bad l D cI cL cC cB cZ cR sz ka z g.C g.S g.B g.O p0 hra hk.2.1 (nin1 c)
    exact x_uni h ⟨Nat.le_of_ble_eq_true rfl, Nat.le_of_ble_eq_true rfl, Nat.le_of_ble_eq_true rfl, Nat.le_of_ble_eq_true rfl⟩ (Nat.le_of_ble_eq_true rfl) (Nat.le_of_ble_eq_true rfl) (fun y u hp => ⟨u, ⟨hp.1, kU_K hp.2 hk⟩, rfl⟩)
abbrev rm_U_reuse : Room := { frames := 1, cells := 0, slots := 0, locals := 21 }
set_option maxRecDepth 100000 in
theorem U_reuse (l : Launch) (D : va_G) (cI cL cC cB cZ cR : ClassId) (sz : Nat) (ka : kA) (z : kS) (g : gS)  (hra : ∀ i, i < 6 → ka.ra i = some (ka.r i)) (hk : kU z g) (hG : gOk g)  : Met l yX7_reuse wsX7_reuse rm_U_reuse (xPc D vwCl (tyAll cI cL cC cB cZ cR) [.ref ka.k9] ((kB cL cC cB cR ka z ++ rgs (kR ka g.C g.S g.B))) sz) (va_Qi (fun (y : Int32) (u : kS) => y = nI (sReuse g).1 ∧ kU u (sReuse g).2) (xB D vwCl (tyAll cI cL cC cB cZ cR) (va_A ((kB cL cC cB cR ka z ++ rgs (kR ka g.C g.S g.B))) sz) (fun u : kS => (kB cL cC cB cR ka u ++ rgs (kR ka ((sReuse g).2).C ((sReuse g).2).S ((sReuse g).2).B)))) (va_A ((kB cL cC cB cR ka z ++ rgs (kR ka g.C g.S g.B))) sz)) 0 0 (va_A ((kB cL cC cB cR ka z ++ rgs (kR ka g.C g.S g.B))) sz) := by
  by_cases c : g.O.length ≤ 40
  · skip
    have e : sReuse g = (1, g.txt g.O) := by unfold sReuse; rw [if_pos c]
    rw [e]
    have h := K_reuse_y l D cI cL cC cB cZ cR sz ka z g.C g.S g.B g.O hra hk.2.1 hk.2.2 c hG.2.2.2.2.2
    exact x_uni h ⟨Nat.le_of_ble_eq_true rfl, Nat.le_of_ble_eq_true rfl, Nat.le_of_ble_eq_true rfl, Nat.le_of_ble_eq_true rfl⟩ (Nat.le_of_ble_eq_true rfl) (Nat.le_of_ble_eq_true rfl) (fun y u hp => ⟨u, ⟨hp.1, kU_O hp.2.2 hk hp.2.1⟩, rfl⟩)
  · skip
    have e : sReuse g = (0, g) := by unfold sReuse; rw [if_neg c]
    rw [e]
    have h := K_reuse_n l D cI cL cC cB cZ cR sz ka z g.C g.S g.B g.O hra hk.2.1 hG.2.2.2.2.1 (Nat.not_le.mp c)
    exact x_uni h ⟨Nat.le_of_ble_eq_true rfl, Nat.le_of_ble_eq_true rfl, Nat.le_of_ble_eq_true rfl, Nat.le_of_ble_eq_true rfl⟩ (Nat.le_of_ble_eq_true rfl) (Nat.le_of_ble_eq_true rfl) (fun y u hp => ⟨u, ⟨hp.1, kU_K hp.2 hk⟩, rfl⟩)
