abbrev rm_M_set : Room := { frames := 2, cells := 0, slots := 0, locals := 47 }
set_option maxRecDepth 100000 in
theorem M_set (l : Launch) (D : va_G) (cI cL cC cB cZ cR : ClassId) (sz : Nat) (ma : mA) (w : mS) (g : gS) (p0 : Int32) (p1 : Int64) (p2 : Int32) (p3 : Int32) (p4 : Int32) (hU : mU w g) (hG : gOk g) (h4 : iN p4 ≤ 1) : Met l yX8_set wsX8_set rm_M_set (xPc D vwCl (tyAll cI cL cC cB cZ cR) [.ref ma.m9, .int p0, .long p1, .int p2, .int p3, .int p4] (mB cI cC cZ ma w) sz) (va_Qv (fun u : mS => u.th = nI (sSet g p0 p1 p2 p3 p4).1 ∧ mU u (sSet g p0 p1 p2 p3 p4).2) (xB D vwCl (tyAll cI cL cC cB cZ cR) (va_A (mB cI cC cZ ma w) sz) (fun u : mS => mB cI cC cZ ma u)) (va_A (mB cI cC cZ ma w) sz)) 0 0 (va_A (mB cI cC cZ ma w) sz) := by
  obtain ⟨th, si, le, pl, fd9, gr, bk, kp, pe, fg, fs, fb, fx, fo, fl, fn, fe, ft, fq, fr, fm⟩ := w
  obtain ⟨⟨hg, hs, hb9⟩, hl9, ⟨hsi, hx9⟩, hle, ho9⟩ := hU
  have hg : mD fg g.C := hg
  have hs : rI 6 fs g.S := hs
  have hb9 : rI 6 fb g.B := hb9
  have hl9 : dR fl lim := hl9
  have hsi : si = nI g.L.length := hsi
  have hx9 : oR fx g.L := hx9
  have hle : le = nI g.O.length := hle
  have ho9 : oR fo g.O := ho9
  subst hsi
  subst hle
  by_cases c : inR 6 p0 = 1 ∧ inR 29 p3 = 1
  · skip
    have e : sSet g p0 p1 p2 p3 p4 = (0, g.reg (iN p0) (jN p1 + 18446744073709551616 * iN p2) (iN p3) (iN p4)) := by unfold sSet; rw [if_pos c]
    rw [e]
    have h := c_set l D cI cL cC cB cZ cR sz ma.m9 ma.ad ma.as9 ma.ab ma.at9 ma.ao ma.al ma.an ma.ae ma.ap9 ma.aq ma.ar ma.am th (nI g.L.length) (nI g.O.length) pl fd9 gr bk kp pe (iN p0) (jN p1) (iN p2) (iN p3) (iN p4) g.C g.S g.B fg fs fb fn hg hs hb9 (i6 c.1) (jN_lt p1) (iN_lt p2) (i29 c.2) h4
    rw [nI_iN p0] at h
    rw [lN_jN p1] at h
    rw [nI_iN p2] at h
    rw [nI_iN p3] at h
    rw [nI_iN p4] at h
    refine x_fmv [0, 1, 2, 3, 7] rfl (by decide) ⟨Nat.le_of_ble_eq_true rfl, Nat.le_of_ble_eq_true rfl, Nat.le_of_ble_eq_true rfl, Nat.le_of_ble_eq_true rfl⟩ (Nat.le_refl _) (Nat.le_refl _) h (fun u hp => ⟨(nI 0, nI g.L.length, nI g.O.length, pl, fd9, gr, bk, kp, pe, u.1, u.2.1, u.2.2.1, fx, fo, fl, u.2.2.2, fe, ft, fq, fr, fm), ?_, fmO_c ⟨rfl, Or.inl (List.mem_of_getElem? (i := 0) rfl)⟩ (fmO_c ⟨rfl, Or.inl (List.mem_of_getElem? (i := 1) rfl)⟩ (fmO_c ⟨rfl, Or.inl (List.mem_of_getElem? (i := 2) rfl)⟩ (fmO_c ⟨rfl, Or.inl (List.mem_of_getElem? (i := 3) rfl)⟩ (fmO_c ⟨rfl, Or.inr ⟨by decide, rfl⟩⟩ (fmO_c ⟨rfl, Or.inr ⟨by decide, rfl⟩⟩ (fmO_c ⟨rfl, Or.inr ⟨by decide, rfl⟩⟩ (fmO_c ⟨rfl, Or.inl (List.mem_of_getElem? (i := 4) rfl)⟩ (fmO_c ⟨rfl, Or.inr ⟨by decide, rfl⟩⟩ (fmO_c ⟨rfl, Or.inr ⟨by decide, rfl⟩⟩ (fmO_c ⟨rfl, Or.inr ⟨by decide, rfl⟩⟩ (fmO_c ⟨rfl, Or.inr ⟨by decide, rfl⟩⟩ (fmO_c ⟨rfl, Or.inr ⟨by decide, rfl⟩⟩ (fmO_n)))))))))))))⟩)
    exact ⟨rfl, ⟨hp, hl9, ⟨rfl, hx9⟩, rfl, ho9⟩⟩
  · skip
    have e : sSet g p0 p1 p2 p3 p4 = (1, g) := by unfold sSet; rw [if_neg c]
    rw [e]
    have h := c_set_bad l D cI cL cC cB cZ cR sz ma.m9 ma.ad ma.as9 ma.ab ma.at9 ma.ao ma.al ma.an ma.ae ma.ap9 ma.aq ma.ar ma.am th (nI g.L.length) (nI g.O.length) pl fd9 gr bk kp pe p0 p2 p3 p4 p1 (nin2 c)
    refine x_fmv [0] rfl (by decide) ⟨Nat.le_of_ble_eq_true rfl, Nat.le_of_ble_eq_true rfl, Nat.le_of_ble_eq_true rfl, Nat.le_of_ble_eq_true rfl⟩ (Nat.le_refl _) (Nat.le_refl _) h (fun u hp => ⟨(nI 1, nI g.L.length, nI g.O.length, pl, fd9, gr, bk, kp, pe, fg, fs, fb, fx, fo, fl, fn, fe, ft, fq, fr, fm), ?_, fmO_c ⟨rfl, Or.inl (List.mem_of_getElem? (i := 0) rfl)⟩ (fmO_c ⟨rfl, Or.inr ⟨by decide, rfl⟩⟩ (fmO_c ⟨rfl, Or.inr ⟨by decide, rfl⟩⟩ (fmO_c ⟨rfl, Or.inr ⟨by decide, rfl⟩⟩ (fmO_c ⟨rfl, Or.inr ⟨by decide, rfl⟩⟩ (fmO_c ⟨rfl, Or.inr ⟨by decide, rfl⟩⟩ (fmO_c ⟨rfl, Or.inr ⟨by decide, rfl⟩⟩ (fmO_c ⟨rfl, Or.inr ⟨by decide, rfl⟩⟩ (fmO_c ⟨rfl, Or.inr ⟨by decide, rfl⟩⟩ (fmO_c ⟨rfl, Or.inr ⟨by decide, rfl⟩⟩ (fmO_c ⟨rfl, Or.inr ⟨by decide, rfl⟩⟩ (fmO_c ⟨rfl, Or.inr ⟨by decide, rfl⟩⟩ (fmO_c ⟨rfl, Or.inr ⟨by decide, rfl⟩⟩ (fmO_n)))))))))))))⟩)
    exact ⟨rfl, ⟨⟨hg, hs, hb9⟩, hl9, ⟨rfl, hx9⟩, rfl, ho9⟩⟩
abbrev rm_M_thrown : Room := { frames := 0, cells := 0, slots := 0, locals := 0 }
set_option maxRecDepth 100000 in
theorem M_thrown (l : Launch) (D : va_G) (cI cL cC cB cZ cR : ClassId) (sz : Nat) (ma : mA) (w : mS) (g : gS) (k : Nat) (hU : mU w g) (hG : gOk g) (hth : w.th = nI k) : Met l yX8_thrown wsX8_thrown rm_M_thrown (xPc D vwCl (tyAll cI cL cC cB cZ cR) [.ref ma.m9] (mB cI cC cZ ma w) sz) (va_Qi (fun (y : Int32) (u : mS) => y = nI k ∧ mU u g) (xB D vwCl (tyAll cI cL cC cB cZ cR) (va_A (mB cI cC cZ ma w) sz) (fun u : mS => mB cI cC cZ ma u)) (va_A (mB cI cC cZ ma w) sz)) 0 0 (va_A (mB cI cC cZ ma w) sz) := by
  obtain ⟨th, si, le, pl, fd9, gr, bk, kp, pe, fg, fs, fb, fx, fo, fl, fn, fe, ft, fq, fr, fm⟩ := w
  obtain ⟨⟨hg, hs, hb9⟩, hl9, ⟨hsi, hx9⟩, hle, ho9⟩ := hU
  have hg : mD fg g.C := hg
  have hs : rI 6 fs g.S := hs
  have hb9 : rI 6 fb g.B := hb9
  have hl9 : dR fl lim := hl9
  have hsi : si = nI g.L.length := hsi
  have hx9 : oR fx g.L := hx9
  have hle : le = nI g.O.length := hle
  have ho9 : oR fo g.O := ho9
  subst hsi
  subst hle
  have h := c_thrown l D cI cL cC cB cZ cR sz ma.m9 ma.ad ma.as9 ma.ab ma.at9 ma.ao ma.al ma.an ma.ae ma.ap9 ma.aq ma.ar ma.am th (nI g.L.length) (nI g.O.length) pl fd9 gr bk kp pe 
  refine x_fmi [0] rfl (by decide) ⟨Nat.le_of_ble_eq_true rfl, Nat.le_of_ble_eq_true rfl, Nat.le_of_ble_eq_true rfl, Nat.le_of_ble_eq_true rfl⟩ (Nat.le_refl _) (Nat.le_refl _) h (fun y u hp => ⟨(th, nI g.L.length, nI g.O.length, pl, fd9, gr, bk, kp, pe, fg, fs, fb, fx, fo, fl, fn, fe, ft, fq, fr, fm), ?_, fmO_c ⟨rfl, Or.inl (List.mem_of_getElem? (i := 0) rfl)⟩ (fmO_c ⟨rfl, Or.inr ⟨by decide, rfl⟩⟩ (fmO_c ⟨rfl, Or.inr ⟨by decide, rfl⟩⟩ (fmO_c ⟨rfl, Or.inr ⟨by decide, rfl⟩⟩ (fmO_c ⟨rfl, Or.inr ⟨by decide, rfl⟩⟩ (fmO_c ⟨rfl, Or.inr ⟨by decide, rfl⟩⟩ (fmO_c ⟨rfl, Or.inr ⟨by decide, rfl⟩⟩ (fmO_c ⟨rfl, Or.inr ⟨by decide, rfl⟩⟩ (fmO_c ⟨rfl, Or.inr ⟨by decide, rfl⟩⟩ (fmO_c ⟨rfl, Or.inr ⟨by decide, rfl⟩⟩ (fmO_c ⟨rfl, Or.inr ⟨by decide, rfl⟩⟩ (fmO_c ⟨rfl, Or.inr ⟨by decide, rfl⟩⟩ (fmO_c ⟨rfl, Or.inr ⟨by decide, rfl⟩⟩ (fmO_n)))))))))))))⟩)
  exact ⟨hp.trans hth, ⟨⟨hg, hs, hb9⟩, hl9, ⟨rfl, hx9⟩, rfl, ho9⟩⟩
abbrev rm_M_low : Room := { frames := 3, cells := 0, slots := 0, locals := 75 }
set_option maxRecDepth 100000 in
theorem M_low (l : Launch) (D : va_G) (cI cL cC cB cZ cR : ClassId) (sz : Nat) (ma : mA) (w : mS) (g : gS) (p0 : Int32) (hU : mU w g) (hG : gOk g)  : Met l yX8_low wsX8_low rm_M_low (xPc D vwCl (tyAll cI cL cC cB cZ cR) [.ref ma.m9, .int p0] (mB cI cC cZ ma w) sz) (va_Ql (fun (y : Int64) (u : mS) => y = sLow g p0 ∧ mU u g) (xB D vwCl (tyAll cI cL cC cB cZ cR) (va_A (mB cI cC cZ ma w) sz) (fun u : mS => mB cI cC cZ ma u)) (va_A (mB cI cC cZ ma w) sz)) 0 0 (va_A (mB cI cC cZ ma w) sz) := by
  obtain ⟨th, si, le, pl, fd9, gr, bk, kp, pe, fg, fs, fb, fx, fo, fl, fn, fe, ft, fq, fr, fm⟩ := w
  obtain ⟨⟨hg, hs, hb9⟩, hl9, ⟨hsi, hx9⟩, hle, ho9⟩ := hU
  have hg : mD fg g.C := hg
  have hs : rI 6 fs g.S := hs
  have hb9 : rI 6 fb g.B := hb9
  have hl9 : dR fl lim := hl9
  have hsi : si = nI g.L.length := hsi
  have hx9 : oR fx g.L := hx9
  have hle : le = nI g.O.length := hle
  have ho9 : oR fo g.O := ho9
  subst hsi
  subst hle
  by_cases c : inR 6 p0 = 1
  · skip
    have e : sLow g p0 = lN (g.C (iN p0) % 18446744073709551616) := by unfold sLow; rw [if_pos c]
    rw [e]
    have h := c_low l D cI cL cC cB cZ cR sz ma.m9 ma.ad ma.as9 ma.ab ma.at9 ma.ao ma.al ma.an ma.ae ma.ap9 ma.aq ma.ar ma.am th (nI g.L.length) (nI g.O.length) pl fd9 gr bk kp pe (iN p0) g.C fg fm hg (i6 c) (Nat.lt_trans (hG.1 _ (i6 c)).1 lim30)
    rw [nI_iN p0] at h
    refine x_fml [0, 1, 12] rfl (by decide) ⟨Nat.le_of_ble_eq_true rfl, Nat.le_of_ble_eq_true rfl, Nat.le_of_ble_eq_true rfl, Nat.le_of_ble_eq_true rfl⟩ (Nat.le_refl _) (Nat.le_refl _) h (fun y u hp => ⟨(nI 0, nI g.L.length, nI g.O.length, pl, fd9, gr, bk, kp, pe, fg, fs, fb, fx, fo, fl, fn, fe, ft, fq, fr, u), ?_, fmO_c ⟨rfl, Or.inl (List.mem_of_getElem? (i := 0) rfl)⟩ (fmO_c ⟨rfl, Or.inl (List.mem_of_getElem? (i := 1) rfl)⟩ (fmO_c ⟨rfl, Or.inr ⟨by decide, rfl⟩⟩ (fmO_c ⟨rfl, Or.inr ⟨by decide, rfl⟩⟩ (fmO_c ⟨rfl, Or.inr ⟨by decide, rfl⟩⟩ (fmO_c ⟨rfl, Or.inr ⟨by decide, rfl⟩⟩ (fmO_c ⟨rfl, Or.inr ⟨by decide, rfl⟩⟩ (fmO_c ⟨rfl, Or.inr ⟨by decide, rfl⟩⟩ (fmO_c ⟨rfl, Or.inr ⟨by decide, rfl⟩⟩ (fmO_c ⟨rfl, Or.inr ⟨by decide, rfl⟩⟩ (fmO_c ⟨rfl, Or.inr ⟨by decide, rfl⟩⟩ (fmO_c ⟨rfl, Or.inr ⟨by decide, rfl⟩⟩ (fmO_c ⟨rfl, Or.inl (List.mem_of_getElem? (i := 2) rfl)⟩ (fmO_n)))))))))))))⟩)
    exact ⟨hp, ⟨⟨hg, hs, hb9⟩, hl9, ⟨rfl, hx9⟩, rfl, ho9⟩⟩
  · skip
    have e : sLow g p0 = lN 0 := by unfold sLow; rw [if_neg c]
    rw [e]
    have h := c_low_bad l D cI cL cC cB cZ cR sz ma.m9 ma.ad ma.as9 ma.ab ma.at9 ma.ao ma.al ma.an ma.ae ma.ap9 ma.aq ma.ar ma.am th (nI g.L.length) (nI g.O.length) pl fd9 gr bk kp pe p0 (nin1 c)
    refine x_fml [0] rfl (by decide) ⟨Nat.le_of_ble_eq_true rfl, Nat.le_of_ble_eq_true rfl, Nat.le_of_ble_eq_true rfl, Nat.le_of_ble_eq_true rfl⟩ (Nat.le_refl _) (Nat.le_refl _) h (fun y u hp => ⟨(nI 0, nI g.L.length, nI g.O.length, pl, fd9, gr, bk, kp, pe, fg, fs, fb, fx, fo, fl, fn, fe, ft, fq, fr, fm), ?_, fmO_c ⟨rfl, Or.inl (List.mem_of_getElem? (i := 0) rfl)⟩ (fmO_c ⟨rfl, Or.inr ⟨by decide, rfl⟩⟩ (fmO_c ⟨rfl, Or.inr ⟨by decide, rfl⟩⟩ (fmO_c ⟨rfl, Or.inr ⟨by decide, rfl⟩⟩ (fmO_c ⟨rfl, Or.inr ⟨by decide, rfl⟩⟩ (fmO_c ⟨rfl, Or.inr ⟨by decide, rfl⟩⟩ (fmO_c ⟨rfl, Or.inr ⟨by decide, rfl⟩⟩ (fmO_c ⟨rfl, Or.inr ⟨by decide, rfl⟩⟩ (fmO_c ⟨rfl, Or.inr ⟨by decide, rfl⟩⟩ (fmO_c ⟨rfl, Or.inr ⟨by decide, rfl⟩⟩ (fmO_c ⟨rfl, Or.inr ⟨by decide, rfl⟩⟩ (fmO_c ⟨rfl, Or.inr ⟨by decide, rfl⟩⟩ (fmO_c ⟨rfl, Or.inr ⟨by decide, rfl⟩⟩ (fmO_n)))))))))))))⟩)
    exact ⟨hp, ⟨⟨hg, hs, hb9⟩, hl9, ⟨rfl, hx9⟩, rfl, ho9⟩⟩
abbrev rm_M_high : Room := { frames := 3, cells := 0, slots := 0, locals := 75 }
set_option maxRecDepth 100000 in
theorem M_high (l : Launch) (D : va_G) (cI cL cC cB cZ cR : ClassId) (sz : Nat) (ma : mA) (w : mS) (g : gS) (p0 : Int32) (hU : mU w g) (hG : gOk g)  : Met l yX8_high wsX8_high rm_M_high (xPc D vwCl (tyAll cI cL cC cB cZ cR) [.ref ma.m9, .int p0] (mB cI cC cZ ma w) sz) (va_Qi (fun (y : Int32) (u : mS) => y = sHigh g p0 ∧ mU u g) (xB D vwCl (tyAll cI cL cC cB cZ cR) (va_A (mB cI cC cZ ma w) sz) (fun u : mS => mB cI cC cZ ma u)) (va_A (mB cI cC cZ ma w) sz)) 0 0 (va_A (mB cI cC cZ ma w) sz) := by
  obtain ⟨th, si, le, pl, fd9, gr, bk, kp, pe, fg, fs, fb, fx, fo, fl, fn, fe, ft, fq, fr, fm⟩ := w
  obtain ⟨⟨hg, hs, hb9⟩, hl9, ⟨hsi, hx9⟩, hle, ho9⟩ := hU
  have hg : mD fg g.C := hg
  have hs : rI 6 fs g.S := hs
  have hb9 : rI 6 fb g.B := hb9
  have hl9 : dR fl lim := hl9
  have hsi : si = nI g.L.length := hsi
  have hx9 : oR fx g.L := hx9
  have hle : le = nI g.O.length := hle
  have ho9 : oR fo g.O := ho9
  subst hsi
  subst hle
  by_cases c : inR 6 p0 = 1
  · skip
    have e : sHigh g p0 = nI (dg 4294967296 (g.C (iN p0)) 2) := by unfold sHigh; rw [if_pos c]
    rw [e]
    have h := c_high l D cI cL cC cB cZ cR sz ma.m9 ma.ad ma.as9 ma.ab ma.at9 ma.ao ma.al ma.an ma.ae ma.ap9 ma.aq ma.ar ma.am th (nI g.L.length) (nI g.O.length) pl fd9 gr bk kp pe (iN p0) g.C fg fm hg (i6 c) (hG.1 _ (i6 c)).1
    rw [nI_iN p0] at h
    refine x_fmi [0, 1, 12] rfl (by decide) ⟨Nat.le_of_ble_eq_true rfl, Nat.le_of_ble_eq_true rfl, Nat.le_of_ble_eq_true rfl, Nat.le_of_ble_eq_true rfl⟩ (Nat.le_refl _) (Nat.le_refl _) h (fun y u hp => ⟨(nI 0, nI g.L.length, nI g.O.length, pl, fd9, gr, bk, kp, pe, fg, fs, fb, fx, fo, fl, fn, fe, ft, fq, fr, u), ?_, fmO_c ⟨rfl, Or.inl (List.mem_of_getElem? (i := 0) rfl)⟩ (fmO_c ⟨rfl, Or.inl (List.mem_of_getElem? (i := 1) rfl)⟩ (fmO_c ⟨rfl, Or.inr ⟨by decide, rfl⟩⟩ (fmO_c ⟨rfl, Or.inr ⟨by decide, rfl⟩⟩ (fmO_c ⟨rfl, Or.inr ⟨by decide, rfl⟩⟩ (fmO_c ⟨rfl, Or.inr ⟨by decide, rfl⟩⟩ (fmO_c ⟨rfl, Or.inr ⟨by decide, rfl⟩⟩ (fmO_c ⟨rfl, Or.inr ⟨by decide, rfl⟩⟩ (fmO_c ⟨rfl, Or.inr ⟨by decide, rfl⟩⟩ (fmO_c ⟨rfl, Or.inr ⟨by decide, rfl⟩⟩ (fmO_c ⟨rfl, Or.inr ⟨by decide, rfl⟩⟩ (fmO_c ⟨rfl, Or.inr ⟨by decide, rfl⟩⟩ (fmO_c ⟨rfl, Or.inl (List.mem_of_getElem? (i := 2) rfl)⟩ (fmO_n)))))))))))))⟩)
    exact ⟨(hp.trans (by rw [dg_hi (hG.1 _ (i6 c)).1])), ⟨⟨hg, hs, hb9⟩, hl9, ⟨rfl, hx9⟩, rfl, ho9⟩⟩
  · skip
    have e : sHigh g p0 = nI 0 := by unfold sHigh; rw [if_neg c]
    rw [e]
    have h := c_high_bad l D cI cL cC cB cZ cR sz ma.m9 ma.ad ma.as9 ma.ab ma.at9 ma.ao ma.al ma.an ma.ae ma.ap9 ma.aq ma.ar ma.am th (nI g.L.length) (nI g.O.length) pl fd9 gr bk kp pe p0 (nin1 c)
    refine x_fmi [0] rfl (by decide) ⟨Nat.le_of_ble_eq_true rfl, Nat.le_of_ble_eq_true rfl, Nat.le_of_ble_eq_true rfl, Nat.le_of_ble_eq_true rfl⟩ (Nat.le_refl _) (Nat.le_refl _) h (fun y u hp => ⟨(nI 0, nI g.L.length, nI g.O.length, pl, fd9, gr, bk, kp, pe, fg, fs, fb, fx, fo, fl, fn, fe, ft, fq, fr, fm), ?_, fmO_c ⟨rfl, Or.inl (List.mem_of_getElem? (i := 0) rfl)⟩ (fmO_c ⟨rfl, Or.inr ⟨by decide, rfl⟩⟩ (fmO_c ⟨rfl, Or.inr ⟨by decide, rfl⟩⟩ (fmO_c ⟨rfl, Or.inr ⟨by decide, rfl⟩⟩ (fmO_c ⟨rfl, Or.inr ⟨by decide, rfl⟩⟩ (fmO_c ⟨rfl, Or.inr ⟨by decide, rfl⟩⟩ (fmO_c ⟨rfl, Or.inr ⟨by decide, rfl⟩⟩ (fmO_c ⟨rfl, Or.inr ⟨by decide, rfl⟩⟩ (fmO_c ⟨rfl, Or.inr ⟨by decide, rfl⟩⟩ (fmO_c ⟨rfl, Or.inr ⟨by decide, rfl⟩⟩ (fmO_c ⟨rfl, Or.inr ⟨by decide, rfl⟩⟩ (fmO_c ⟨rfl, Or.inr ⟨by decide, rfl⟩⟩ (fmO_c ⟨rfl, Or.inr ⟨by decide, rfl⟩⟩ (fmO_n)))))))))))))⟩)
    exact ⟨hp, ⟨⟨hg, hs, hb9⟩, hl9, ⟨rfl, hx9⟩, rfl, ho9⟩⟩
abbrev rm_M_scale : Room := { frames := 1, cells := 0, slots := 0, locals := 20 }
set_option maxRecDepth 100000 in
theorem M_scale (l : Launch) (D : va_G) (cI cL cC cB cZ cR : ClassId) (sz : Nat) (ma : mA) (w : mS) (g : gS) (p0 : Int32) (hU : mU w g) (hG : gOk g)  : Met l yX8_scale wsX8_scale rm_M_scale (xPc D vwCl (tyAll cI cL cC cB cZ cR) [.ref ma.m9, .int p0] (mB cI cC cZ ma w) sz) (va_Qi (fun (y : Int32) (u : mS) => y = sScale g p0 ∧ mU u g) (xB D vwCl (tyAll cI cL cC cB cZ cR) (va_A (mB cI cC cZ ma w) sz) (fun u : mS => mB cI cC cZ ma u)) (va_A (mB cI cC cZ ma w) sz)) 0 0 (va_A (mB cI cC cZ ma w) sz) := by
  obtain ⟨th, si, le, pl, fd9, gr, bk, kp, pe, fg, fs, fb, fx, fo, fl, fn, fe, ft, fq, fr, fm⟩ := w
  obtain ⟨⟨hg, hs, hb9⟩, hl9, ⟨hsi, hx9⟩, hle, ho9⟩ := hU
  have hg : mD fg g.C := hg
  have hs : rI 6 fs g.S := hs
  have hb9 : rI 6 fb g.B := hb9
  have hl9 : dR fl lim := hl9
  have hsi : si = nI g.L.length := hsi
  have hx9 : oR fx g.L := hx9
  have hle : le = nI g.O.length := hle
  have ho9 : oR fo g.O := ho9
  subst hsi
  subst hle
  by_cases c : inR 6 p0 = 1
  · skip
    have e : sScale g p0 = nI (g.S (iN p0)) := by unfold sScale; rw [if_pos c]
    rw [e]
    have h := c_scale l D cI cL cC cB cZ cR sz ma.m9 ma.ad ma.as9 ma.ab ma.at9 ma.ao ma.al ma.an ma.ae ma.ap9 ma.aq ma.ar ma.am th (nI g.L.length) (nI g.O.length) pl fd9 gr bk kp pe (iN p0) g.S fs hs (i6 c)
    rw [nI_iN p0] at h
    refine x_fmi [0, 2] rfl (by decide) ⟨Nat.le_of_ble_eq_true rfl, Nat.le_of_ble_eq_true rfl, Nat.le_of_ble_eq_true rfl, Nat.le_of_ble_eq_true rfl⟩ (Nat.le_refl _) (Nat.le_refl _) h (fun y u hp => ⟨(nI 0, nI g.L.length, nI g.O.length, pl, fd9, gr, bk, kp, pe, fg, fs, fb, fx, fo, fl, fn, fe, ft, fq, fr, fm), ?_, fmO_c ⟨rfl, Or.inl (List.mem_of_getElem? (i := 0) rfl)⟩ (fmO_c ⟨rfl, Or.inr ⟨by decide, rfl⟩⟩ (fmO_c ⟨rfl, Or.inl (List.mem_of_getElem? (i := 1) rfl)⟩ (fmO_c ⟨rfl, Or.inr ⟨by decide, rfl⟩⟩ (fmO_c ⟨rfl, Or.inr ⟨by decide, rfl⟩⟩ (fmO_c ⟨rfl, Or.inr ⟨by decide, rfl⟩⟩ (fmO_c ⟨rfl, Or.inr ⟨by decide, rfl⟩⟩ (fmO_c ⟨rfl, Or.inr ⟨by decide, rfl⟩⟩ (fmO_c ⟨rfl, Or.inr ⟨by decide, rfl⟩⟩ (fmO_c ⟨rfl, Or.inr ⟨by decide, rfl⟩⟩ (fmO_c ⟨rfl, Or.inr ⟨by decide, rfl⟩⟩ (fmO_c ⟨rfl, Or.inr ⟨by decide, rfl⟩⟩ (fmO_c ⟨rfl, Or.inr ⟨by decide, rfl⟩⟩ (fmO_n)))))))))))))⟩)
    exact ⟨hp, ⟨⟨hg, hs, hb9⟩, hl9, ⟨rfl, hx9⟩, rfl, ho9⟩⟩
  · skip
    have e : sScale g p0 = -1 := by unfold sScale; rw [if_neg c]
    rw [e]
    have h := c_scale_bad l D cI cL cC cB cZ cR sz ma.m9 ma.ad ma.as9 ma.ab ma.at9 ma.ao ma.al ma.an ma.ae ma.ap9 ma.aq ma.ar ma.am th (nI g.L.length) (nI g.O.length) pl fd9 gr bk kp pe p0 (nin1 c)
    refine x_fmi [0] rfl (by decide) ⟨Nat.le_of_ble_eq_true rfl, Nat.le_of_ble_eq_true rfl, Nat.le_of_ble_eq_true rfl, Nat.le_of_ble_eq_true rfl⟩ (Nat.le_refl _) (Nat.le_refl _) h (fun y u hp => ⟨(nI 0, nI g.L.length, nI g.O.length, pl, fd9, gr, bk, kp, pe, fg, fs, fb, fx, fo, fl, fn, fe, ft, fq, fr, fm), ?_, fmO_c ⟨rfl, Or.inl (List.mem_of_getElem? (i := 0) rfl)⟩ (fmO_c ⟨rfl, Or.inr ⟨by decide, rfl⟩⟩ (fmO_c ⟨rfl, Or.inr ⟨by decide, rfl⟩⟩ (fmO_c ⟨rfl, Or.inr ⟨by decide, rfl⟩⟩ (fmO_c ⟨rfl, Or.inr ⟨by decide, rfl⟩⟩ (fmO_c ⟨rfl, Or.inr ⟨by decide, rfl⟩⟩ (fmO_c ⟨rfl, Or.inr ⟨by decide, rfl⟩⟩ (fmO_c ⟨rfl, Or.inr ⟨by decide, rfl⟩⟩ (fmO_c ⟨rfl, Or.inr ⟨by decide, rfl⟩⟩ (fmO_c ⟨rfl, Or.inr ⟨by decide, rfl⟩⟩ (fmO_c ⟨rfl, Or.inr ⟨by decide, rfl⟩⟩ (fmO_c ⟨rfl, Or.inr ⟨by decide, rfl⟩⟩ (fmO_c ⟨rfl, Or.inr ⟨by decide, rfl⟩⟩ (fmO_n)))))))))))))⟩)
    exact ⟨hp, ⟨⟨hg, hs, hb9⟩, hl9, ⟨rfl, hx9⟩, rfl, ho9⟩⟩
abbrev rm_M_negative : Room := { frames := 1, cells := 0, slots := 0, locals := 20 }
set_option maxRecDepth 100000 in
theorem M_negative (l : Launch) (D : va_G) (cI cL cC cB cZ cR : ClassId) (sz : Nat) (ma : mA) (w : mS) (g : gS) (p0 : Int32) (hU : mU w g) (hG : gOk g)  : Met l yX8_negative wsX8_negative rm_M_negative (xPc D vwCl (tyAll cI cL cC cB cZ cR) [.ref ma.m9, .int p0] (mB cI cC cZ ma w) sz) (va_Qi (fun (y : Int32) (u : mS) => y = sNeg g p0 ∧ mU u g) (xB D vwCl (tyAll cI cL cC cB cZ cR) (va_A (mB cI cC cZ ma w) sz) (fun u : mS => mB cI cC cZ ma u)) (va_A (mB cI cC cZ ma w) sz)) 0 0 (va_A (mB cI cC cZ ma w) sz) := by
  obtain ⟨th, si, le, pl, fd9, gr, bk, kp, pe, fg, fs, fb, fx, fo, fl, fn, fe, ft, fq, fr, fm⟩ := w
  obtain ⟨⟨hg, hs, hb9⟩, hl9, ⟨hsi, hx9⟩, hle, ho9⟩ := hU
  have hg : mD fg g.C := hg
  have hs : rI 6 fs g.S := hs
  have hb9 : rI 6 fb g.B := hb9
  have hl9 : dR fl lim := hl9
  have hsi : si = nI g.L.length := hsi
  have hx9 : oR fx g.L := hx9
  have hle : le = nI g.O.length := hle
  have ho9 : oR fo g.O := ho9
  subst hsi
  subst hle
  by_cases c : inR 6 p0 = 1
  · skip
    have e : sNeg g p0 = nI (g.B (iN p0)) := by unfold sNeg; rw [if_pos c]
    rw [e]
    have h := c_negative l D cI cL cC cB cZ cR sz ma.m9 ma.ad ma.as9 ma.ab ma.at9 ma.ao ma.al ma.an ma.ae ma.ap9 ma.aq ma.ar ma.am th (nI g.L.length) (nI g.O.length) pl fd9 gr bk kp pe (iN p0) g.B fb hb9 (i6 c) (hG.1 _ (i6 c)).2.2
    rw [nI_iN p0] at h
    refine x_fmi [0, 3] rfl (by decide) ⟨Nat.le_of_ble_eq_true rfl, Nat.le_of_ble_eq_true rfl, Nat.le_of_ble_eq_true rfl, Nat.le_of_ble_eq_true rfl⟩ (Nat.le_refl _) (Nat.le_refl _) h (fun y u hp => ⟨(nI 0, nI g.L.length, nI g.O.length, pl, fd9, gr, bk, kp, pe, fg, fs, fb, fx, fo, fl, fn, fe, ft, fq, fr, fm), ?_, fmO_c ⟨rfl, Or.inl (List.mem_of_getElem? (i := 0) rfl)⟩ (fmO_c ⟨rfl, Or.inr ⟨by decide, rfl⟩⟩ (fmO_c ⟨rfl, Or.inr ⟨by decide, rfl⟩⟩ (fmO_c ⟨rfl, Or.inl (List.mem_of_getElem? (i := 1) rfl)⟩ (fmO_c ⟨rfl, Or.inr ⟨by decide, rfl⟩⟩ (fmO_c ⟨rfl, Or.inr ⟨by decide, rfl⟩⟩ (fmO_c ⟨rfl, Or.inr ⟨by decide, rfl⟩⟩ (fmO_c ⟨rfl, Or.inr ⟨by decide, rfl⟩⟩ (fmO_c ⟨rfl, Or.inr ⟨by decide, rfl⟩⟩ (fmO_c ⟨rfl, Or.inr ⟨by decide, rfl⟩⟩ (fmO_c ⟨rfl, Or.inr ⟨by decide, rfl⟩⟩ (fmO_c ⟨rfl, Or.inr ⟨by decide, rfl⟩⟩ (fmO_c ⟨rfl, Or.inr ⟨by decide, rfl⟩⟩ (fmO_n)))))))))))))⟩)
    exact ⟨hp, ⟨⟨hg, hs, hb9⟩, hl9, ⟨rfl, hx9⟩, rfl, ho9⟩⟩
  · skip
    have e : sNeg g p0 = nI 0 := by unfold sNeg; rw [if_neg c]
    rw [e]
    have h := c_negative_bad l D cI cL cC cB cZ cR sz ma.m9 ma.ad ma.as9 ma.ab ma.at9 ma.ao ma.al ma.an ma.ae ma.ap9 ma.aq ma.ar ma.am th (nI g.L.length) (nI g.O.length) pl fd9 gr bk kp pe p0 (nin1 c)
    refine x_fmi [0] rfl (by decide) ⟨Nat.le_of_ble_eq_true rfl, Nat.le_of_ble_eq_true rfl, Nat.le_of_ble_eq_true rfl, Nat.le_of_ble_eq_true rfl⟩ (Nat.le_refl _) (Nat.le_refl _) h (fun y u hp => ⟨(nI 0, nI g.L.length, nI g.O.length, pl, fd9, gr, bk, kp, pe, fg, fs, fb, fx, fo, fl, fn, fe, ft, fq, fr, fm), ?_, fmO_c ⟨rfl, Or.inl (List.mem_of_getElem? (i := 0) rfl)⟩ (fmO_c ⟨rfl, Or.inr ⟨by decide, rfl⟩⟩ (fmO_c ⟨rfl, Or.inr ⟨by decide, rfl⟩⟩ (fmO_c ⟨rfl, Or.inr ⟨by decide, rfl⟩⟩ (fmO_c ⟨rfl, Or.inr ⟨by decide, rfl⟩⟩ (fmO_c ⟨rfl, Or.inr ⟨by decide, rfl⟩⟩ (fmO_c ⟨rfl, Or.inr ⟨by decide, rfl⟩⟩ (fmO_c ⟨rfl, Or.inr ⟨by decide, rfl⟩⟩ (fmO_c ⟨rfl, Or.inr ⟨by decide, rfl⟩⟩ (fmO_c ⟨rfl, Or.inr ⟨by decide, rfl⟩⟩ (fmO_c ⟨rfl, Or.inr ⟨by decide, rfl⟩⟩ (fmO_c ⟨rfl, Or.inr ⟨by decide, rfl⟩⟩ (fmO_c ⟨rfl, Or.inr ⟨by decide, rfl⟩⟩ (fmO_n)))))))))))))⟩)
    exact ⟨hp, ⟨⟨hg, hs, hb9⟩, hl9, ⟨rfl, hx9⟩, rfl, ho9⟩⟩
abbrev rm_M_compute : Room := { frames := 5, cells := 0, slots := 0, locals := 114 }
set_option maxRecDepth 100000 in
theorem M_compute (l : Launch) (D : va_G) (cI cL cC cB cZ cR : ClassId) (sz : Nat) (ma : mA) (w : mS) (g : gS) (p0 : Int32) (p1 : Int32) (p2 : Int32) (p3 : Int32) (hU : mU w g) (hG : gOk g)  : Met l yX8_compute wsX8_compute rm_M_compute (xPc D vwCl (tyAll cI cL cC cB cZ cR) [.ref ma.m9, .int p0, .int p1, .int p2, .int p3] (mB cI cC cZ ma w) sz) (va_Qv (fun u : mS => u.th = nI (sComp g p0 p1 p2 p3).1 ∧ mU u (sComp g p0 p1 p2 p3).2) (xB D vwCl (tyAll cI cL cC cB cZ cR) (va_A (mB cI cC cZ ma w) sz) (fun u : mS => mB cI cC cZ ma u)) (va_A (mB cI cC cZ ma w) sz)) 0 0 (va_A (mB cI cC cZ ma w) sz) := by
  obtain ⟨th, si, le, pl, fd9, gr, bk, kp, pe, fg, fs, fb, fx, fo, fl, fn, fe, ft, fq, fr, fm⟩ := w
  obtain ⟨⟨hg, hs, hb9⟩, hl9, ⟨hsi, hx9⟩, hle, ho9⟩ := hU
  have hg : mD fg g.C := hg
  have hs : rI 6 fs g.S := hs
  have hb9 : rI 6 fb g.B := hb9
  have hl9 : dR fl lim := hl9
  have hsi : si = nI g.L.length := hsi
  have hx9 : oR fx g.L := hx9
  have hle : le = nI g.O.length := hle
  have ho9 : oR fo g.O := ho9
  subst hsi
  subst hle
  by_cases c : okR p0 p1 p2 p3 = 1
  · cases ho : gOp g p0 p2 p3 with
    | none =>
      have e : sComp g p0 p1 p2 p3 = (2, g) := by unfold sComp; rw [if_pos c, ho]
      rw [e]
      have h := c_compute l D cI cL cC cB cZ cR sz ma.m9 ma.ad ma.as9 ma.ab ma.at9 ma.ao ma.al ma.an ma.ae ma.ap9 ma.aq ma.ar ma.am th (nI g.L.length) (nI g.O.length) pl fd9 gr bk kp pe (iN p0) (iN p1) (iN p2) (iN p3) g.C g.S g.B fg fs fb fl fn fe ft fq fr fm hg hs hb9 hl9 hG.1 (i5 (okR_4 c).1) (i6 (okR_4 c).2.1) (i6 (okR_4 c).2.2.1) (i6 (okR_4 c).2.2.2)
      rw [nI_iN p0] at h
      rw [nI_iN p1] at h
      rw [nI_iN p2] at h
      rw [nI_iN p3] at h
      refine x_fmv [0, 1, 2, 3, 6, 7, 8, 9, 10, 11, 12] rfl (by decide) ⟨Nat.le_of_ble_eq_true rfl, Nat.le_of_ble_eq_true rfl, Nat.le_of_ble_eq_true rfl, Nat.le_of_ble_eq_true rfl⟩ (Nat.le_refl _) (Nat.le_refl _) h (fun u hp => ⟨(u.1, nI g.L.length, nI g.O.length, u.2.1, fd9, gr, bk, kp, pe, u.2.2.1, u.2.2.2.1, u.2.2.2.2.1, fx, fo, fl, u.2.2.2.2.2.1, u.2.2.2.2.2.2.1, u.2.2.2.2.2.2.2.1, u.2.2.2.2.2.2.2.2.1, u.2.2.2.2.2.2.2.2.2.1, u.2.2.2.2.2.2.2.2.2.2), ?_, fmO_c ⟨rfl, Or.inl (List.mem_of_getElem? (i := 0) rfl)⟩ (fmO_c ⟨rfl, Or.inl (List.mem_of_getElem? (i := 1) rfl)⟩ (fmO_c ⟨rfl, Or.inl (List.mem_of_getElem? (i := 2) rfl)⟩ (fmO_c ⟨rfl, Or.inl (List.mem_of_getElem? (i := 3) rfl)⟩ (fmO_c ⟨rfl, Or.inr ⟨by decide, rfl⟩⟩ (fmO_c ⟨rfl, Or.inr ⟨by decide, rfl⟩⟩ (fmO_c ⟨rfl, Or.inl (List.mem_of_getElem? (i := 4) rfl)⟩ (fmO_c ⟨rfl, Or.inl (List.mem_of_getElem? (i := 5) rfl)⟩ (fmO_c ⟨rfl, Or.inl (List.mem_of_getElem? (i := 6) rfl)⟩ (fmO_c ⟨rfl, Or.inl (List.mem_of_getElem? (i := 7) rfl)⟩ (fmO_c ⟨rfl, Or.inl (List.mem_of_getElem? (i := 8) rfl)⟩ (fmO_c ⟨rfl, Or.inl (List.mem_of_getElem? (i := 9) rfl)⟩ (fmO_c ⟨rfl, Or.inl (List.mem_of_getElem? (i := 10) rfl)⟩ (fmO_n)))))))))))))⟩)
      have hp : cpP (gOp g p0 p2 p3) (iN p1) g.C g.S g.B u.1 u.2.2.1 u.2.2.2.1 u.2.2.2.2.1 := hp
      rw [ho] at hp
      exact ⟨hp.1, ⟨hp.2, hl9, ⟨rfl, hx9⟩, rfl, ho9⟩⟩
    | some q9 =>
      obtain ⟨q, s3, g3⟩ := q9
      have e : sComp g p0 p1 p2 p3 = (0, g.reg (iN p1) q s3 g3) := by unfold sComp; rw [if_pos c, ho]
      rw [e]
      have h := c_compute l D cI cL cC cB cZ cR sz ma.m9 ma.ad ma.as9 ma.ab ma.at9 ma.ao ma.al ma.an ma.ae ma.ap9 ma.aq ma.ar ma.am th (nI g.L.length) (nI g.O.length) pl fd9 gr bk kp pe (iN p0) (iN p1) (iN p2) (iN p3) g.C g.S g.B fg fs fb fl fn fe ft fq fr fm hg hs hb9 hl9 hG.1 (i5 (okR_4 c).1) (i6 (okR_4 c).2.1) (i6 (okR_4 c).2.2.1) (i6 (okR_4 c).2.2.2)
      rw [nI_iN p0] at h
      rw [nI_iN p1] at h
      rw [nI_iN p2] at h
      rw [nI_iN p3] at h
      refine x_fmv [0, 1, 2, 3, 6, 7, 8, 9, 10, 11, 12] rfl (by decide) ⟨Nat.le_of_ble_eq_true rfl, Nat.le_of_ble_eq_true rfl, Nat.le_of_ble_eq_true rfl, Nat.le_of_ble_eq_true rfl⟩ (Nat.le_refl _) (Nat.le_refl _) h (fun u hp => ⟨(u.1, nI g.L.length, nI g.O.length, u.2.1, fd9, gr, bk, kp, pe, u.2.2.1, u.2.2.2.1, u.2.2.2.2.1, fx, fo, fl, u.2.2.2.2.2.1, u.2.2.2.2.2.2.1, u.2.2.2.2.2.2.2.1, u.2.2.2.2.2.2.2.2.1, u.2.2.2.2.2.2.2.2.2.1, u.2.2.2.2.2.2.2.2.2.2), ?_, fmO_c ⟨rfl, Or.inl (List.mem_of_getElem? (i := 0) rfl)⟩ (fmO_c ⟨rfl, Or.inl (List.mem_of_getElem? (i := 1) rfl)⟩ (fmO_c ⟨rfl, Or.inl (List.mem_of_getElem? (i := 2) rfl)⟩ (fmO_c ⟨rfl, Or.inl (List.mem_of_getElem? (i := 3) rfl)⟩ (fmO_c ⟨rfl, Or.inr ⟨by decide, rfl⟩⟩ (fmO_c ⟨rfl, Or.inr ⟨by decide, rfl⟩⟩ (fmO_c ⟨rfl, Or.inl (List.mem_of_getElem? (i := 4) rfl)⟩ (fmO_c ⟨rfl, Or.inl (List.mem_of_getElem? (i := 5) rfl)⟩ (fmO_c ⟨rfl, Or.inl (List.mem_of_getElem? (i := 6) rfl)⟩ (fmO_c ⟨rfl, Or.inl (List.mem_of_getElem? (i := 7) rfl)⟩ (fmO_c ⟨rfl, Or.inl (List.mem_of_getElem? (i := 8) rfl)⟩ (fmO_c ⟨rfl, Or.inl (List.mem_of_getElem? (i := 9) rfl)⟩ (fmO_c ⟨rfl, Or.inl (List.mem_of_getElem? (i := 10) rfl)⟩ (fmO_n)))))))))))))⟩)
      have hp : cpP (gOp g p0 p2 p3) (iN p1) g.C g.S g.B u.1 u.2.2.1 u.2.2.2.1 u.2.2.2.2.1 := hp
      rw [ho] at hp
      exact ⟨hp.1, ⟨hp.2, hl9, ⟨rfl, hx9⟩, rfl, ho9⟩⟩
  · skip
    have e : sComp g p0 p1 p2 p3 = (1, g) := by unfold sComp; rw [if_neg c]
    rw [e]
    have h := c_compute_bad l D cI cL cC cB cZ cR sz ma.m9 ma.ad ma.as9 ma.ab ma.at9 ma.ao ma.al ma.an ma.ae ma.ap9 ma.aq ma.ar ma.am th (nI g.L.length) (nI g.O.length) pl fd9 gr bk kp pe p0 p1 p2 p3 (nok c)
    refine x_fmv [0] rfl (by decide) ⟨Nat.le_of_ble_eq_true rfl, Nat.le_of_ble_eq_true rfl, Nat.le_of_ble_eq_true rfl, Nat.le_of_ble_eq_true rfl⟩ (Nat.le_refl _) (Nat.le_refl _) h (fun u hp => ⟨(nI 1, nI g.L.length, nI g.O.length, pl, fd9, gr, bk, kp, pe, fg, fs, fb, fx, fo, fl, fn, fe, ft, fq, fr, fm), ?_, fmO_c ⟨rfl, Or.inl (List.mem_of_getElem? (i := 0) rfl)⟩ (fmO_c ⟨rfl, Or.inr ⟨by decide, rfl⟩⟩ (fmO_c ⟨rfl, Or.inr ⟨by decide, rfl⟩⟩ (fmO_c ⟨rfl, Or.inr ⟨by decide, rfl⟩⟩ (fmO_c ⟨rfl, Or.inr ⟨by decide, rfl⟩⟩ (fmO_c ⟨rfl, Or.inr ⟨by decide, rfl⟩⟩ (fmO_c ⟨rfl, Or.inr ⟨by decide, rfl⟩⟩ (fmO_c ⟨rfl, Or.inr ⟨by decide, rfl⟩⟩ (fmO_c ⟨rfl, Or.inr ⟨by decide, rfl⟩⟩ (fmO_c ⟨rfl, Or.inr ⟨by decide, rfl⟩⟩ (fmO_c ⟨rfl, Or.inr ⟨by decide, rfl⟩⟩ (fmO_c ⟨rfl, Or.inr ⟨by decide, rfl⟩⟩ (fmO_c ⟨rfl, Or.inr ⟨by decide, rfl⟩⟩ (fmO_n)))))))))))))⟩)
    exact ⟨rfl, ⟨⟨hg, hs, hb9⟩, hl9, ⟨rfl, hx9⟩, rfl, ho9⟩⟩
abbrev rm_M_attempt : Room := { frames := 6, cells := 0, slots := 0, locals := 139 }
set_option maxRecDepth 100000 in
theorem M_attempt (l : Launch) (D : va_G) (cI cL cC cB cZ cR : ClassId) (sz : Nat) (ma : mA) (w : mS) (g : gS) (p0 : Int32) (p1 : Int32) (p2 : Int32) (p3 : Int32) (hU : mU w g) (hG : gOk g)  : Met l yX8_attempt wsX8_attempt rm_M_attempt (xPc D vwCl (tyAll cI cL cC cB cZ cR) [.ref ma.m9, .int p0, .int p1, .int p2, .int p3] (mB cI cC cZ ma w) sz) (va_Qi (fun (y : Int32) (u : mS) => y = nI (sAtt g p0 p1 p2 p3).1 ∧ mU u (sAtt g p0 p1 p2 p3).2) (xB D vwCl (tyAll cI cL cC cB cZ cR) (va_A (mB cI cC cZ ma w) sz) (fun u : mS => mB cI cC cZ ma u)) (va_A (mB cI cC cZ ma w) sz)) 0 0 (va_A (mB cI cC cZ ma w) sz) := by
  obtain ⟨th, si, le, pl, fd9, gr, bk, kp, pe, fg, fs, fb, fx, fo, fl, fn, fe, ft, fq, fr, fm⟩ := w
  obtain ⟨⟨hg, hs, hb9⟩, hl9, ⟨hsi, hx9⟩, hle, ho9⟩ := hU
  have hg : mD fg g.C := hg
  have hs : rI 6 fs g.S := hs
  have hb9 : rI 6 fb g.B := hb9
  have hl9 : dR fl lim := hl9
  have hsi : si = nI g.L.length := hsi
  have hx9 : oR fx g.L := hx9
  have hle : le = nI g.O.length := hle
  have ho9 : oR fo g.O := ho9
  subst hsi
  subst hle
  by_cases c : okR p0 p1 p2 p3 = 1
  · cases ho : gOp g p0 p2 p3 with
    | none =>
      have e : sAtt g p0 p1 p2 p3 = (0, g) := by unfold sAtt; rw [if_pos c, ho]
      rw [e]
      have h := c_attempt l D cI cL cC cB cZ cR sz ma.m9 ma.ad ma.as9 ma.ab ma.at9 ma.ao ma.al ma.an ma.ae ma.ap9 ma.aq ma.ar ma.am th (nI g.L.length) (nI g.O.length) pl fd9 gr bk kp pe (iN p0) (iN p1) (iN p2) (iN p3) g.C g.S g.B fg fs fb fl fn fe ft fq fr fm hg hs hb9 hl9 hG.1 (i5 (okR_4 c).1) (i6 (okR_4 c).2.1) (i6 (okR_4 c).2.2.1) (i6 (okR_4 c).2.2.2)
      rw [nI_iN p0] at h
      rw [nI_iN p1] at h
      rw [nI_iN p2] at h
      rw [nI_iN p3] at h
      refine x_fmi [0, 1, 2, 3, 6, 7, 8, 9, 10, 11, 12] rfl (by decide) ⟨Nat.le_of_ble_eq_true rfl, Nat.le_of_ble_eq_true rfl, Nat.le_of_ble_eq_true rfl, Nat.le_of_ble_eq_true rfl⟩ (Nat.le_refl _) (Nat.le_refl _) h (fun y u hp => ⟨(nI 0, nI g.L.length, nI g.O.length, u.1, fd9, gr, bk, kp, pe, u.2.1, u.2.2.1, u.2.2.2.1, fx, fo, fl, u.2.2.2.2.1, u.2.2.2.2.2.1, u.2.2.2.2.2.2.1, u.2.2.2.2.2.2.2.1, u.2.2.2.2.2.2.2.2.1, u.2.2.2.2.2.2.2.2.2), ?_, fmO_c ⟨rfl, Or.inl (List.mem_of_getElem? (i := 0) rfl)⟩ (fmO_c ⟨rfl, Or.inl (List.mem_of_getElem? (i := 1) rfl)⟩ (fmO_c ⟨rfl, Or.inl (List.mem_of_getElem? (i := 2) rfl)⟩ (fmO_c ⟨rfl, Or.inl (List.mem_of_getElem? (i := 3) rfl)⟩ (fmO_c ⟨rfl, Or.inr ⟨by decide, rfl⟩⟩ (fmO_c ⟨rfl, Or.inr ⟨by decide, rfl⟩⟩ (fmO_c ⟨rfl, Or.inl (List.mem_of_getElem? (i := 4) rfl)⟩ (fmO_c ⟨rfl, Or.inl (List.mem_of_getElem? (i := 5) rfl)⟩ (fmO_c ⟨rfl, Or.inl (List.mem_of_getElem? (i := 6) rfl)⟩ (fmO_c ⟨rfl, Or.inl (List.mem_of_getElem? (i := 7) rfl)⟩ (fmO_c ⟨rfl, Or.inl (List.mem_of_getElem? (i := 8) rfl)⟩ (fmO_c ⟨rfl, Or.inl (List.mem_of_getElem? (i := 9) rfl)⟩ (fmO_c ⟨rfl, Or.inl (List.mem_of_getElem? (i := 10) rfl)⟩ (fmO_n)))))))))))))⟩)
      have hp : atP (gOp g p0 p2 p3) (iN p1) g.C g.S g.B y u.2.1 u.2.2.1 u.2.2.2.1 := hp
      rw [ho] at hp
      exact ⟨hp.1, ⟨hp.2, hl9, ⟨rfl, hx9⟩, rfl, ho9⟩⟩
    | some q9 =>
      obtain ⟨q, s3, g3⟩ := q9
      have e : sAtt g p0 p1 p2 p3 = (1, g.reg (iN p1) q s3 g3) := by unfold sAtt; rw [if_pos c, ho]
      rw [e]
      have h := c_attempt l D cI cL cC cB cZ cR sz ma.m9 ma.ad ma.as9 ma.ab ma.at9 ma.ao ma.al ma.an ma.ae ma.ap9 ma.aq ma.ar ma.am th (nI g.L.length) (nI g.O.length) pl fd9 gr bk kp pe (iN p0) (iN p1) (iN p2) (iN p3) g.C g.S g.B fg fs fb fl fn fe ft fq fr fm hg hs hb9 hl9 hG.1 (i5 (okR_4 c).1) (i6 (okR_4 c).2.1) (i6 (okR_4 c).2.2.1) (i6 (okR_4 c).2.2.2)
      rw [nI_iN p0] at h
      rw [nI_iN p1] at h
      rw [nI_iN p2] at h
      rw [nI_iN p3] at h
      refine x_fmi [0, 1, 2, 3, 6, 7, 8, 9, 10, 11, 12] rfl (by decide) ⟨Nat.le_of_ble_eq_true rfl, Nat.le_of_ble_eq_true rfl, Nat.le_of_ble_eq_true rfl, Nat.le_of_ble_eq_true rfl⟩ (Nat.le_refl _) (Nat.le_refl _) h (fun y u hp => ⟨(nI 0, nI g.L.length, nI g.O.length, u.1, fd9, gr, bk, kp, pe, u.2.1, u.2.2.1, u.2.2.2.1, fx, fo, fl, u.2.2.2.2.1, u.2.2.2.2.2.1, u.2.2.2.2.2.2.1, u.2.2.2.2.2.2.2.1, u.2.2.2.2.2.2.2.2.1, u.2.2.2.2.2.2.2.2.2), ?_, fmO_c ⟨rfl, Or.inl (List.mem_of_getElem? (i := 0) rfl)⟩ (fmO_c ⟨rfl, Or.inl (List.mem_of_getElem? (i := 1) rfl)⟩ (fmO_c ⟨rfl, Or.inl (List.mem_of_getElem? (i := 2) rfl)⟩ (fmO_c ⟨rfl, Or.inl (List.mem_of_getElem? (i := 3) rfl)⟩ (fmO_c ⟨rfl, Or.inr ⟨by decide, rfl⟩⟩ (fmO_c ⟨rfl, Or.inr ⟨by decide, rfl⟩⟩ (fmO_c ⟨rfl, Or.inl (List.mem_of_getElem? (i := 4) rfl)⟩ (fmO_c ⟨rfl, Or.inl (List.mem_of_getElem? (i := 5) rfl)⟩ (fmO_c ⟨rfl, Or.inl (List.mem_of_getElem? (i := 6) rfl)⟩ (fmO_c ⟨rfl, Or.inl (List.mem_of_getElem? (i := 7) rfl)⟩ (fmO_c ⟨rfl, Or.inl (List.mem_of_getElem? (i := 8) rfl)⟩ (fmO_c ⟨rfl, Or.inl (List.mem_of_getElem? (i := 9) rfl)⟩ (fmO_c ⟨rfl, Or.inl (List.mem_of_getElem? (i := 10) rfl)⟩ (fmO_n)))))))))))))⟩)
      have hp : atP (gOp g p0 p2 p3) (iN p1) g.C g.S g.B y u.2.1 u.2.2.1 u.2.2.2.1 := hp
      rw [ho] at hp
      exact ⟨hp.1, ⟨hp.2, hl9, ⟨rfl, hx9⟩, rfl, ho9⟩⟩
  · skip
    have e : sAtt g p0 p1 p2 p3 = (0, g) := by unfold sAtt; rw [if_neg c]
    rw [e]
    have h := c_attempt_bad l D cI cL cC cB cZ cR sz ma.m9 ma.ad ma.as9 ma.ab ma.at9 ma.ao ma.al ma.an ma.ae ma.ap9 ma.aq ma.ar ma.am th (nI g.L.length) (nI g.O.length) pl fd9 gr bk kp pe p0 p1 p2 p3 (nok c)
    refine x_fmi [0] rfl (by decide) ⟨Nat.le_of_ble_eq_true rfl, Nat.le_of_ble_eq_true rfl, Nat.le_of_ble_eq_true rfl, Nat.le_of_ble_eq_true rfl⟩ (Nat.le_refl _) (Nat.le_refl _) h (fun y u hp => ⟨(nI 0, nI g.L.length, nI g.O.length, pl, fd9, gr, bk, kp, pe, fg, fs, fb, fx, fo, fl, fn, fe, ft, fq, fr, fm), ?_, fmO_c ⟨rfl, Or.inl (List.mem_of_getElem? (i := 0) rfl)⟩ (fmO_c ⟨rfl, Or.inr ⟨by decide, rfl⟩⟩ (fmO_c ⟨rfl, Or.inr ⟨by decide, rfl⟩⟩ (fmO_c ⟨rfl, Or.inr ⟨by decide, rfl⟩⟩ (fmO_c ⟨rfl, Or.inr ⟨by decide, rfl⟩⟩ (fmO_c ⟨rfl, Or.inr ⟨by decide, rfl⟩⟩ (fmO_c ⟨rfl, Or.inr ⟨by decide, rfl⟩⟩ (fmO_c ⟨rfl, Or.inr ⟨by decide, rfl⟩⟩ (fmO_c ⟨rfl, Or.inr ⟨by decide, rfl⟩⟩ (fmO_c ⟨rfl, Or.inr ⟨by decide, rfl⟩⟩ (fmO_c ⟨rfl, Or.inr ⟨by decide, rfl⟩⟩ (fmO_c ⟨rfl, Or.inr ⟨by decide, rfl⟩⟩ (fmO_c ⟨rfl, Or.inr ⟨by decide, rfl⟩⟩ (fmO_n)))))))))))))⟩)
    exact ⟨hp, ⟨⟨hg, hs, hb9⟩, hl9, ⟨rfl, hx9⟩, rfl, ho9⟩⟩
abbrev rm_M_round : Room := { frames := 3, cells := 0, slots := 0, locals := 64 }
set_option maxRecDepth 100000 in
theorem M_round (l : Launch) (D : va_G) (cI cL cC cB cZ cR : ClassId) (sz : Nat) (ma : mA) (w : mS) (g : gS) (p0 : Int32) (p1 : Int32) (p2 : Int32) (p3 : Int32) (hU : mU w g) (hG : gOk g)  : Met l yX8_round wsX8_round rm_M_round (xPc D vwCl (tyAll cI cL cC cB cZ cR) [.ref ma.m9, .int p0, .int p1, .int p2, .int p3] (mB cI cC cZ ma w) sz) (va_Qv (fun u : mS => u.th = nI (sRound g p0 p1 p2 p3).1 ∧ mU u (sRound g p0 p1 p2 p3).2) (xB D vwCl (tyAll cI cL cC cB cZ cR) (va_A (mB cI cC cZ ma w) sz) (fun u : mS => mB cI cC cZ ma u)) (va_A (mB cI cC cZ ma w) sz)) 0 0 (va_A (mB cI cC cZ ma w) sz) := by
  obtain ⟨th, si, le, pl, fd9, gr, bk, kp, pe, fg, fs, fb, fx, fo, fl, fn, fe, ft, fq, fr, fm⟩ := w
  obtain ⟨⟨hg, hs, hb9⟩, hl9, ⟨hsi, hx9⟩, hle, ho9⟩ := hU
  have hg : mD fg g.C := hg
  have hs : rI 6 fs g.S := hs
  have hb9 : rI 6 fb g.B := hb9
  have hl9 : dR fl lim := hl9
  have hsi : si = nI g.L.length := hsi
  have hx9 : oR fx g.L := hx9
  have hle : le = nI g.O.length := hle
  have ho9 : oR fo g.O := ho9
  subst hsi
  subst hle
  by_cases c : inR 6 p0 = 1 ∧ inR 6 p1 = 1 ∧ inR 29 p2 = 1 ∧ inR 5 p3 = 1
  · skip
    have e : sRound g p0 p1 p2 p3 = (0, g.reg (iN p0) (rdC (iN p3) (g.B (iN p1)) (g.C (iN p1)) (g.S (iN p1)) (iN p2)) (rdS (g.S (iN p1)) (iN p2)) (g.B (iN p1))) := by unfold sRound; rw [if_pos c]
    rw [e]
    have h := c_round l D cI cL cC cB cZ cR sz ma.m9 ma.ad ma.as9 ma.ab ma.at9 ma.ao ma.al ma.an ma.ae ma.ap9 ma.aq ma.ar ma.am th (nI g.L.length) (nI g.O.length) pl fd9 gr bk kp pe (iN p0) (iN p1) (iN p2) (iN p3) g.C g.S g.B fg fs fb fl fn fe ft fq fr fm hg hs hb9 hl9 hG.1 (i6 c.1) (i6 c.2.1) (i29 c.2.2.1) (i5 c.2.2.2)
    rw [nI_iN p0] at h
    rw [nI_iN p1] at h
    rw [nI_iN p2] at h
    rw [nI_iN p3] at h
    refine x_fmv [0, 1, 2, 3, 6, 7, 8, 9, 10, 11, 12] rfl (by decide) ⟨Nat.le_of_ble_eq_true rfl, Nat.le_of_ble_eq_true rfl, Nat.le_of_ble_eq_true rfl, Nat.le_of_ble_eq_true rfl⟩ (Nat.le_refl _) (Nat.le_refl _) h (fun u hp => ⟨(nI 0, nI g.L.length, nI g.O.length, pl, fd9, gr, bk, kp, pe, u.1, u.2.1, u.2.2.1, fx, fo, fl, u.2.2.2.1, u.2.2.2.2.1, u.2.2.2.2.2.1, u.2.2.2.2.2.2.1, u.2.2.2.2.2.2.2.1, u.2.2.2.2.2.2.2.2), ?_, fmO_c ⟨rfl, Or.inl (List.mem_of_getElem? (i := 0) rfl)⟩ (fmO_c ⟨rfl, Or.inl (List.mem_of_getElem? (i := 1) rfl)⟩ (fmO_c ⟨rfl, Or.inl (List.mem_of_getElem? (i := 2) rfl)⟩ (fmO_c ⟨rfl, Or.inl (List.mem_of_getElem? (i := 3) rfl)⟩ (fmO_c ⟨rfl, Or.inr ⟨by decide, rfl⟩⟩ (fmO_c ⟨rfl, Or.inr ⟨by decide, rfl⟩⟩ (fmO_c ⟨rfl, Or.inl (List.mem_of_getElem? (i := 4) rfl)⟩ (fmO_c ⟨rfl, Or.inl (List.mem_of_getElem? (i := 5) rfl)⟩ (fmO_c ⟨rfl, Or.inl (List.mem_of_getElem? (i := 6) rfl)⟩ (fmO_c ⟨rfl, Or.inl (List.mem_of_getElem? (i := 7) rfl)⟩ (fmO_c ⟨rfl, Or.inl (List.mem_of_getElem? (i := 8) rfl)⟩ (fmO_c ⟨rfl, Or.inl (List.mem_of_getElem? (i := 9) rfl)⟩ (fmO_c ⟨rfl, Or.inl (List.mem_of_getElem? (i := 10) rfl)⟩ (fmO_n)))))))))))))⟩)
    exact ⟨rfl, ⟨hp, hl9, ⟨rfl, hx9⟩, rfl, ho9⟩⟩
  · skip
    have e : sRound g p0 p1 p2 p3 = (1, g) := by unfold sRound; rw [if_neg c]
    rw [e]
    have h := c_round_bad l D cI cL cC cB cZ cR sz ma.m9 ma.ad ma.as9 ma.ab ma.at9 ma.ao ma.al ma.an ma.ae ma.ap9 ma.aq ma.ar ma.am th (nI g.L.length) (nI g.O.length) pl fd9 gr bk kp pe p0 p1 p2 p3 (nin4 c)
    refine x_fmv [0] rfl (by decide) ⟨Nat.le_of_ble_eq_true rfl, Nat.le_of_ble_eq_true rfl, Nat.le_of_ble_eq_true rfl, Nat.le_of_ble_eq_true rfl⟩ (Nat.le_refl _) (Nat.le_refl _) h (fun u hp => ⟨(nI 1, nI g.L.length, nI g.O.length, pl, fd9, gr, bk, kp, pe, fg, fs, fb, fx, fo, fl, fn, fe, ft, fq, fr, fm), ?_, fmO_c ⟨rfl, Or.inl (List.mem_of_getElem? (i := 0) rfl)⟩ (fmO_c ⟨rfl, Or.inr ⟨by decide, rfl⟩⟩ (fmO_c ⟨rfl, Or.inr ⟨by decide, rfl⟩⟩ (fmO_c ⟨rfl, Or.inr ⟨by decide, rfl⟩⟩ (fmO_c ⟨rfl, Or.inr ⟨by decide, rfl⟩⟩ (fmO_c ⟨rfl, Or.inr ⟨by decide, rfl⟩⟩ (fmO_c ⟨rfl, Or.inr ⟨by decide, rfl⟩⟩ (fmO_c ⟨rfl, Or.inr ⟨by decide, rfl⟩⟩ (fmO_c ⟨rfl, Or.inr ⟨by decide, rfl⟩⟩ (fmO_c ⟨rfl, Or.inr ⟨by decide, rfl⟩⟩ (fmO_c ⟨rfl, Or.inr ⟨by decide, rfl⟩⟩ (fmO_c ⟨rfl, Or.inr ⟨by decide, rfl⟩⟩ (fmO_c ⟨rfl, Or.inr ⟨by decide, rfl⟩⟩ (fmO_n)))))))))))))⟩)
    exact ⟨rfl, ⟨⟨hg, hs, hb9⟩, hl9, ⟨rfl, hx9⟩, rfl, ho9⟩⟩
abbrev rm_M_trim : Room := { frames := 2, cells := 0, slots := 0, locals := 47 }
set_option maxRecDepth 100000 in
theorem M_trim (l : Launch) (D : va_G) (cI cL cC cB cZ cR : ClassId) (sz : Nat) (ma : mA) (w : mS) (g : gS) (p0 : Int32) (p1 : Int32) (hU : mU w g) (hG : gOk g)  : Met l yX8_trim wsX8_trim rm_M_trim (xPc D vwCl (tyAll cI cL cC cB cZ cR) [.ref ma.m9, .int p0, .int p1] (mB cI cC cZ ma w) sz) (va_Qv (fun u : mS => u.th = nI (sTrim g p0 p1).1 ∧ mU u (sTrim g p0 p1).2) (xB D vwCl (tyAll cI cL cC cB cZ cR) (va_A (mB cI cC cZ ma w) sz) (fun u : mS => mB cI cC cZ ma u)) (va_A (mB cI cC cZ ma w) sz)) 0 0 (va_A (mB cI cC cZ ma w) sz) := by
  obtain ⟨th, si, le, pl, fd9, gr, bk, kp, pe, fg, fs, fb, fx, fo, fl, fn, fe, ft, fq, fr, fm⟩ := w
  obtain ⟨⟨hg, hs, hb9⟩, hl9, ⟨hsi, hx9⟩, hle, ho9⟩ := hU
  have hg : mD fg g.C := hg
  have hs : rI 6 fs g.S := hs
  have hb9 : rI 6 fb g.B := hb9
  have hl9 : dR fl lim := hl9
  have hsi : si = nI g.L.length := hsi
  have hx9 : oR fx g.L := hx9
  have hle : le = nI g.O.length := hle
  have ho9 : oR fo g.O := ho9
  subst hsi
  subst hle
  by_cases c : inR 6 p0 = 1 ∧ inR 6 p1 = 1
  · skip
    have e : sTrim g p0 p1 = (0, g.reg (iN p0) (trm (g.C (iN p1)) (g.S (iN p1))).1 (trm (g.C (iN p1)) (g.S (iN p1))).2 (g.B (iN p1))) := by unfold sTrim; rw [if_pos c]
    rw [e]
    have h := c_trim l D cI cL cC cB cZ cR sz ma.m9 ma.ad ma.as9 ma.ab ma.at9 ma.ao ma.al ma.an ma.ae ma.ap9 ma.aq ma.ar ma.am th (nI g.L.length) (nI g.O.length) pl fd9 gr bk kp pe (iN p0) (iN p1) g.C g.S g.B fg fs fb fn hg hs hb9 hG.1 (i6 c.1) (i6 c.2)
    rw [nI_iN p0] at h
    rw [nI_iN p1] at h
    refine x_fmv [0, 1, 2, 3, 7] rfl (by decide) ⟨Nat.le_of_ble_eq_true rfl, Nat.le_of_ble_eq_true rfl, Nat.le_of_ble_eq_true rfl, Nat.le_of_ble_eq_true rfl⟩ (Nat.le_refl _) (Nat.le_refl _) h (fun u hp => ⟨(nI 0, nI g.L.length, nI g.O.length, pl, fd9, gr, bk, kp, pe, u.1, u.2.1, u.2.2.1, fx, fo, fl, u.2.2.2, fe, ft, fq, fr, fm), ?_, fmO_c ⟨rfl, Or.inl (List.mem_of_getElem? (i := 0) rfl)⟩ (fmO_c ⟨rfl, Or.inl (List.mem_of_getElem? (i := 1) rfl)⟩ (fmO_c ⟨rfl, Or.inl (List.mem_of_getElem? (i := 2) rfl)⟩ (fmO_c ⟨rfl, Or.inl (List.mem_of_getElem? (i := 3) rfl)⟩ (fmO_c ⟨rfl, Or.inr ⟨by decide, rfl⟩⟩ (fmO_c ⟨rfl, Or.inr ⟨by decide, rfl⟩⟩ (fmO_c ⟨rfl, Or.inr ⟨by decide, rfl⟩⟩ (fmO_c ⟨rfl, Or.inl (List.mem_of_getElem? (i := 4) rfl)⟩ (fmO_c ⟨rfl, Or.inr ⟨by decide, rfl⟩⟩ (fmO_c ⟨rfl, Or.inr ⟨by decide, rfl⟩⟩ (fmO_c ⟨rfl, Or.inr ⟨by decide, rfl⟩⟩ (fmO_c ⟨rfl, Or.inr ⟨by decide, rfl⟩⟩ (fmO_c ⟨rfl, Or.inr ⟨by decide, rfl⟩⟩ (fmO_n)))))))))))))⟩)
    exact ⟨rfl, ⟨hp, hl9, ⟨rfl, hx9⟩, rfl, ho9⟩⟩
  · skip
    have e : sTrim g p0 p1 = (1, g) := by unfold sTrim; rw [if_neg c]
    rw [e]
    have h := c_trim_bad l D cI cL cC cB cZ cR sz ma.m9 ma.ad ma.as9 ma.ab ma.at9 ma.ao ma.al ma.an ma.ae ma.ap9 ma.aq ma.ar ma.am th (nI g.L.length) (nI g.O.length) pl fd9 gr bk kp pe p0 p1 (nin2 c)
    refine x_fmv [0] rfl (by decide) ⟨Nat.le_of_ble_eq_true rfl, Nat.le_of_ble_eq_true rfl, Nat.le_of_ble_eq_true rfl, Nat.le_of_ble_eq_true rfl⟩ (Nat.le_refl _) (Nat.le_refl _) h (fun u hp => ⟨(nI 1, nI g.L.length, nI g.O.length, pl, fd9, gr, bk, kp, pe, fg, fs, fb, fx, fo, fl, fn, fe, ft, fq, fr, fm), ?_, fmO_c ⟨rfl, Or.inl (List.mem_of_getElem? (i := 0) rfl)⟩ (fmO_c ⟨rfl, Or.inr ⟨by decide, rfl⟩⟩ (fmO_c ⟨rfl, Or.inr ⟨by decide, rfl⟩⟩ (fmO_c ⟨rfl, Or.inr ⟨by decide, rfl⟩⟩ (fmO_c ⟨rfl, Or.inr ⟨by decide, rfl⟩⟩ (fmO_c ⟨rfl, Or.inr ⟨by decide, rfl⟩⟩ (fmO_c ⟨rfl, Or.inr ⟨by decide, rfl⟩⟩ (fmO_c ⟨rfl, Or.inr ⟨by decide, rfl⟩⟩ (fmO_c ⟨rfl, Or.inr ⟨by decide, rfl⟩⟩ (fmO_c ⟨rfl, Or.inr ⟨by decide, rfl⟩⟩ (fmO_c ⟨rfl, Or.inr ⟨by decide, rfl⟩⟩ (fmO_c ⟨rfl, Or.inr ⟨by decide, rfl⟩⟩ (fmO_c ⟨rfl, Or.inr ⟨by decide, rfl⟩⟩ (fmO_n)))))))))))))⟩)
    exact ⟨rfl, ⟨⟨hg, hs, hb9⟩, hl9, ⟨rfl, hx9⟩, rfl, ho9⟩⟩
abbrev rm_M_compare : Room := { frames := 3, cells := 0, slots := 0, locals := 70 }
set_option maxRecDepth 100000 in
theorem M_compare (l : Launch) (D : va_G) (cI cL cC cB cZ cR : ClassId) (sz : Nat) (ma : mA) (w : mS) (g : gS) (p0 : Int32) (p1 : Int32) (hU : mU w g) (hG : gOk g)  : Met l yX8_compare wsX8_compare rm_M_compare (xPc D vwCl (tyAll cI cL cC cB cZ cR) [.ref ma.m9, .int p0, .int p1] (mB cI cC cZ ma w) sz) (va_Qi (fun (y : Int32) (u : mS) => u.th = nI (sCmp g p0 p1).1 ∧ mU u g ∧ y = (sCmp g p0 p1).2) (xB D vwCl (tyAll cI cL cC cB cZ cR) (va_A (mB cI cC cZ ma w) sz) (fun u : mS => mB cI cC cZ ma u)) (va_A (mB cI cC cZ ma w) sz)) 0 0 (va_A (mB cI cC cZ ma w) sz) := by
  obtain ⟨th, si, le, pl, fd9, gr, bk, kp, pe, fg, fs, fb, fx, fo, fl, fn, fe, ft, fq, fr, fm⟩ := w
  obtain ⟨⟨hg, hs, hb9⟩, hl9, ⟨hsi, hx9⟩, hle, ho9⟩ := hU
  have hg : mD fg g.C := hg
  have hs : rI 6 fs g.S := hs
  have hb9 : rI 6 fb g.B := hb9
  have hl9 : dR fl lim := hl9
  have hsi : si = nI g.L.length := hsi
  have hx9 : oR fx g.L := hx9
  have hle : le = nI g.O.length := hle
  have ho9 : oR fo g.O := ho9
  subst hsi
  subst hle
  by_cases c : inR 6 p0 = 1 ∧ inR 6 p1 = 1
  · skip
    have e : sCmp g p0 p1 = (0, gCmp g (iN p0) (iN p1)) := by unfold sCmp; rw [if_pos c]
    rw [e]
    have h := c_compare l D cI cL cC cB cZ cR sz ma.m9 ma.ad ma.as9 ma.ab ma.at9 ma.ao ma.al ma.an ma.ae ma.ap9 ma.aq ma.ar ma.am th (nI g.L.length) (nI g.O.length) pl fd9 gr bk kp pe (iN p0) (iN p1) g.C g.S g.B fg fs fb fn fe ft hg hs hb9 hG.1 (i6 c.1) (i6 c.2)
    rw [nI_iN p0] at h
    rw [nI_iN p1] at h
    refine x_fmi [0, 1, 2, 3, 7, 8, 9] rfl (by decide) ⟨Nat.le_of_ble_eq_true rfl, Nat.le_of_ble_eq_true rfl, Nat.le_of_ble_eq_true rfl, Nat.le_of_ble_eq_true rfl⟩ (Nat.le_refl _) (Nat.le_refl _) h (fun y u hp => ⟨(nI 0, nI g.L.length, nI g.O.length, pl, fd9, gr, bk, kp, pe, fg, fs, fb, fx, fo, fl, u.1, u.2.1, u.2.2, fq, fr, fm), ?_, fmO_c ⟨rfl, Or.inl (List.mem_of_getElem? (i := 0) rfl)⟩ (fmO_c ⟨rfl, Or.inl (List.mem_of_getElem? (i := 1) rfl)⟩ (fmO_c ⟨rfl, Or.inl (List.mem_of_getElem? (i := 2) rfl)⟩ (fmO_c ⟨rfl, Or.inl (List.mem_of_getElem? (i := 3) rfl)⟩ (fmO_c ⟨rfl, Or.inr ⟨by decide, rfl⟩⟩ (fmO_c ⟨rfl, Or.inr ⟨by decide, rfl⟩⟩ (fmO_c ⟨rfl, Or.inr ⟨by decide, rfl⟩⟩ (fmO_c ⟨rfl, Or.inl (List.mem_of_getElem? (i := 4) rfl)⟩ (fmO_c ⟨rfl, Or.inl (List.mem_of_getElem? (i := 5) rfl)⟩ (fmO_c ⟨rfl, Or.inl (List.mem_of_getElem? (i := 6) rfl)⟩ (fmO_c ⟨rfl, Or.inr ⟨by decide, rfl⟩⟩ (fmO_c ⟨rfl, Or.inr ⟨by decide, rfl⟩⟩ (fmO_c ⟨rfl, Or.inr ⟨by decide, rfl⟩⟩ (fmO_n)))))))))))))⟩)
    simp only [mx_a, mx_b] at hp
    exact ⟨rfl, ⟨⟨hg, hs, hb9⟩, hl9, ⟨rfl, hx9⟩, rfl, ho9⟩, hp⟩
  · skip
    have e : sCmp g p0 p1 = (1, nI 0) := by unfold sCmp; rw [if_neg c]
    rw [e]
    have h := c_compare_bad l D cI cL cC cB cZ cR sz ma.m9 ma.ad ma.as9 ma.ab ma.at9 ma.ao ma.al ma.an ma.ae ma.ap9 ma.aq ma.ar ma.am th (nI g.L.length) (nI g.O.length) pl fd9 gr bk kp pe p0 p1 (nin2 c)
    refine x_fmi [0] rfl (by decide) ⟨Nat.le_of_ble_eq_true rfl, Nat.le_of_ble_eq_true rfl, Nat.le_of_ble_eq_true rfl, Nat.le_of_ble_eq_true rfl⟩ (Nat.le_refl _) (Nat.le_refl _) h (fun y u hp => ⟨(nI 1, nI g.L.length, nI g.O.length, pl, fd9, gr, bk, kp, pe, fg, fs, fb, fx, fo, fl, fn, fe, ft, fq, fr, fm), ?_, fmO_c ⟨rfl, Or.inl (List.mem_of_getElem? (i := 0) rfl)⟩ (fmO_c ⟨rfl, Or.inr ⟨by decide, rfl⟩⟩ (fmO_c ⟨rfl, Or.inr ⟨by decide, rfl⟩⟩ (fmO_c ⟨rfl, Or.inr ⟨by decide, rfl⟩⟩ (fmO_c ⟨rfl, Or.inr ⟨by decide, rfl⟩⟩ (fmO_c ⟨rfl, Or.inr ⟨by decide, rfl⟩⟩ (fmO_c ⟨rfl, Or.inr ⟨by decide, rfl⟩⟩ (fmO_c ⟨rfl, Or.inr ⟨by decide, rfl⟩⟩ (fmO_c ⟨rfl, Or.inr ⟨by decide, rfl⟩⟩ (fmO_c ⟨rfl, Or.inr ⟨by decide, rfl⟩⟩ (fmO_c ⟨rfl, Or.inr ⟨by decide, rfl⟩⟩ (fmO_c ⟨rfl, Or.inr ⟨by decide, rfl⟩⟩ (fmO_c ⟨rfl, Or.inr ⟨by decide, rfl⟩⟩ (fmO_n)))))))))))))⟩)
    exact ⟨rfl, ⟨⟨hg, hs, hb9⟩, hl9, ⟨rfl, hx9⟩, rfl, ho9⟩, hp⟩
abbrev rm_M_type : Room := { frames := 0, cells := 0, slots := 0, locals := 0 }
set_option maxRecDepth 100000 in
theorem M_type (l : Launch) (D : va_G) (cI cL cC cB cZ cR : ClassId) (sz : Nat) (ma : mA) (w : mS) (g : gS) (c9 : Nat) (hU : mU w g) (hG : gOk g) (hc9 : c9 < 65536) : Met l yX8_type wsX8_type rm_M_type (xPc D vwCl (tyAll cI cL cC cB cZ cR) [.ref ma.m9, .int (nI c9)] (mB cI cC cZ ma w) sz) (va_Qi (fun (y : Int32) (u : mS) => y = nI (sType g c9).1 ∧ mU u (sType g c9).2) (xB D vwCl (tyAll cI cL cC cB cZ cR) (va_A (mB cI cC cZ ma w) sz) (fun u : mS => mB cI cC cZ ma u)) (va_A (mB cI cC cZ ma w) sz)) 0 0 (va_A (mB cI cC cZ ma w) sz) := by
  obtain ⟨th, si, le, pl, fd9, gr, bk, kp, pe, fg, fs, fb, fx, fo, fl, fn, fe, ft, fq, fr, fm⟩ := w
  obtain ⟨⟨hg, hs, hb9⟩, hl9, ⟨hsi, hx9⟩, hle, ho9⟩ := hU
  have hg : mD fg g.C := hg
  have hs : rI 6 fs g.S := hs
  have hb9 : rI 6 fb g.B := hb9
  have hl9 : dR fl lim := hl9
  have hsi : si = nI g.L.length := hsi
  have hx9 : oR fx g.L := hx9
  have hle : le = nI g.O.length := hle
  have ho9 : oR fo g.O := ho9
  subst hsi
  subst hle
  by_cases c : 32 ≤ c9 ∧ c9 ≤ 126 ∧ g.L.length ≠ 40
  · skip
    have e : sType g c9 = (1, g.txt (g.L ++ [c9])) := by unfold sType; rw [if_pos c]
    rw [e]
    have h := c_type l D cI cL cC cB cZ cR sz ma.m9 ma.ad ma.as9 ma.ab ma.at9 ma.ao ma.al ma.an ma.ae ma.ap9 ma.aq ma.ar ma.am th (nI g.O.length) pl fd9 gr bk kp pe c9 g.L fx hx9 hG.2.2.1 hc9
    refine x_fmi [0, 4] rfl (by decide) ⟨Nat.le_of_ble_eq_true rfl, Nat.le_of_ble_eq_true rfl, Nat.le_of_ble_eq_true rfl, Nat.le_of_ble_eq_true rfl⟩ (Nat.le_refl _) (Nat.le_refl _) h (fun y u hp => ⟨(nI 0, u.1, nI g.O.length, pl, fd9, gr, bk, kp, pe, fg, fs, fb, u.2, fo, fl, fn, fe, ft, fq, fr, fm), ?_, fmO_c ⟨rfl, Or.inl (List.mem_of_getElem? (i := 0) rfl)⟩ (fmO_c ⟨rfl, Or.inr ⟨by decide, rfl⟩⟩ (fmO_c ⟨rfl, Or.inr ⟨by decide, rfl⟩⟩ (fmO_c ⟨rfl, Or.inr ⟨by decide, rfl⟩⟩ (fmO_c ⟨rfl, Or.inl (List.mem_of_getElem? (i := 1) rfl)⟩ (fmO_c ⟨rfl, Or.inr ⟨by decide, rfl⟩⟩ (fmO_c ⟨rfl, Or.inr ⟨by decide, rfl⟩⟩ (fmO_c ⟨rfl, Or.inr ⟨by decide, rfl⟩⟩ (fmO_c ⟨rfl, Or.inr ⟨by decide, rfl⟩⟩ (fmO_c ⟨rfl, Or.inr ⟨by decide, rfl⟩⟩ (fmO_c ⟨rfl, Or.inr ⟨by decide, rfl⟩⟩ (fmO_c ⟨rfl, Or.inr ⟨by decide, rfl⟩⟩ (fmO_c ⟨rfl, Or.inr ⟨by decide, rfl⟩⟩ (fmO_n)))))))))))))⟩)
    unfold tyP at hp
    rw [if_pos c] at hp
    exact ⟨hp.1, ⟨hg, hs, hb9⟩, hl9, hp.2, rfl, ho9⟩
  · skip
    have e : sType g c9 = (0, g) := by unfold sType; rw [if_neg c]
    rw [e]
    have h := c_type l D cI cL cC cB cZ cR sz ma.m9 ma.ad ma.as9 ma.ab ma.at9 ma.ao ma.al ma.an ma.ae ma.ap9 ma.aq ma.ar ma.am th (nI g.O.length) pl fd9 gr bk kp pe c9 g.L fx hx9 hG.2.2.1 hc9
    refine x_fmi [0, 4] rfl (by decide) ⟨Nat.le_of_ble_eq_true rfl, Nat.le_of_ble_eq_true rfl, Nat.le_of_ble_eq_true rfl, Nat.le_of_ble_eq_true rfl⟩ (Nat.le_refl _) (Nat.le_refl _) h (fun y u hp => ⟨(nI 0, u.1, nI g.O.length, pl, fd9, gr, bk, kp, pe, fg, fs, fb, u.2, fo, fl, fn, fe, ft, fq, fr, fm), ?_, fmO_c ⟨rfl, Or.inl (List.mem_of_getElem? (i := 0) rfl)⟩ (fmO_c ⟨rfl, Or.inr ⟨by decide, rfl⟩⟩ (fmO_c ⟨rfl, Or.inr ⟨by decide, rfl⟩⟩ (fmO_c ⟨rfl, Or.inr ⟨by decide, rfl⟩⟩ (fmO_c ⟨rfl, Or.inl (List.mem_of_getElem? (i := 1) rfl)⟩ (fmO_c ⟨rfl, Or.inr ⟨by decide, rfl⟩⟩ (fmO_c ⟨rfl, Or.inr ⟨by decide, rfl⟩⟩ (fmO_c ⟨rfl, Or.inr ⟨by decide, rfl⟩⟩ (fmO_c ⟨rfl, Or.inr ⟨by decide, rfl⟩⟩ (fmO_c ⟨rfl, Or.inr ⟨by decide, rfl⟩⟩ (fmO_c ⟨rfl, Or.inr ⟨by decide, rfl⟩⟩ (fmO_c ⟨rfl, Or.inr ⟨by decide, rfl⟩⟩ (fmO_c ⟨rfl, Or.inr ⟨by decide, rfl⟩⟩ (fmO_n)))))))))))))⟩)
    unfold tyP at hp
    rw [if_neg c] at hp
    exact ⟨hp.1, ⟨hg, hs, hb9⟩, hl9, hp.2, rfl, ho9⟩
abbrev rm_M_clear : Room := { frames := 0, cells := 0, slots := 0, locals := 0 }
set_option maxRecDepth 100000 in
theorem M_clear (l : Launch) (D : va_G) (cI cL cC cB cZ cR : ClassId) (sz : Nat) (ma : mA) (w : mS) (g : gS)  (hU : mU w g) (hG : gOk g)  : Met l yX8_clear wsX8_clear rm_M_clear (xPc D vwCl (tyAll cI cL cC cB cZ cR) [.ref ma.m9] (mB cI cC cZ ma w) sz) (va_Qv (fun u : mS => mU u (g.txt [])) (xB D vwCl (tyAll cI cL cC cB cZ cR) (va_A (mB cI cC cZ ma w) sz) (fun u : mS => mB cI cC cZ ma u)) (va_A (mB cI cC cZ ma w) sz)) 0 0 (va_A (mB cI cC cZ ma w) sz) := by
  obtain ⟨th, si, le, pl, fd9, gr, bk, kp, pe, fg, fs, fb, fx, fo, fl, fn, fe, ft, fq, fr, fm⟩ := w
  obtain ⟨⟨hg, hs, hb9⟩, hl9, ⟨hsi, hx9⟩, hle, ho9⟩ := hU
  have hg : mD fg g.C := hg
  have hs : rI 6 fs g.S := hs
  have hb9 : rI 6 fb g.B := hb9
  have hl9 : dR fl lim := hl9
  have hsi : si = nI g.L.length := hsi
  have hx9 : oR fx g.L := hx9
  have hle : le = nI g.O.length := hle
  have ho9 : oR fo g.O := ho9
  subst hsi
  subst hle
  have h := c_clear l D cI cL cC cB cZ cR sz ma.m9 ma.ad ma.as9 ma.ab ma.at9 ma.ao ma.al ma.an ma.ae ma.ap9 ma.aq ma.ar ma.am th (nI g.L.length) (nI g.O.length) pl fd9 gr bk kp pe 
  refine x_fmv [0] rfl (by decide) ⟨Nat.le_of_ble_eq_true rfl, Nat.le_of_ble_eq_true rfl, Nat.le_of_ble_eq_true rfl, Nat.le_of_ble_eq_true rfl⟩ (Nat.le_refl _) (Nat.le_refl _) h (fun u hp => ⟨(nI 0, nI 0, nI g.O.length, pl, fd9, gr, bk, kp, pe, fg, fs, fb, fx, fo, fl, fn, fe, ft, fq, fr, fm), ?_, fmO_c ⟨rfl, Or.inl (List.mem_of_getElem? (i := 0) rfl)⟩ (fmO_c ⟨rfl, Or.inr ⟨by decide, rfl⟩⟩ (fmO_c ⟨rfl, Or.inr ⟨by decide, rfl⟩⟩ (fmO_c ⟨rfl, Or.inr ⟨by decide, rfl⟩⟩ (fmO_c ⟨rfl, Or.inr ⟨by decide, rfl⟩⟩ (fmO_c ⟨rfl, Or.inr ⟨by decide, rfl⟩⟩ (fmO_c ⟨rfl, Or.inr ⟨by decide, rfl⟩⟩ (fmO_c ⟨rfl, Or.inr ⟨by decide, rfl⟩⟩ (fmO_c ⟨rfl, Or.inr ⟨by decide, rfl⟩⟩ (fmO_c ⟨rfl, Or.inr ⟨by decide, rfl⟩⟩ (fmO_c ⟨rfl, Or.inr ⟨by decide, rfl⟩⟩ (fmO_c ⟨rfl, Or.inr ⟨by decide, rfl⟩⟩ (fmO_c ⟨rfl, Or.inr ⟨by decide, rfl⟩⟩ (fmO_n)))))))))))))⟩)
  exact ⟨⟨hg, hs, hb9⟩, hl9, ⟨rfl, oR_nil _⟩, rfl, ho9⟩
abbrev rm_M_parse : Room := { frames := 4, cells := 0, slots := 0, locals := 87 }
set_option maxRecDepth 100000 in
theorem M_parse (l : Launch) (D : va_G) (cI cL cC cB cZ cR : ClassId) (sz : Nat) (ma : mA) (w : mS) (g : gS) (p0 : Int32) (hU : mU w g) (hG : gOk g)  : Met l yX8_parse wsX8_parse rm_M_parse (xPc D vwCl (tyAll cI cL cC cB cZ cR) [.ref ma.m9, .int p0] (mB cI cC cZ ma w) sz) (va_Qv (fun u : mS => u.th = nI (sParse g p0).1 ∧ mU u (sParse g p0).2) (xB D vwCl (tyAll cI cL cC cB cZ cR) (va_A (mB cI cC cZ ma w) sz) (fun u : mS => mB cI cC cZ ma u)) (va_A (mB cI cC cZ ma w) sz)) 0 0 (va_A (mB cI cC cZ ma w) sz) := by
  obtain ⟨th, si, le, pl, fd9, gr, bk, kp, pe, fg, fs, fb, fx, fo, fl, fn, fe, ft, fq, fr, fm⟩ := w
  obtain ⟨⟨hg, hs, hb9⟩, hl9, ⟨hsi, hx9⟩, hle, ho9⟩ := hU
  have hg : mD fg g.C := hg
  have hs : rI 6 fs g.S := hs
  have hb9 : rI 6 fb g.B := hb9
  have hl9 : dR fl lim := hl9
  have hsi : si = nI g.L.length := hsi
  have hx9 : oR fx g.L := hx9
  have hle : le = nI g.O.length := hle
  have ho9 : oR fo g.O := ho9
  subst hsi
  subst hle
  by_cases c : inR 6 p0 = 1
  · cases hr : prR g.L with
    | none =>
      have e : sParse g p0 = (2, g) := by unfold sParse; rw [if_pos c, hr]
      rw [e]
      have h := c_parse l D cI cL cC cB cZ cR sz ma.m9 ma.ad ma.as9 ma.ab ma.at9 ma.ao ma.al ma.an ma.ae ma.ap9 ma.aq ma.ar ma.am th (nI g.O.length) pl fd9 gr bk kp pe (iN p0) g.L g.C g.S g.B fg fs fb fl fn fe ft fq fr fm fx hg hs hb9 hl9 hx9 hG.2.2.1 hG.2.2.2.1 (i6 c)
      rw [nI_iN p0] at h
      refine x_fmv [0, 1, 2, 3, 6, 7, 8, 9, 10, 11, 12, 4] rfl (by decide) ⟨Nat.le_of_ble_eq_true rfl, Nat.le_of_ble_eq_true rfl, Nat.le_of_ble_eq_true rfl, Nat.le_of_ble_eq_true rfl⟩ (Nat.le_refl _) (Nat.le_refl _) h (fun u hp => ⟨(u.1, nI g.L.length, nI g.O.length, u.2.1, fd9, gr, bk, kp, pe, u.2.2.1, u.2.2.2.1, u.2.2.2.2.1, fx, fo, fl, u.2.2.2.2.2.1, u.2.2.2.2.2.2.1, u.2.2.2.2.2.2.2.1, u.2.2.2.2.2.2.2.2.1, u.2.2.2.2.2.2.2.2.2.1, u.2.2.2.2.2.2.2.2.2.2), ?_, fmO_c ⟨rfl, Or.inl (List.mem_of_getElem? (i := 0) rfl)⟩ (fmO_c ⟨rfl, Or.inl (List.mem_of_getElem? (i := 1) rfl)⟩ (fmO_c ⟨rfl, Or.inl (List.mem_of_getElem? (i := 2) rfl)⟩ (fmO_c ⟨rfl, Or.inl (List.mem_of_getElem? (i := 3) rfl)⟩ (fmO_c ⟨rfl, Or.inl (List.mem_of_getElem? (i := 11) rfl)⟩ (fmO_c ⟨rfl, Or.inr ⟨by decide, rfl⟩⟩ (fmO_c ⟨rfl, Or.inl (List.mem_of_getElem? (i := 4) rfl)⟩ (fmO_c ⟨rfl, Or.inl (List.mem_of_getElem? (i := 5) rfl)⟩ (fmO_c ⟨rfl, Or.inl (List.mem_of_getElem? (i := 6) rfl)⟩ (fmO_c ⟨rfl, Or.inl (List.mem_of_getElem? (i := 7) rfl)⟩ (fmO_c ⟨rfl, Or.inl (List.mem_of_getElem? (i := 8) rfl)⟩ (fmO_c ⟨rfl, Or.inl (List.mem_of_getElem? (i := 9) rfl)⟩ (fmO_c ⟨rfl, Or.inl (List.mem_of_getElem? (i := 10) rfl)⟩ (fmO_n)))))))))))))⟩)
      unfold paP at hp
      simp only [hr] at hp
      exact ⟨hp.1, ⟨hp.2, hl9, ⟨rfl, hx9⟩, rfl, ho9⟩⟩
    | some z9 =>
      obtain ⟨v, b9⟩ := z9
      cases hq : plc v (10 ^ b9) (min b9 28) with
      | none =>
        have e : sParse g p0 = (3, g) := by unfold sParse; rw [if_pos c]; simp only [hr, hq]
        rw [e]
        have h := c_parse l D cI cL cC cB cZ cR sz ma.m9 ma.ad ma.as9 ma.ab ma.at9 ma.ao ma.al ma.an ma.ae ma.ap9 ma.aq ma.ar ma.am th (nI g.O.length) pl fd9 gr bk kp pe (iN p0) g.L g.C g.S g.B fg fs fb fl fn fe ft fq fr fm fx hg hs hb9 hl9 hx9 hG.2.2.1 hG.2.2.2.1 (i6 c)
        rw [nI_iN p0] at h
        refine x_fmv [0, 1, 2, 3, 6, 7, 8, 9, 10, 11, 12, 4] rfl (by decide) ⟨Nat.le_of_ble_eq_true rfl, Nat.le_of_ble_eq_true rfl, Nat.le_of_ble_eq_true rfl, Nat.le_of_ble_eq_true rfl⟩ (Nat.le_refl _) (Nat.le_refl _) h (fun u hp => ⟨(u.1, nI g.L.length, nI g.O.length, u.2.1, fd9, gr, bk, kp, pe, u.2.2.1, u.2.2.2.1, u.2.2.2.2.1, fx, fo, fl, u.2.2.2.2.2.1, u.2.2.2.2.2.2.1, u.2.2.2.2.2.2.2.1, u.2.2.2.2.2.2.2.2.1, u.2.2.2.2.2.2.2.2.2.1, u.2.2.2.2.2.2.2.2.2.2), ?_, fmO_c ⟨rfl, Or.inl (List.mem_of_getElem? (i := 0) rfl)⟩ (fmO_c ⟨rfl, Or.inl (List.mem_of_getElem? (i := 1) rfl)⟩ (fmO_c ⟨rfl, Or.inl (List.mem_of_getElem? (i := 2) rfl)⟩ (fmO_c ⟨rfl, Or.inl (List.mem_of_getElem? (i := 3) rfl)⟩ (fmO_c ⟨rfl, Or.inl (List.mem_of_getElem? (i := 11) rfl)⟩ (fmO_c ⟨rfl, Or.inr ⟨by decide, rfl⟩⟩ (fmO_c ⟨rfl, Or.inl (List.mem_of_getElem? (i := 4) rfl)⟩ (fmO_c ⟨rfl, Or.inl (List.mem_of_getElem? (i := 5) rfl)⟩ (fmO_c ⟨rfl, Or.inl (List.mem_of_getElem? (i := 6) rfl)⟩ (fmO_c ⟨rfl, Or.inl (List.mem_of_getElem? (i := 7) rfl)⟩ (fmO_c ⟨rfl, Or.inl (List.mem_of_getElem? (i := 8) rfl)⟩ (fmO_c ⟨rfl, Or.inl (List.mem_of_getElem? (i := 9) rfl)⟩ (fmO_c ⟨rfl, Or.inl (List.mem_of_getElem? (i := 10) rfl)⟩ (fmO_n)))))))))))))⟩)
        unfold paP at hp
        simp only [hr, hq] at hp
        exact ⟨hp.1, ⟨hp.2, hl9, ⟨rfl, hx9⟩, rfl, ho9⟩⟩
      | some z9 =>
        obtain ⟨q, s3⟩ := z9
        have e : sParse g p0 = (0, g.reg (iN p0) q s3 (prN g.L)) := by unfold sParse; rw [if_pos c]; simp only [hr, hq]
        rw [e]
        have h := c_parse l D cI cL cC cB cZ cR sz ma.m9 ma.ad ma.as9 ma.ab ma.at9 ma.ao ma.al ma.an ma.ae ma.ap9 ma.aq ma.ar ma.am th (nI g.O.length) pl fd9 gr bk kp pe (iN p0) g.L g.C g.S g.B fg fs fb fl fn fe ft fq fr fm fx hg hs hb9 hl9 hx9 hG.2.2.1 hG.2.2.2.1 (i6 c)
        rw [nI_iN p0] at h
        refine x_fmv [0, 1, 2, 3, 6, 7, 8, 9, 10, 11, 12, 4] rfl (by decide) ⟨Nat.le_of_ble_eq_true rfl, Nat.le_of_ble_eq_true rfl, Nat.le_of_ble_eq_true rfl, Nat.le_of_ble_eq_true rfl⟩ (Nat.le_refl _) (Nat.le_refl _) h (fun u hp => ⟨(u.1, nI g.L.length, nI g.O.length, u.2.1, fd9, gr, bk, kp, pe, u.2.2.1, u.2.2.2.1, u.2.2.2.2.1, fx, fo, fl, u.2.2.2.2.2.1, u.2.2.2.2.2.2.1, u.2.2.2.2.2.2.2.1, u.2.2.2.2.2.2.2.2.1, u.2.2.2.2.2.2.2.2.2.1, u.2.2.2.2.2.2.2.2.2.2), ?_, fmO_c ⟨rfl, Or.inl (List.mem_of_getElem? (i := 0) rfl)⟩ (fmO_c ⟨rfl, Or.inl (List.mem_of_getElem? (i := 1) rfl)⟩ (fmO_c ⟨rfl, Or.inl (List.mem_of_getElem? (i := 2) rfl)⟩ (fmO_c ⟨rfl, Or.inl (List.mem_of_getElem? (i := 3) rfl)⟩ (fmO_c ⟨rfl, Or.inl (List.mem_of_getElem? (i := 11) rfl)⟩ (fmO_c ⟨rfl, Or.inr ⟨by decide, rfl⟩⟩ (fmO_c ⟨rfl, Or.inl (List.mem_of_getElem? (i := 4) rfl)⟩ (fmO_c ⟨rfl, Or.inl (List.mem_of_getElem? (i := 5) rfl)⟩ (fmO_c ⟨rfl, Or.inl (List.mem_of_getElem? (i := 6) rfl)⟩ (fmO_c ⟨rfl, Or.inl (List.mem_of_getElem? (i := 7) rfl)⟩ (fmO_c ⟨rfl, Or.inl (List.mem_of_getElem? (i := 8) rfl)⟩ (fmO_c ⟨rfl, Or.inl (List.mem_of_getElem? (i := 9) rfl)⟩ (fmO_c ⟨rfl, Or.inl (List.mem_of_getElem? (i := 10) rfl)⟩ (fmO_n)))))))))))))⟩)
        unfold paP at hp
        simp only [hr, hq] at hp
        exact ⟨hp.1, ⟨hp.2, hl9, ⟨rfl, hx9⟩, rfl, ho9⟩⟩
  · skip
    have e : sParse g p0 = (1, g) := by unfold sParse; rw [if_neg c]
    rw [e]
    have h := c_parse_bad l D cI cL cC cB cZ cR sz ma.m9 ma.ad ma.as9 ma.ab ma.at9 ma.ao ma.al ma.an ma.ae ma.ap9 ma.aq ma.ar ma.am th (nI g.L.length) (nI g.O.length) pl fd9 gr bk kp pe p0 (nin1 c)
    refine x_fmv [0] rfl (by decide) ⟨Nat.le_of_ble_eq_true rfl, Nat.le_of_ble_eq_true rfl, Nat.le_of_ble_eq_true rfl, Nat.le_of_ble_eq_true rfl⟩ (Nat.le_refl _) (Nat.le_refl _) h (fun u hp => ⟨(nI 1, nI g.L.length, nI g.O.length, pl, fd9, gr, bk, kp, pe, fg, fs, fb, fx, fo, fl, fn, fe, ft, fq, fr, fm), ?_, fmO_c ⟨rfl, Or.inl (List.mem_of_getElem? (i := 0) rfl)⟩ (fmO_c ⟨rfl, Or.inr ⟨by decide, rfl⟩⟩ (fmO_c ⟨rfl, Or.inr ⟨by decide, rfl⟩⟩ (fmO_c ⟨rfl, Or.inr ⟨by decide, rfl⟩⟩ (fmO_c ⟨rfl, Or.inr ⟨by decide, rfl⟩⟩ (fmO_c ⟨rfl, Or.inr ⟨by decide, rfl⟩⟩ (fmO_c ⟨rfl, Or.inr ⟨by decide, rfl⟩⟩ (fmO_c ⟨rfl, Or.inr ⟨by decide, rfl⟩⟩ (fmO_c ⟨rfl, Or.inr ⟨by decide, rfl⟩⟩ (fmO_c ⟨rfl, Or.inr ⟨by decide, rfl⟩⟩ (fmO_c ⟨rfl, Or.inr ⟨by decide, rfl⟩⟩ (fmO_c ⟨rfl, Or.inr ⟨by decide, rfl⟩⟩ (fmO_c ⟨rfl, Or.inr ⟨by decide, rfl⟩⟩ (fmO_n)))))))))))))⟩)
    exact ⟨rfl, ⟨⟨hg, hs, hb9⟩, hl9, ⟨rfl, hx9⟩, rfl, ho9⟩⟩
abbrev rm_M_show : Room := { frames := 2, cells := 0, slots := 0, locals := 44 }
set_option maxRecDepth 100000 in
theorem M_show (l : Launch) (D : va_G) (cI cL cC cB cZ cR : ClassId) (sz : Nat) (ma : mA) (w : mS) (g : gS) (p0 : Int32) (hU : mU w g) (hG : gOk g)  : Met l yX8_show wsX8_show rm_M_show (xPc D vwCl (tyAll cI cL cC cB cZ cR) [.ref ma.m9, .int p0] (mB cI cC cZ ma w) sz) (va_Qi (fun (y : Int32) (u : mS) => u.th = nI (sShow g p0).1 ∧ mU u (sShow g p0).2 ∧ ((sShow g p0).1 = 0 → y = nI (sShow g p0).2.O.length)) (xB D vwCl (tyAll cI cL cC cB cZ cR) (va_A (mB cI cC cZ ma w) sz) (fun u : mS => mB cI cC cZ ma u)) (va_A (mB cI cC cZ ma w) sz)) 0 0 (va_A (mB cI cC cZ ma w) sz) := by
  obtain ⟨th, si, le, pl, fd9, gr, bk, kp, pe, fg, fs, fb, fx, fo, fl, fn, fe, ft, fq, fr, fm⟩ := w
  obtain ⟨⟨hg, hs, hb9⟩, hl9, ⟨hsi, hx9⟩, hle, ho9⟩ := hU
  have hg : mD fg g.C := hg
  have hs : rI 6 fs g.S := hs
  have hb9 : rI 6 fb g.B := hb9
  have hl9 : dR fl lim := hl9
  have hsi : si = nI g.L.length := hsi
  have hx9 : oR fx g.L := hx9
  have hle : le = nI g.O.length := hle
  have ho9 : oR fo g.O := ho9
  subst hsi
  subst hle
  by_cases c : inR 6 p0 = 1
  · skip
    have e : sShow g p0 = (0, g.out (gSh g (iN p0))) := by unfold sShow; rw [if_pos c]
    rw [e]
    have h := c_show l D cI cL cC cB cZ cR sz ma.m9 ma.ad ma.as9 ma.ab ma.at9 ma.ao ma.al ma.an ma.ae ma.ap9 ma.aq ma.ar ma.am th (nI g.L.length) (nI g.O.length) pl fd9 gr bk kp pe (iN p0) g.C g.S g.B fg fs fb fo fn hg hs hb9 hG.1 (i6 c)
    rw [nI_iN p0] at h
    refine x_fmi [0, 1, 2, 3, 5, 7] rfl (by decide) ⟨Nat.le_of_ble_eq_true rfl, Nat.le_of_ble_eq_true rfl, Nat.le_of_ble_eq_true rfl, Nat.le_of_ble_eq_true rfl⟩ (Nat.le_refl _) (Nat.le_refl _) h (fun y u hp => ⟨(nI 0, nI g.L.length, u.1, pl, fd9, gr, bk, kp, pe, fg, fs, fb, fx, u.2.1, fl, u.2.2, fe, ft, fq, fr, fm), ?_, fmO_c ⟨rfl, Or.inl (List.mem_of_getElem? (i := 0) rfl)⟩ (fmO_c ⟨rfl, Or.inl (List.mem_of_getElem? (i := 1) rfl)⟩ (fmO_c ⟨rfl, Or.inl (List.mem_of_getElem? (i := 2) rfl)⟩ (fmO_c ⟨rfl, Or.inl (List.mem_of_getElem? (i := 3) rfl)⟩ (fmO_c ⟨rfl, Or.inr ⟨by decide, rfl⟩⟩ (fmO_c ⟨rfl, Or.inl (List.mem_of_getElem? (i := 4) rfl)⟩ (fmO_c ⟨rfl, Or.inr ⟨by decide, rfl⟩⟩ (fmO_c ⟨rfl, Or.inl (List.mem_of_getElem? (i := 5) rfl)⟩ (fmO_c ⟨rfl, Or.inr ⟨by decide, rfl⟩⟩ (fmO_c ⟨rfl, Or.inr ⟨by decide, rfl⟩⟩ (fmO_c ⟨rfl, Or.inr ⟨by decide, rfl⟩⟩ (fmO_c ⟨rfl, Or.inr ⟨by decide, rfl⟩⟩ (fmO_c ⟨rfl, Or.inr ⟨by decide, rfl⟩⟩ (fmO_n)))))))))))))⟩)
    exact ⟨rfl, ⟨⟨hg, hs, hb9⟩, hl9, ⟨rfl, hx9⟩, hp.2⟩, fun _ => hp.1⟩
  · skip
    have e : sShow g p0 = (1, g) := by unfold sShow; rw [if_neg c]
    rw [e]
    have h := c_show_bad l D cI cL cC cB cZ cR sz ma.m9 ma.ad ma.as9 ma.ab ma.at9 ma.ao ma.al ma.an ma.ae ma.ap9 ma.aq ma.ar ma.am th (nI g.L.length) (nI g.O.length) pl fd9 gr bk kp pe p0 (nin1 c)
    refine x_fmi [0] rfl (by decide) ⟨Nat.le_of_ble_eq_true rfl, Nat.le_of_ble_eq_true rfl, Nat.le_of_ble_eq_true rfl, Nat.le_of_ble_eq_true rfl⟩ (Nat.le_refl _) (Nat.le_refl _) h (fun y u hp => ⟨(nI 1, nI g.L.length, nI g.O.length, pl, fd9, gr, bk, kp, pe, fg, fs, fb, fx, fo, fl, fn, fe, ft, fq, fr, fm), ?_, fmO_c ⟨rfl, Or.inl (List.mem_of_getElem? (i := 0) rfl)⟩ (fmO_c ⟨rfl, Or.inr ⟨by decide, rfl⟩⟩ (fmO_c ⟨rfl, Or.inr ⟨by decide, rfl⟩⟩ (fmO_c ⟨rfl, Or.inr ⟨by decide, rfl⟩⟩ (fmO_c ⟨rfl, Or.inr ⟨by decide, rfl⟩⟩ (fmO_c ⟨rfl, Or.inr ⟨by decide, rfl⟩⟩ (fmO_c ⟨rfl, Or.inr ⟨by decide, rfl⟩⟩ (fmO_c ⟨rfl, Or.inr ⟨by decide, rfl⟩⟩ (fmO_c ⟨rfl, Or.inr ⟨by decide, rfl⟩⟩ (fmO_c ⟨rfl, Or.inr ⟨by decide, rfl⟩⟩ (fmO_c ⟨rfl, Or.inr ⟨by decide, rfl⟩⟩ (fmO_c ⟨rfl, Or.inr ⟨by decide, rfl⟩⟩ (fmO_c ⟨rfl, Or.inr ⟨by decide, rfl⟩⟩ (fmO_n)))))))))))))⟩)
    exact ⟨rfl, ⟨⟨hg, hs, hb9⟩, hl9, ⟨rfl, hx9⟩, rfl, ho9⟩, fun h => absurd h (Nat.succ_ne_zero _)⟩
abbrev rm_M_format : Room := { frames := 4, cells := 0, slots := 0, locals := 92 }
set_option maxRecDepth 100000 in
theorem M_format (l : Launch) (D : va_G) (cI cL cC cB cZ cR : ClassId) (sz : Nat) (ma : mA) (w : mS) (g : gS) (p0 : Int32) (hU : mU w g) (hG : gOk g)  : Met l yX8_format wsX8_format rm_M_format (xPc D vwCl (tyAll cI cL cC cB cZ cR) [.ref ma.m9, .int p0] (mB cI cC cZ ma w) sz) (va_Qi (fun (y : Int32) (u : mS) => u.th = nI (sFmt g p0).1 ∧ mU u (sFmt g p0).2 ∧ ((sFmt g p0).1 = 0 → y = nI (sFmt g p0).2.O.length)) (xB D vwCl (tyAll cI cL cC cB cZ cR) (va_A (mB cI cC cZ ma w) sz) (fun u : mS => mB cI cC cZ ma u)) (va_A (mB cI cC cZ ma w) sz)) 0 0 (va_A (mB cI cC cZ ma w) sz) := by
  obtain ⟨th, si, le, pl, fd9, gr, bk, kp, pe, fg, fs, fb, fx, fo, fl, fn, fe, ft, fq, fr, fm⟩ := w
  obtain ⟨⟨hg, hs, hb9⟩, hl9, ⟨hsi, hx9⟩, hle, ho9⟩ := hU
  have hg : mD fg g.C := hg
  have hs : rI 6 fs g.S := hs
  have hb9 : rI 6 fb g.B := hb9
  have hl9 : dR fl lim := hl9
  have hsi : si = nI g.L.length := hsi
  have hx9 : oR fx g.L := hx9
  have hle : le = nI g.O.length := hle
  have ho9 : oR fo g.O := ho9
  subst hsi
  subst hle
  by_cases c : inR 6 p0 = 1
  · by_cases hO : ptO g.L = 1
    · skip
      have e : sFmt g p0 = (0, g.out (gTx g (iN p0))) := by unfold sFmt; rw [if_pos c, if_pos hO]
      rw [e]
      have h := c_format l D cI cL cC cB cZ cR sz ma.m9 ma.ad ma.as9 ma.ab ma.at9 ma.ao ma.al ma.an ma.ae ma.ap9 ma.aq ma.ar ma.am th (nI g.O.length) pl fd9 gr bk kp pe (iN p0) g.L g.C g.S g.B fg fs fb fx fo fe ft fq fr fm hg hs hb9 hG.1 hx9 hG.2.2.1 hG.2.2.2.1 (i6 c) hO (by rw [gTx_m hG (i6 c)]; have h9 := gTx_80 hG (i6 c) hO; omega)
      rw [nI_iN p0] at h
      refine x_fmi [0, 1, 2, 3, 4, 5, 8, 9, 10, 11, 12] rfl (by decide) ⟨Nat.le_of_ble_eq_true rfl, Nat.le_of_ble_eq_true rfl, Nat.le_of_ble_eq_true rfl, Nat.le_of_ble_eq_true rfl⟩ (Nat.le_refl _) (Nat.le_refl _) h (fun y u hp => ⟨(nI 0, nI g.L.length, u.1, pl, nI (fdF g.L (ptP g.L)), nI (grF g.L (anyF g.L (ptP g.L)) (ptP g.L)), nI (ptK g.L), nI (kpF g.L (ptB g.L) (ptK g.L)), nI (ptC g.L), fg, fs, fb, fx, u.2.1, fl, fn, u.2.2.1, u.2.2.2.1, u.2.2.2.2.1, u.2.2.2.2.2.1, u.2.2.2.2.2.2), ?_, fmO_c ⟨rfl, Or.inl (List.mem_of_getElem? (i := 0) rfl)⟩ (fmO_c ⟨rfl, Or.inl (List.mem_of_getElem? (i := 1) rfl)⟩ (fmO_c ⟨rfl, Or.inl (List.mem_of_getElem? (i := 2) rfl)⟩ (fmO_c ⟨rfl, Or.inl (List.mem_of_getElem? (i := 3) rfl)⟩ (fmO_c ⟨rfl, Or.inl (List.mem_of_getElem? (i := 4) rfl)⟩ (fmO_c ⟨rfl, Or.inl (List.mem_of_getElem? (i := 5) rfl)⟩ (fmO_c ⟨rfl, Or.inr ⟨by decide, rfl⟩⟩ (fmO_c ⟨rfl, Or.inr ⟨by decide, rfl⟩⟩ (fmO_c ⟨rfl, Or.inl (List.mem_of_getElem? (i := 6) rfl)⟩ (fmO_c ⟨rfl, Or.inl (List.mem_of_getElem? (i := 7) rfl)⟩ (fmO_c ⟨rfl, Or.inl (List.mem_of_getElem? (i := 8) rfl)⟩ (fmO_c ⟨rfl, Or.inl (List.mem_of_getElem? (i := 9) rfl)⟩ (fmO_c ⟨rfl, Or.inl (List.mem_of_getElem? (i := 10) rfl)⟩ (fmO_n)))))))))))))⟩)
      rw [gTx_m hG (i6 c)] at hp
      exact ⟨rfl, ⟨⟨hg, hs, hb9⟩, hl9, ⟨rfl, hx9⟩, hp.2⟩, fun _ => hp.1⟩
    · skip
      have e : sFmt g p0 = (2, g) := by unfold sFmt; rw [if_pos c, if_neg hO]
      rw [e]
      have h := c_format_no l D cI cL cC cB cZ cR sz ma.m9 ma.ad ma.as9 ma.ab ma.at9 ma.ao ma.al ma.an ma.ae ma.ap9 ma.aq ma.ar ma.am th (nI g.O.length) pl fd9 gr bk kp pe (iN p0) g.L fx hx9 hG.2.2.1 hG.2.2.2.1 (i6 c) (nptO hO)
      rw [nI_iN p0] at h
      refine x_fmi [0, 4] rfl (by decide) ⟨Nat.le_of_ble_eq_true rfl, Nat.le_of_ble_eq_true rfl, Nat.le_of_ble_eq_true rfl, Nat.le_of_ble_eq_true rfl⟩ (Nat.le_refl _) (Nat.le_refl _) h (fun y u hp => ⟨(nI 2, nI g.L.length, nI g.O.length, pl, nI (fdF g.L (ptP g.L)), nI (grF g.L (anyF g.L (ptP g.L)) (ptP g.L)), nI (ptK g.L), nI (kpF g.L (ptB g.L) (ptK g.L)), nI (ptC g.L), fg, fs, fb, fx, fo, fl, fn, fe, ft, fq, fr, fm), ?_, fmO_c ⟨rfl, Or.inl (List.mem_of_getElem? (i := 0) rfl)⟩ (fmO_c ⟨rfl, Or.inr ⟨by decide, rfl⟩⟩ (fmO_c ⟨rfl, Or.inr ⟨by decide, rfl⟩⟩ (fmO_c ⟨rfl, Or.inr ⟨by decide, rfl⟩⟩ (fmO_c ⟨rfl, Or.inl (List.mem_of_getElem? (i := 1) rfl)⟩ (fmO_c ⟨rfl, Or.inr ⟨by decide, rfl⟩⟩ (fmO_c ⟨rfl, Or.inr ⟨by decide, rfl⟩⟩ (fmO_c ⟨rfl, Or.inr ⟨by decide, rfl⟩⟩ (fmO_c ⟨rfl, Or.inr ⟨by decide, rfl⟩⟩ (fmO_c ⟨rfl, Or.inr ⟨by decide, rfl⟩⟩ (fmO_c ⟨rfl, Or.inr ⟨by decide, rfl⟩⟩ (fmO_c ⟨rfl, Or.inr ⟨by decide, rfl⟩⟩ (fmO_c ⟨rfl, Or.inr ⟨by decide, rfl⟩⟩ (fmO_n)))))))))))))⟩)
      exact ⟨rfl, ⟨⟨hg, hs, hb9⟩, hl9, ⟨rfl, hx9⟩, rfl, ho9⟩, fun h => absurd h (Nat.succ_ne_zero _)⟩
  · skip
    have e : sFmt g p0 = (1, g) := by unfold sFmt; rw [if_neg c]
    rw [e]
    have h := c_format_bad l D cI cL cC cB cZ cR sz ma.m9 ma.ad ma.as9 ma.ab ma.at9 ma.ao ma.al ma.an ma.ae ma.ap9 ma.aq ma.ar ma.am th (nI g.L.length) (nI g.O.length) pl fd9 gr bk kp pe p0 (nin1 c)
    refine x_fmi [0] rfl (by decide) ⟨Nat.le_of_ble_eq_true rfl, Nat.le_of_ble_eq_true rfl, Nat.le_of_ble_eq_true rfl, Nat.le_of_ble_eq_true rfl⟩ (Nat.le_refl _) (Nat.le_refl _) h (fun y u hp => ⟨(nI 1, nI g.L.length, nI g.O.length, pl, fd9, gr, bk, kp, pe, fg, fs, fb, fx, fo, fl, fn, fe, ft, fq, fr, fm), ?_, fmO_c ⟨rfl, Or.inl (List.mem_of_getElem? (i := 0) rfl)⟩ (fmO_c ⟨rfl, Or.inr ⟨by decide, rfl⟩⟩ (fmO_c ⟨rfl, Or.inr ⟨by decide, rfl⟩⟩ (fmO_c ⟨rfl, Or.inr ⟨by decide, rfl⟩⟩ (fmO_c ⟨rfl, Or.inr ⟨by decide, rfl⟩⟩ (fmO_c ⟨rfl, Or.inr ⟨by decide, rfl⟩⟩ (fmO_c ⟨rfl, Or.inr ⟨by decide, rfl⟩⟩ (fmO_c ⟨rfl, Or.inr ⟨by decide, rfl⟩⟩ (fmO_c ⟨rfl, Or.inr ⟨by decide, rfl⟩⟩ (fmO_c ⟨rfl, Or.inr ⟨by decide, rfl⟩⟩ (fmO_c ⟨rfl, Or.inr ⟨by decide, rfl⟩⟩ (fmO_c ⟨rfl, Or.inr ⟨by decide, rfl⟩⟩ (fmO_c ⟨rfl, Or.inr ⟨by decide, rfl⟩⟩ (fmO_n)))))))))))))⟩)
    exact ⟨rfl, ⟨⟨hg, hs, hb9⟩, hl9, ⟨rfl, hx9⟩, rfl, ho9⟩, fun h => absurd h (Nat.succ_ne_zero _)⟩
abbrev rm_M_at : Room := { frames := 0, cells := 0, slots := 0, locals := 0 }
set_option maxRecDepth 100000 in
theorem M_at (l : Launch) (D : va_G) (cI cL cC cB cZ cR : ClassId) (sz : Nat) (ma : mA) (w : mS) (g : gS) (p0 : Int32) (hU : mU w g) (hG : gOk g)  : Met l yX8_at wsX8_at rm_M_at (xPc D vwCl (tyAll cI cL cC cB cZ cR) [.ref ma.m9, .int p0] (mB cI cC cZ ma w) sz) (va_Qi (fun (y : Int32) (u : mS) => y = sAt g p0 ∧ mU u g) (xB D vwCl (tyAll cI cL cC cB cZ cR) (va_A (mB cI cC cZ ma w) sz) (fun u : mS => mB cI cC cZ ma u)) (va_A (mB cI cC cZ ma w) sz)) 0 0 (va_A (mB cI cC cZ ma w) sz) := by
  obtain ⟨th, si, le, pl, fd9, gr, bk, kp, pe, fg, fs, fb, fx, fo, fl, fn, fe, ft, fq, fr, fm⟩ := w
  obtain ⟨⟨hg, hs, hb9⟩, hl9, ⟨hsi, hx9⟩, hle, ho9⟩ := hU
  have hg : mD fg g.C := hg
  have hs : rI 6 fs g.S := hs
  have hb9 : rI 6 fb g.B := hb9
  have hl9 : dR fl lim := hl9
  have hsi : si = nI g.L.length := hsi
  have hx9 : oR fx g.L := hx9
  have hle : le = nI g.O.length := hle
  have ho9 : oR fo g.O := ho9
  subst hsi
  subst hle
  by_cases c : inR g.O.length p0 = 1
  · skip
    have e : sAt g p0 = nI (g.O.getD (iN p0) 0) := by unfold sAt; rw [if_pos c]
    rw [e]
    have h := c_at l D cI cL cC cB cZ cR sz ma.m9 ma.ad ma.as9 ma.ab ma.at9 ma.ao ma.al ma.an ma.ae ma.ap9 ma.aq ma.ar ma.am th (nI g.L.length) pl fd9 gr bk kp pe (iN p0) g.O fo ho9 (Nat.le_trans hG.2.2.2.2.1 (by decide)) (inR_iN (Nat.lt_of_le_of_lt hG.2.2.2.2.1 (by decide)) c)
    rw [nI_iN p0] at h
    refine x_fmi [0, 5] rfl (by decide) ⟨Nat.le_of_ble_eq_true rfl, Nat.le_of_ble_eq_true rfl, Nat.le_of_ble_eq_true rfl, Nat.le_of_ble_eq_true rfl⟩ (Nat.le_refl _) (Nat.le_refl _) h (fun y u hp => ⟨(nI 0, nI g.L.length, nI g.O.length, pl, fd9, gr, bk, kp, pe, fg, fs, fb, fx, fo, fl, fn, fe, ft, fq, fr, fm), ?_, fmO_c ⟨rfl, Or.inl (List.mem_of_getElem? (i := 0) rfl)⟩ (fmO_c ⟨rfl, Or.inr ⟨by decide, rfl⟩⟩ (fmO_c ⟨rfl, Or.inr ⟨by decide, rfl⟩⟩ (fmO_c ⟨rfl, Or.inr ⟨by decide, rfl⟩⟩ (fmO_c ⟨rfl, Or.inr ⟨by decide, rfl⟩⟩ (fmO_c ⟨rfl, Or.inl (List.mem_of_getElem? (i := 1) rfl)⟩ (fmO_c ⟨rfl, Or.inr ⟨by decide, rfl⟩⟩ (fmO_c ⟨rfl, Or.inr ⟨by decide, rfl⟩⟩ (fmO_c ⟨rfl, Or.inr ⟨by decide, rfl⟩⟩ (fmO_c ⟨rfl, Or.inr ⟨by decide, rfl⟩⟩ (fmO_c ⟨rfl, Or.inr ⟨by decide, rfl⟩⟩ (fmO_c ⟨rfl, Or.inr ⟨by decide, rfl⟩⟩ (fmO_c ⟨rfl, Or.inr ⟨by decide, rfl⟩⟩ (fmO_n)))))))))))))⟩)
    exact ⟨hp, ⟨⟨hg, hs, hb9⟩, hl9, ⟨rfl, hx9⟩, rfl, ho9⟩⟩
  · skip
    have e : sAt g p0 = -1 := by unfold sAt; rw [if_neg c]
    rw [e]
    have h := c_at_bad l D cI cL cC cB cZ cR sz ma.m9 ma.ad ma.as9 ma.ab ma.at9 ma.ao ma.al ma.an ma.ae ma.ap9 ma.aq ma.ar ma.am th (nI g.L.length) pl fd9 gr bk kp pe p0 g.O (nin1 c)
    refine x_fmi [0] rfl (by decide) ⟨Nat.le_of_ble_eq_true rfl, Nat.le_of_ble_eq_true rfl, Nat.le_of_ble_eq_true rfl, Nat.le_of_ble_eq_true rfl⟩ (Nat.le_refl _) (Nat.le_refl _) h (fun y u hp => ⟨(nI 0, nI g.L.length, nI g.O.length, pl, fd9, gr, bk, kp, pe, fg, fs, fb, fx, fo, fl, fn, fe, ft, fq, fr, fm), ?_, fmO_c ⟨rfl, Or.inl (List.mem_of_getElem? (i := 0) rfl)⟩ (fmO_c ⟨rfl, Or.inr ⟨by decide, rfl⟩⟩ (fmO_c ⟨rfl, Or.inr ⟨by decide, rfl⟩⟩ (fmO_c ⟨rfl, Or.inr ⟨by decide, rfl⟩⟩ (fmO_c ⟨rfl, Or.inr ⟨by decide, rfl⟩⟩ (fmO_c ⟨rfl, Or.inr ⟨by decide, rfl⟩⟩ (fmO_c ⟨rfl, Or.inr ⟨by decide, rfl⟩⟩ (fmO_c ⟨rfl, Or.inr ⟨by decide, rfl⟩⟩ (fmO_c ⟨rfl, Or.inr ⟨by decide, rfl⟩⟩ (fmO_c ⟨rfl, Or.inr ⟨by decide, rfl⟩⟩ (fmO_c ⟨rfl, Or.inr ⟨by decide, rfl⟩⟩ (fmO_c ⟨rfl, Or.inr ⟨by decide, rfl⟩⟩ (fmO_c ⟨rfl, Or.inr ⟨by decide, rfl⟩⟩ (fmO_n)))))))))))))⟩)
    exact ⟨hp, ⟨⟨hg, hs, hb9⟩, hl9, ⟨rfl, hx9⟩, rfl, ho9⟩⟩
abbrev rm_M_reuse : Room := { frames := 0, cells := 0, slots := 0, locals := 0 }
set_option maxRecDepth 100000 in
theorem M_reuse (l : Launch) (D : va_G) (cI cL cC cB cZ cR : ClassId) (sz : Nat) (ma : mA) (w : mS) (g : gS)  (hU : mU w g) (hG : gOk g)  : Met l yX8_reuse wsX8_reuse rm_M_reuse (xPc D vwCl (tyAll cI cL cC cB cZ cR) [.ref ma.m9] (mB cI cC cZ ma w) sz) (va_Qi (fun (y : Int32) (u : mS) => y = nI (sReuse g).1 ∧ mU u (sReuse g).2) (xB D vwCl (tyAll cI cL cC cB cZ cR) (va_A (mB cI cC cZ ma w) sz) (fun u : mS => mB cI cC cZ ma u)) (va_A (mB cI cC cZ ma w) sz)) 0 0 (va_A (mB cI cC cZ ma w) sz) := by
  obtain ⟨th, si, le, pl, fd9, gr, bk, kp, pe, fg, fs, fb, fx, fo, fl, fn, fe, ft, fq, fr, fm⟩ := w
  obtain ⟨⟨hg, hs, hb9⟩, hl9, ⟨hsi, hx9⟩, hle, ho9⟩ := hU
  have hg : mD fg g.C := hg
  have hs : rI 6 fs g.S := hs
  have hb9 : rI 6 fb g.B := hb9
  have hl9 : dR fl lim := hl9
  have hsi : si = nI g.L.length := hsi
  have hx9 : oR fx g.L := hx9
  have hle : le = nI g.O.length := hle
  have ho9 : oR fo g.O := ho9
  subst hsi
  subst hle
  by_cases c : g.O.length ≤ 40
  · skip
    have e : sReuse g = (1, g.txt g.O) := by unfold sReuse; rw [if_pos c]
    rw [e]
    have h := c_reuse l D cI cL cC cB cZ cR sz ma.m9 ma.ad ma.as9 ma.ab ma.at9 ma.ao ma.al ma.an ma.ae ma.ap9 ma.aq ma.ar ma.am th (nI g.L.length) pl fd9 gr bk kp pe g.O fx fo ho9 (Nat.le_trans hG.2.2.2.2.1 (by decide)) hG.2.2.2.2.2
    refine x_fmi [0, 4, 5] rfl (by decide) ⟨Nat.le_of_ble_eq_true rfl, Nat.le_of_ble_eq_true rfl, Nat.le_of_ble_eq_true rfl, Nat.le_of_ble_eq_true rfl⟩ (Nat.le_refl _) (Nat.le_refl _) h (fun y u hp => ⟨(nI 0, u.1, nI g.O.length, pl, fd9, gr, bk, kp, pe, fg, fs, fb, u.2, fo, fl, fn, fe, ft, fq, fr, fm), ?_, fmO_c ⟨rfl, Or.inl (List.mem_of_getElem? (i := 0) rfl)⟩ (fmO_c ⟨rfl, Or.inr ⟨by decide, rfl⟩⟩ (fmO_c ⟨rfl, Or.inr ⟨by decide, rfl⟩⟩ (fmO_c ⟨rfl, Or.inr ⟨by decide, rfl⟩⟩ (fmO_c ⟨rfl, Or.inl (List.mem_of_getElem? (i := 1) rfl)⟩ (fmO_c ⟨rfl, Or.inl (List.mem_of_getElem? (i := 2) rfl)⟩ (fmO_c ⟨rfl, Or.inr ⟨by decide, rfl⟩⟩ (fmO_c ⟨rfl, Or.inr ⟨by decide, rfl⟩⟩ (fmO_c ⟨rfl, Or.inr ⟨by decide, rfl⟩⟩ (fmO_c ⟨rfl, Or.inr ⟨by decide, rfl⟩⟩ (fmO_c ⟨rfl, Or.inr ⟨by decide, rfl⟩⟩ (fmO_c ⟨rfl, Or.inr ⟨by decide, rfl⟩⟩ (fmO_c ⟨rfl, Or.inr ⟨by decide, rfl⟩⟩ (fmO_n)))))))))))))⟩)
    have hp := (hp.resolve_right (fun q => absurd c (Nat.not_le.mpr q.1))).2
    exact ⟨hp.1, ⟨hg, hs, hb9⟩, hl9, hp.2, rfl, ho9⟩
  · skip
    have e : sReuse g = (0, g) := by unfold sReuse; rw [if_neg c]
    rw [e]
    have h := c_reuse l D cI cL cC cB cZ cR sz ma.m9 ma.ad ma.as9 ma.ab ma.at9 ma.ao ma.al ma.an ma.ae ma.ap9 ma.aq ma.ar ma.am th (nI g.L.length) pl fd9 gr bk kp pe g.O fx fo ho9 (Nat.le_trans hG.2.2.2.2.1 (by decide)) hG.2.2.2.2.2
    refine x_fmi [0, 4, 5] rfl (by decide) ⟨Nat.le_of_ble_eq_true rfl, Nat.le_of_ble_eq_true rfl, Nat.le_of_ble_eq_true rfl, Nat.le_of_ble_eq_true rfl⟩ (Nat.le_refl _) (Nat.le_refl _) h (fun y u hp => ⟨(nI 0, u.1, nI g.O.length, pl, fd9, gr, bk, kp, pe, fg, fs, fb, u.2, fo, fl, fn, fe, ft, fq, fr, fm), ?_, fmO_c ⟨rfl, Or.inl (List.mem_of_getElem? (i := 0) rfl)⟩ (fmO_c ⟨rfl, Or.inr ⟨by decide, rfl⟩⟩ (fmO_c ⟨rfl, Or.inr ⟨by decide, rfl⟩⟩ (fmO_c ⟨rfl, Or.inr ⟨by decide, rfl⟩⟩ (fmO_c ⟨rfl, Or.inl (List.mem_of_getElem? (i := 1) rfl)⟩ (fmO_c ⟨rfl, Or.inl (List.mem_of_getElem? (i := 2) rfl)⟩ (fmO_c ⟨rfl, Or.inr ⟨by decide, rfl⟩⟩ (fmO_c ⟨rfl, Or.inr ⟨by decide, rfl⟩⟩ (fmO_c ⟨rfl, Or.inr ⟨by decide, rfl⟩⟩ (fmO_c ⟨rfl, Or.inr ⟨by decide, rfl⟩⟩ (fmO_c ⟨rfl, Or.inr ⟨by decide, rfl⟩⟩ (fmO_c ⟨rfl, Or.inr ⟨by decide, rfl⟩⟩ (fmO_c ⟨rfl, Or.inr ⟨by decide, rfl⟩⟩ (fmO_n)))))))))))))⟩)
    have hp := (hp.resolve_left (fun q => c q.1)).2
    exact ⟨hp.1, ⟨hg, hs, hb9⟩, hl9, ⟨hp.2.1, by show oR u.2 _; rw [hp.2.2]; exact hx9⟩, rfl, ho9⟩
