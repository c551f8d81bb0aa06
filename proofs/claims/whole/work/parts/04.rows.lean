section XR
variable {p : Program} {l : Launch} {e : Env} {R : Room} {s : State} {m : MethodId} {args : Array Value} {below : List Frame} {meth : Method} {c : Code} {H : Heap} {locs : List Loc} {cells slots : Nat} {Q : State → Prop}
variable {cc : ByteArray} {pc : Nat} {ls : Array Slot} {rest : List Value} {D : va_G} {cl : List vw_C} {A : Nat → Prop} {a : Nat} {tys : List (ClassId × FieldType)} {ws : va_W} {H0 : Heap}
/-- another name for the number on top -/
theorem x_i {x y : Int32} (h : x = y) (k : W p l e R s m args below meth c H locs cells slots Q (F0 m pc ls (.int y :: rest))) : W p l e R s m args below meth c H locs cells slots Q (F0 m pc ls (.int x :: rest)) := by rw [h]; exact k
theorem x_l {x y : Int64} (h : x = y) (k : W p l e R s m args below meth c H locs cells slots Q (F0 m pc ls (.long y :: rest))) : W p l e R s m args below meth c H locs cells slots Q (F0 m pc ls (.long x :: rest)) := by rw [h]; exact k
theorem x_iald (hexec : p.tables.exec = Jvm.exec) (hb : c.code = cc) (hK : va_K D cl tys s) (hP : va_P D cl ws H) (q0 t0 : Nat) {cA : ClassId} {n : Nat} {f : Nat → Int32} (ha : ws[q0]? = some (a, .inl (cA, n, .inl f))) (ht : tys[t0]? = some (cA, .int)) {i : Nat} {v : Int32} (hi : i < n) (hn : n < 2 ^ 31) (hv : f i = v) (hdg : decode cc pc = .ok (.iaload, 1))
    (kk : W p l e R s m args below meth c H locs cells slots Q (F0 m (pc + 1) ls (.int v :: rest))) : W p l e R s m args below meth c H locs cells slots Q (F0 m pc ls (.int (nI i) :: .ref a :: rest)) := by
  refine va_iald hexec hb hK hP q0 t0 ha ht (vp_in_nI hi hn) hdg ?_
  rw [nI_clamp (Nat.lt_trans hi hn), hv]; exact kk
theorem x_cald (hexec : p.tables.exec = Jvm.exec) (hb : c.code = cc) (hK : va_K D cl tys s) (hP : va_P D cl ws H) (q0 t0 : Nat) {cA : ClassId} {n : Nat} {f : Nat → Int32} (ha : ws[q0]? = some (a, .inl (cA, n, .inl f))) (ht : tys[t0]? = some (cA, .char)) {i : Nat} {v : Int32} (hi : i < n) (hn : n < 2 ^ 31) (hv : f i = v) (hdg : decode cc pc = .ok (.caload, 1))
    (kk : W p l e R s m args below meth c H locs cells slots Q (F0 m (pc + 1) ls (.int v :: rest))) : W p l e R s m args below meth c H locs cells slots Q (F0 m pc ls (.int (nI i) :: .ref a :: rest)) := by
  refine va_cald hexec hb hK hP q0 t0 ha ht (vp_in_nI hi hn) hdg ?_
  rw [nI_clamp (Nat.lt_trans hi hn), hv]; exact kk
theorem x_bald (hexec : p.tables.exec = Jvm.exec) (hb : c.code = cc) (hK : va_K D cl tys s) (hP : va_P D cl ws H) (q0 t0 : Nat) {cA : ClassId} {n : Nat} {f : Nat → Int32} (ha : ws[q0]? = some (a, .inl (cA, n, .inl f))) (ht : tys[t0]? = some (cA, .byte)) {i : Nat} {v : Int32} (hi : i < n) (hn : n < 2 ^ 31) (hv : f i = v) (hdg : decode cc pc = .ok (.baload, 1))
    (kk : W p l e R s m args below meth c H locs cells slots Q (F0 m (pc + 1) ls (.int v :: rest))) : W p l e R s m args below meth c H locs cells slots Q (F0 m pc ls (.int (nI i) :: .ref a :: rest)) := by
  refine va_bald hexec hb hK hP q0 t0 ha ht (vp_in_nI hi hn) hdg ?_
  rw [nI_clamp (Nat.lt_trans hi hn), hv]; exact kk
theorem x_zald (hexec : p.tables.exec = Jvm.exec) (hb : c.code = cc) (hK : va_K D cl tys s) (hP : va_P D cl ws H) (q0 t0 : Nat) {cA : ClassId} {n : Nat} {f : Nat → Int32} (ha : ws[q0]? = some (a, .inl (cA, n, .inl f))) (ht : tys[t0]? = some (cA, .boolean)) {i : Nat} {v : Int32} (hi : i < n) (hn : n < 2 ^ 31) (hv : f i = v) (hdg : decode cc pc = .ok (.baload, 1))
    (kk : W p l e R s m args below meth c H locs cells slots Q (F0 m (pc + 1) ls (.int v :: rest))) : W p l e R s m args below meth c H locs cells slots Q (F0 m pc ls (.int (nI i) :: .ref a :: rest)) := by
  refine va_zald hexec hb hK hP q0 t0 ha ht (vp_in_nI hi hn) hdg ?_
  rw [nI_clamp (Nat.lt_trans hi hn), hv]; exact kk
theorem x_lald (hexec : p.tables.exec = Jvm.exec) (hb : c.code = cc) (hK : va_K D cl tys s) (hP : va_P D cl ws H) (q0 t0 : Nat) {cA : ClassId} {n : Nat} {f : Nat → Int64} (ha : ws[q0]? = some (a, .inl (cA, n, .inr (.inl f)))) (ht : tys[t0]? = some (cA, .long)) {i : Nat} {v : Int64} (hi : i < n) (hn : n < 2 ^ 31) (hv : f i = v) (hdg : decode cc pc = .ok (.laload, 1))
    (kk : W p l e R s m args below meth c H locs cells slots Q (F0 m (pc + 1) ls (.long v :: rest))) : W p l e R s m args below meth c H locs cells slots Q (F0 m pc ls (.int (nI i) :: .ref a :: rest)) := by
  refine va_lald hexec hb hK hP q0 t0 ha ht (vp_in_nI hi hn) hdg ?_
  rw [nI_clamp (Nat.lt_trans hi hn), hv]; exact kk
theorem x_iast (hexec : p.tables.exec = Jvm.exec) (hb : c.code = cc) (hK : va_K D cl tys s) (hP : va_P D cl ws H) (hD : va_D A ws) (hS : va_S A H0 H locs) (q0 t0 : Nat) {cA : ClassId} {n : Nat} {f : Nat → Int32} (ha : ws[q0]? = some (a, .inl (cA, n, .inl f))) (ht : tys[t0]? = some (cA, .int)) {i : Nat} {x : Int32} (hi : i < n) (hn : n < 2 ^ 31)  (hdg : decode cc pc = .ok (.iastore, 1))
    (kk : ∀ (H1 : Heap) (locs1 : List Loc), va_P D cl (ws.set q0 (a, .inl (cA, n, .inl (upd f i x)))) H1 → va_D A (ws.set q0 (a, .inl (cA, n, .inl (upd f i x)))) → va_S A H0 H1 locs1 → W p l e R s m args below meth c H1 locs1 cells slots Q (F0 m (pc + 1) ls rest)) : W p l e R s m args below meth c H locs cells slots Q (F0 m pc ls (.int x :: .int (nI i) :: .ref a :: rest)) := by
  refine va_iast hexec hb hK hP hD hS q0 t0 ha ht (vp_in_nI hi hn) hdg ?_
  rw [nI_clamp (Nat.lt_trans hi hn)]; exact kk
theorem x_cast (hexec : p.tables.exec = Jvm.exec) (hb : c.code = cc) (hK : va_K D cl tys s) (hP : va_P D cl ws H) (hD : va_D A ws) (hS : va_S A H0 H locs) (q0 t0 : Nat) {cA : ClassId} {n : Nat} {f : Nat → Int32} (ha : ws[q0]? = some (a, .inl (cA, n, .inl f))) (ht : tys[t0]? = some (cA, .char)) {i : Nat} {x : Int32} (hi : i < n) (hn : n < 2 ^ 31) (hx : vp_nar .char x = x) (hdg : decode cc pc = .ok (.castore, 1))
    (kk : ∀ (H1 : Heap) (locs1 : List Loc), va_P D cl (ws.set q0 (a, .inl (cA, n, .inl (upd f i x)))) H1 → va_D A (ws.set q0 (a, .inl (cA, n, .inl (upd f i x)))) → va_S A H0 H1 locs1 → W p l e R s m args below meth c H1 locs1 cells slots Q (F0 m (pc + 1) ls rest)) : W p l e R s m args below meth c H locs cells slots Q (F0 m pc ls (.int x :: .int (nI i) :: .ref a :: rest)) := by
  refine va_cast hexec hb hK hP hD hS q0 t0 ha ht (vp_in_nI hi hn) hdg ?_
  rw [nI_clamp (Nat.lt_trans hi hn), hx]; exact kk
theorem x_bast (hexec : p.tables.exec = Jvm.exec) (hb : c.code = cc) (hK : va_K D cl tys s) (hP : va_P D cl ws H) (hD : va_D A ws) (hS : va_S A H0 H locs) (q0 t0 : Nat) {cA : ClassId} {n : Nat} {f : Nat → Int32} (ha : ws[q0]? = some (a, .inl (cA, n, .inl f))) (ht : tys[t0]? = some (cA, .byte)) {i : Nat} {x : Int32} (hi : i < n) (hn : n < 2 ^ 31) (hx : vp_nar .byte x = x) (hdg : decode cc pc = .ok (.bastore, 1))
    (kk : ∀ (H1 : Heap) (locs1 : List Loc), va_P D cl (ws.set q0 (a, .inl (cA, n, .inl (upd f i x)))) H1 → va_D A (ws.set q0 (a, .inl (cA, n, .inl (upd f i x)))) → va_S A H0 H1 locs1 → W p l e R s m args below meth c H1 locs1 cells slots Q (F0 m (pc + 1) ls rest)) : W p l e R s m args below meth c H locs cells slots Q (F0 m pc ls (.int x :: .int (nI i) :: .ref a :: rest)) := by
  refine va_bast hexec hb hK hP hD hS q0 t0 ha ht (vp_in_nI hi hn) hdg ?_
  rw [nI_clamp (Nat.lt_trans hi hn), hx]; exact kk
theorem x_zast (hexec : p.tables.exec = Jvm.exec) (hb : c.code = cc) (hK : va_K D cl tys s) (hP : va_P D cl ws H) (hD : va_D A ws) (hS : va_S A H0 H locs) (q0 t0 : Nat) {cA : ClassId} {n : Nat} {f : Nat → Int32} (ha : ws[q0]? = some (a, .inl (cA, n, .inl f))) (ht : tys[t0]? = some (cA, .boolean)) {i : Nat} {x : Int32} (hi : i < n) (hn : n < 2 ^ 31) (hx : vp_nar .boolean x = x) (hdg : decode cc pc = .ok (.bastore, 1))
    (kk : ∀ (H1 : Heap) (locs1 : List Loc), va_P D cl (ws.set q0 (a, .inl (cA, n, .inl (upd f i x)))) H1 → va_D A (ws.set q0 (a, .inl (cA, n, .inl (upd f i x)))) → va_S A H0 H1 locs1 → W p l e R s m args below meth c H1 locs1 cells slots Q (F0 m (pc + 1) ls rest)) : W p l e R s m args below meth c H locs cells slots Q (F0 m pc ls (.int x :: .int (nI i) :: .ref a :: rest)) := by
  refine va_zast hexec hb hK hP hD hS q0 t0 ha ht (vp_in_nI hi hn) hdg ?_
  rw [nI_clamp (Nat.lt_trans hi hn), hx]; exact kk
theorem x_last (hexec : p.tables.exec = Jvm.exec) (hb : c.code = cc) (hK : va_K D cl tys s) (hP : va_P D cl ws H) (hD : va_D A ws) (hS : va_S A H0 H locs) (q0 t0 : Nat) {cA : ClassId} {n : Nat} {f : Nat → Int64} (ha : ws[q0]? = some (a, .inl (cA, n, .inr (.inl f)))) (ht : tys[t0]? = some (cA, .long)) {i : Nat} {x : Int64} (hi : i < n) (hn : n < 2 ^ 31)  (hdg : decode cc pc = .ok (.lastore, 1))
    (kk : ∀ (H1 : Heap) (locs1 : List Loc), va_P D cl (ws.set q0 (a, .inl (cA, n, .inr (.inl (vp_updL f i x))))) H1 → va_D A (ws.set q0 (a, .inl (cA, n, .inr (.inl (vp_updL f i x))))) → va_S A H0 H1 locs1 → W p l e R s m args below meth c H1 locs1 cells slots Q (F0 m (pc + 1) ls rest)) : W p l e R s m args below meth c H locs cells slots Q (F0 m pc ls (.long x :: .int (nI i) :: .ref a :: rest)) := by
  refine va_last hexec hb hK hP hD hS q0 t0 ha ht (vp_in_nI hi hn) hdg ?_
  rw [nI_clamp (Nat.lt_trans hi hn)]; exact kk
theorem x_icmp_eq (hexec : p.tables.exec = Jvm.exec) (hb : c.code = cc) {x y : Nat} {off : Int} {tgt : Nat} (hx : x < 2 ^ 31) (hy : y < 2 ^ 31) (hdg : decode cc pc = .ok (.if_icmp .eq off, 3)) (ht : (pc : Int) + off = (tgt : Int))
    (kt : x = y → W p l e R s m args below meth c H locs cells slots Q (F0 m tgt ls rest)) (kf : x ≠ y → W p l e R s m args below meth c H locs cells slots Q (F0 m (pc + 3) ls rest)) : W p l e R s m args below meth c H locs cells slots Q (F0 m pc ls (.int (nI y) :: .int (nI x) :: rest)) := by
  have h := nI_eq hx hy
  exact lv_icmp_eq hexec hb hdg ht (fun q => kt (h.mp q)) (fun q => kf (fun z => q (h.mpr z)))
theorem x_icmp_ne (hexec : p.tables.exec = Jvm.exec) (hb : c.code = cc) {x y : Nat} {off : Int} {tgt : Nat} (hx : x < 2 ^ 31) (hy : y < 2 ^ 31) (hdg : decode cc pc = .ok (.if_icmp .ne off, 3)) (ht : (pc : Int) + off = (tgt : Int))
    (kt : x ≠ y → W p l e R s m args below meth c H locs cells slots Q (F0 m tgt ls rest)) (kf : x = y → W p l e R s m args below meth c H locs cells slots Q (F0 m (pc + 3) ls rest)) : W p l e R s m args below meth c H locs cells slots Q (F0 m pc ls (.int (nI y) :: .int (nI x) :: rest)) := by
  have h := nI_eq hx hy
  exact lv_icmp_ne hexec hb hdg ht (fun q => kt (fun z => q (h.mpr z))) (fun q => kf (h.mp q))
theorem x_icmp_lt (hexec : p.tables.exec = Jvm.exec) (hb : c.code = cc) {x y : Nat} {off : Int} {tgt : Nat} (hx : x < 2 ^ 31) (hy : y < 2 ^ 31) (hdg : decode cc pc = .ok (.if_icmp .lt off, 3)) (ht : (pc : Int) + off = (tgt : Int))
    (kt : x < y → W p l e R s m args below meth c H locs cells slots Q (F0 m tgt ls rest)) (kf : y ≤ x → W p l e R s m args below meth c H locs cells slots Q (F0 m (pc + 3) ls rest)) : W p l e R s m args below meth c H locs cells slots Q (F0 m pc ls (.int (nI y) :: .int (nI x) :: rest)) := by
  have h := nI_ltI hx hy
  exact lv_icmp_lt hexec hb hdg ht (fun q => kt (h.mp q)) (fun q => kf (Nat.le_of_not_lt (fun z => q (h.mpr z))))
theorem x_icmp_ge (hexec : p.tables.exec = Jvm.exec) (hb : c.code = cc) {x y : Nat} {off : Int} {tgt : Nat} (hx : x < 2 ^ 31) (hy : y < 2 ^ 31) (hdg : decode cc pc = .ok (.if_icmp .ge off, 3)) (ht : (pc : Int) + off = (tgt : Int))
    (kt : y ≤ x → W p l e R s m args below meth c H locs cells slots Q (F0 m tgt ls rest)) (kf : x < y → W p l e R s m args below meth c H locs cells slots Q (F0 m (pc + 3) ls rest)) : W p l e R s m args below meth c H locs cells slots Q (F0 m pc ls (.int (nI y) :: .int (nI x) :: rest)) := by
  have h := nI_leI hy hx
  exact lv_icmp_ge hexec hb hdg ht (fun q => kt (h.mp q)) (fun q => kf (Nat.lt_of_not_le (fun z => q (h.mpr z))))
theorem x_icmp_gt (hexec : p.tables.exec = Jvm.exec) (hb : c.code = cc) {x y : Nat} {off : Int} {tgt : Nat} (hx : x < 2 ^ 31) (hy : y < 2 ^ 31) (hdg : decode cc pc = .ok (.if_icmp .gt off, 3)) (ht : (pc : Int) + off = (tgt : Int))
    (kt : y < x → W p l e R s m args below meth c H locs cells slots Q (F0 m tgt ls rest)) (kf : x ≤ y → W p l e R s m args below meth c H locs cells slots Q (F0 m (pc + 3) ls rest)) : W p l e R s m args below meth c H locs cells slots Q (F0 m pc ls (.int (nI y) :: .int (nI x) :: rest)) := by
  have h := nI_ltI hy hx
  exact lv_icmp_gt hexec hb hdg ht (fun q => kt (h.mp q)) (fun q => kf (Nat.le_of_not_lt (fun z => q (h.mpr z))))
theorem x_icmp_le (hexec : p.tables.exec = Jvm.exec) (hb : c.code = cc) {x y : Nat} {off : Int} {tgt : Nat} (hx : x < 2 ^ 31) (hy : y < 2 ^ 31) (hdg : decode cc pc = .ok (.if_icmp .le off, 3)) (ht : (pc : Int) + off = (tgt : Int))
    (kt : x ≤ y → W p l e R s m args below meth c H locs cells slots Q (F0 m tgt ls rest)) (kf : y < x → W p l e R s m args below meth c H locs cells slots Q (F0 m (pc + 3) ls rest)) : W p l e R s m args below meth c H locs cells slots Q (F0 m pc ls (.int (nI y) :: .int (nI x) :: rest)) := by
  have h := nI_leI hx hy
  exact lv_icmp_le hexec hb hdg ht (fun q => kt (h.mp q)) (fun q => kf (Nat.lt_of_not_le (fun z => q (h.mpr z))))
theorem x_if_eq (hexec : p.tables.exec = Jvm.exec) (hb : c.code = cc) {x : Nat} {off : Int} {tgt : Nat} (hx : x < 2 ^ 31) (hdg : decode cc pc = .ok (.ifCond .eq off, 3)) (ht : (pc : Int) + off = (tgt : Int))
    (kt : x = 0 → W p l e R s m args below meth c H locs cells slots Q (F0 m tgt ls rest)) (kf : x ≠ 0 → W p l e R s m args below meth c H locs cells slots Q (F0 m (pc + 3) ls rest)) : W p l e R s m args below meth c H locs cells slots Q (F0 m pc ls (.int (nI x) :: rest)) := by
  have h : nI x = 0 ↔ x = 0 := by rw [← nI_0]; exact nI_eq hx (by decide)
  exact lv_if_eq hexec hb hdg ht (fun q => kt (h.mp q)) (fun q => kf (fun z => q (h.mpr z)))
theorem x_if_ne (hexec : p.tables.exec = Jvm.exec) (hb : c.code = cc) {x : Nat} {off : Int} {tgt : Nat} (hx : x < 2 ^ 31) (hdg : decode cc pc = .ok (.ifCond .ne off, 3)) (ht : (pc : Int) + off = (tgt : Int))
    (kt : x ≠ 0 → W p l e R s m args below meth c H locs cells slots Q (F0 m tgt ls rest)) (kf : x = 0 → W p l e R s m args below meth c H locs cells slots Q (F0 m (pc + 3) ls rest)) : W p l e R s m args below meth c H locs cells slots Q (F0 m pc ls (.int (nI x) :: rest)) := by
  have h : nI x = 0 ↔ x = 0 := by rw [← nI_0]; exact nI_eq hx (by decide)
  exact lv_if_ne hexec hb hdg ht (fun q => kt (fun z => q (h.mpr z))) (fun q => kf (h.mp q))
theorem x_if_gt (hexec : p.tables.exec = Jvm.exec) (hb : c.code = cc) {x : Nat} {off : Int} {tgt : Nat} (hx : x < 2 ^ 31) (hdg : decode cc pc = .ok (.ifCond .gt off, 3)) (ht : (pc : Int) + off = (tgt : Int))
    (kt : 0 < x → W p l e R s m args below meth c H locs cells slots Q (F0 m tgt ls rest)) (kf : x = 0 → W p l e R s m args below meth c H locs cells slots Q (F0 m (pc + 3) ls rest)) : W p l e R s m args below meth c H locs cells slots Q (F0 m pc ls (.int (nI x) :: rest)) := by
  have h : 0 < nI x ↔ 0 < x := by rw [← nI_0]; exact nI_ltI (by decide) hx
  exact lv_if_gt hexec hb hdg ht (fun q => kt (h.mp q)) (fun q => kf (Nat.eq_zero_of_not_pos (fun z => q (h.mpr z))))
theorem x_if_le (hexec : p.tables.exec = Jvm.exec) (hb : c.code = cc) {x : Nat} {off : Int} {tgt : Nat} (hx : x < 2 ^ 31) (hdg : decode cc pc = .ok (.ifCond .le off, 3)) (ht : (pc : Int) + off = (tgt : Int))
    (kt : x = 0 → W p l e R s m args below meth c H locs cells slots Q (F0 m tgt ls rest)) (kf : 0 < x → W p l e R s m args below meth c H locs cells slots Q (F0 m (pc + 3) ls rest)) : W p l e R s m args below meth c H locs cells slots Q (F0 m pc ls (.int (nI x) :: rest)) := by
  have h : nI x ≤ 0 ↔ x ≤ 0 := by rw [← nI_0]; exact nI_leI hx (by decide)
  exact lv_if_le hexec hb hdg ht (fun q => kt (Nat.le_zero.mp (h.mp q))) (fun q => kf (Nat.pos_of_ne_zero (fun z => q (h.mpr (Nat.le_of_eq z)))))
theorem x_if_ge (hexec : p.tables.exec = Jvm.exec) (hb : c.code = cc) {x : Nat} {off : Int} {tgt : Nat} (hx : x < 2 ^ 31) (hdg : decode cc pc = .ok (.ifCond .ge off, 3)) (ht : (pc : Int) + off = (tgt : Int)) (kt : W p l e R s m args below meth c H locs cells slots Q (F0 m tgt ls rest)) : W p l e R s m args below meth c H locs cells slots Q (F0 m pc ls (.int (nI x) :: rest)) :=
  lv_if_ge hexec hb hdg ht (fun _ => kt) (fun q => absurd (nI_pos' hx) q)
theorem x_if_lt (hexec : p.tables.exec = Jvm.exec) (hb : c.code = cc) {x : Nat} {off : Int} {tgt : Nat} (hx : x < 2 ^ 31) (hdg : decode cc pc = .ok (.ifCond .lt off, 3)) (ht : (pc : Int) + off = (tgt : Int)) (kf : W p l e R s m args below meth c H locs cells slots Q (F0 m (pc + 3) ls rest)) : W p l e R s m args below meth c H locs cells slots Q (F0 m pc ls (.int (nI x) :: rest)) :=
  lv_if_lt hexec hb hdg ht (fun q => absurd q (nI_pos hx)) (fun _ => kf)
end XR
theorem x_inc (a : Nat) : nI a + Int32.ofInt 1 = nI (a + 1) := by
  have h : Int32.ofInt 1 = 1 := by decide +kernel
  rw [h]; exact nI_1 a
theorem x_dec (a : Nat) : nI (a + 1) + Int32.ofInt (-1) = nI a := by
  have h : Int32.ofInt (-1) = -1 := by decide +kernel
  rw [h]; exact pk_m1 a
theorem x_decp {a : Nat} (h0 : 0 < a) : nI a + Int32.ofInt (-1) = nI (a - 1) := by
  obtain ⟨b, rfl⟩ : ∃ b, a = b + 1 := ⟨a - 1, by omega⟩
  rw [x_dec]; rfl
/-! our contract: cells wi at the start, wo u at the end; all tables alike -/
def xPc (D : va_G) (cl : List vw_C) (tys : List (ClassId × FieldType)) (av : List Value) (wi : va_W) (sz : Nat) : Array Value → State → Prop := va_Pc av (fun U => U.heap.size = sz ∧ va_P D cl wi U.heap ∧ va_K D cl tys U ∧ va_D (fun _ => True) wi ∧ xN U)
def xB {S : Type} (D : va_G) (cl : List vw_C) (tys : List (ClassId × FieldType)) (A : Nat → Prop) (wo : S → va_W) : S → State → Prop := fun u t => va_P D cl (wo u) t.heap ∧ va_K D cl tys t ∧ va_D A (wo u)
theorem x_blind {D : va_G} {cl : List vw_C} {tys : List (ClassId × FieldType)} {av : List Value} {wi : va_W} {sz : Nat} : FrameBlind (xPc D cl tys av wi sz) := fun a U g mk q => by
  obtain ⟨q0, q1, qP, qK, qD, qN⟩ := q
  exact ⟨q0, q1, qP, va_K.moved (u := U) (U := U.calling g mk a) (Vm.Alike.refl U.vm) qK, qD, xN_same (u := U) (U := U.calling g mk a) rfl qN⟩
theorem x_at {is : List Nat} {ws w : va_W} (h : is.map (fun i => ws[i]?) = w.map some) (k : Nat) (q : Nat × va_E) (hq : w[k]? = some q) : ∃ i, is[k]? = some i ∧ ws[i]? = some q := by
  have h1 : (is.map (fun i => ws[i]?))[k]? = some (some q) := by rw [h, List.getElem?_map, hq]; rfl
  rw [List.getElem?_map] at h1
  cases hi : is[k]? with
  | none => rw [hi] at h1; cases h1
  | some i => rw [hi] at h1; exact ⟨i, rfl, Option.some.inj h1⟩
theorem x_Psub {D : va_G} {cl : List vw_C} {is : List Nat} {ws w : va_W} {H : Heap} (hP : va_P D cl ws H) (h : is.map (fun i => ws[i]?) = w.map some) : va_P D cl w H := fun k q hq => by
  obtain ⟨i, -, h2⟩ := x_at h k q hq
  exact hP i q h2
section XC
variable {p : Program} {l : Launch} {e : Env} {R : Room} {s : State} {m : MethodId} {args : Array Value} {below : List Frame} {meth : Method} {c : Code} {H : Heap} {locs : List Loc} {cells slots : Nat} {Q : State → Prop}
variable {pc : Nat} {ls : Array Slot} {rest st0 : List Value} {D : va_G} {cl : List vw_C} {A : Nat → Prop} {tys : List (ClassId × FieldType)} {ws wi wr : va_W} {H0 : Heap} {mc ms : Nat} {a : Array Value}
theorem x_preS {As : List Value} {isC : List Nat} (hN : xN s) (hK : va_K D cl tys s) (hP : va_P D cl ws H) (hD : va_D A ws) (hC : isC.map (fun i => ws[i]?) = wi.map some) (hnc : va_nd isC = true) : PreS s H (xPc D cl tys As wi H.size) As :=
  ⟨x_blind, fun U hU hW => ⟨rfl, by rw [hU], by rw [hU]; exact x_Psub hP hC, va_K.moved hW.alike hK, (hD.sub isC hnc hC).weaken (fun _ _ _ _ => trivial), xN_warm hW hN⟩⟩
theorem x_preV {As : List Value} {isC : List Nat} {b q0 ci : Nat} {r : vw_C} {C : String} {fs : List Value} (hN : xN s) (hK : va_K D cl tys s) (hP : va_P D cl ws H) (hD : va_D A ws) (hC : isC.map (fun i => ws[i]?) = wi.map some) (hnc : va_nd isC = true) (hc : cl[ci]? = some r) (hr : r.1 = C) (he : ws[q0]? = some (b, .inr (ci, fs))) : PreV s H C b (xPc D cl tys (.ref b :: As) wi H.size) As :=
  ⟨x_blind, by rw [← hr]; exact va_recv hK hP hc he, fun U hU hW => ⟨rfl, by rw [hU], by rw [hU]; exact x_Psub hP hC, va_K.moved hW.alike hK, (hD.sub isC hnc hC).weaken (fun _ _ _ _ => trivial), xN_warm hW hN⟩⟩
theorem x_jv {S : Type} {post : S → Prop} {wo : S → va_W} (hr : va_Run p l e R s m args below meth c H locs cells slots mc ms (F0 m pc ls st0) rest (va_Qv post (xB D cl tys (va_A wi H.size) wo) (va_A wi H.size) a) (va_A wi H.size)) (hP : va_P D cl ws H) (hD : va_D A ws) (hS : va_S A H0 H locs) (hA : ∀ q, H0.size ≤ q → A q) (isC isR : List Nat) (hC : isC.map (fun i => ws[i]?) = wi.map some) (hR : isR.map (fun i => ws[i]?) = wr.map some) (hn : va_nd isR = true) (hdis : ∀ i ∈ isR, i ∉ isC) (kk : ∀ (u : S) (H1 : Heap) (locs1 : List Loc), post u → va_P D cl (wr ++ wo u) H1 → va_D A (wr ++ wo u) → va_S A H0 H1 locs1 → W p l e R s m args below meth c H1 locs1 (cells + mc) (slots + ms) Q (F0 m (pc + 3) ls (rest))) : W p l e R s m args below meth c H locs cells slots Q (F0 m pc ls st0) := by
  have hFc := va_free (wc := wi) hD hS hA isC hC
  refine va_callv hr hS (fun q _ h => hFc q h) hFc (fun u t H1 locs1 ht hvm hp hB hz1 hk1 hS1 => ?_)
  obtain ⟨hP1, hK1, hD1⟩ := hB
  rw [ht] at hP1
  obtain ⟨hP2, hD2⟩ := va_join hP hD isC isR hC hR hn hdis hk1 hFc hP1 hD1
  exact kk u H1 locs1 hp hP2 hD2 hS1
theorem x_ji {S : Type} {post : Int32 → S → Prop} {wo : S → va_W} (hr : va_Run p l e R s m args below meth c H locs cells slots mc ms (F0 m pc ls st0) rest (va_Qi post (xB D cl tys (va_A wi H.size) wo) (va_A wi H.size) a) (va_A wi H.size)) (hP : va_P D cl ws H) (hD : va_D A ws) (hS : va_S A H0 H locs) (hA : ∀ q, H0.size ≤ q → A q) (isC isR : List Nat) (hC : isC.map (fun i => ws[i]?) = wi.map some) (hR : isR.map (fun i => ws[i]?) = wr.map some) (hn : va_nd isR = true) (hdis : ∀ i ∈ isR, i ∉ isC) (kk : ∀ (r : Int32) (u : S) (H1 : Heap) (locs1 : List Loc), post r u → va_P D cl (wr ++ wo u) H1 → va_D A (wr ++ wo u) → va_S A H0 H1 locs1 → W p l e R s m args below meth c H1 locs1 (cells + mc) (slots + ms) Q (F0 m (pc + 3) ls (.int r :: rest))) : W p l e R s m args below meth c H locs cells slots Q (F0 m pc ls st0) := by
  have hFc := va_free (wc := wi) hD hS hA isC hC
  refine va_calli hr hS (fun q _ h => hFc q h) hFc (fun r u t H1 locs1 ht hvm hp hB hz1 hk1 hS1 => ?_)
  obtain ⟨hP1, hK1, hD1⟩ := hB
  rw [ht] at hP1
  obtain ⟨hP2, hD2⟩ := va_join hP hD isC isR hC hR hn hdis hk1 hFc hP1 hD1
  exact kk r u H1 locs1 hp hP2 hD2 hS1
theorem x_jl {S : Type} {post : Int64 → S → Prop} {wo : S → va_W} (hr : va_Run p l e R s m args below meth c H locs cells slots mc ms (F0 m pc ls st0) rest (va_Ql post (xB D cl tys (va_A wi H.size) wo) (va_A wi H.size) a) (va_A wi H.size)) (hP : va_P D cl ws H) (hD : va_D A ws) (hS : va_S A H0 H locs) (hA : ∀ q, H0.size ≤ q → A q) (isC isR : List Nat) (hC : isC.map (fun i => ws[i]?) = wi.map some) (hR : isR.map (fun i => ws[i]?) = wr.map some) (hn : va_nd isR = true) (hdis : ∀ i ∈ isR, i ∉ isC) (kk : ∀ (r : Int64) (u : S) (H1 : Heap) (locs1 : List Loc), post r u → va_P D cl (wr ++ wo u) H1 → va_D A (wr ++ wo u) → va_S A H0 H1 locs1 → W p l e R s m args below meth c H1 locs1 (cells + mc) (slots + ms) Q (F0 m (pc + 3) ls (.long r :: rest))) : W p l e R s m args below meth c H locs cells slots Q (F0 m pc ls st0) := by
  have hFc := va_free (wc := wi) hD hS hA isC hC
  refine va_calll hr hS (fun q _ h => hFc q h) hFc (fun r u t H1 locs1 ht hvm hp hB hz1 hk1 hS1 => ?_)
  obtain ⟨hP1, hK1, hD1⟩ := hB
  rw [ht] at hP1
  obtain ⟨hP2, hD2⟩ := va_join hP hD isC isR hC hR hn hdis hk1 hFc hP1 hD1
  exact kk r u H1 locs1 hp hP2 hD2 hS1
theorem x_Sv {y : MethodName} {bytes cc : ByteArray} {maxL nL n index : Nat} {ret : Option FieldType} {wsy Ts : List Cond} {rm : Room} {own : String} {As : List Value} {S : Type} {post : S → Prop} {wo : S → va_W} (S0 : CallFix p m c cc nL s args Ts own) (hM : Met l y wsy rm (xPc D cl tys As wi H.size) (va_Qv post (xB D cl tys (va_A wi H.size) wo) (va_A wi H.size)) mc ms (va_A wi H.size)) (cw : CallB R s args own index y bytes maxL ret wsy rm mc ms n ∧ (Cond.static y).before args s = true) (hn0 : As.length = n) (hsize : ls.size = nL) (hst : st0 = As.reverse ++ rest) (hW : (rest.map fun v => v.category).sum ≤ 8) (hdg : decode cc pc = .ok (.invokestatic index, 3)) (hf : cells + mc ≤ R.cells ∧ slots + ms ≤ R.slots) (hN : xN s) (hK : va_K D cl tys s) (hP : va_P D cl ws H) (hD : va_D A ws) (hS : va_S A H0 H locs) (hA : ∀ q, H0.size ≤ q → A q) (isC isR : List Nat) (hC : isC.map (fun i => ws[i]?) = wi.map some) (hR : isR.map (fun i => ws[i]?) = wr.map some) (hn : va_nd isR = true) (hdis : ∀ i ∈ isR, i ∉ isC) (hnc : va_nd isC = true) (kk : ∀ (u : S) (H1 : Heap) (locs1 : List Loc), post u → va_P D cl (wr ++ wo u) H1 → va_D A (wr ++ wo u) → va_S A H0 H1 locs1 → W p l e R s m args below meth c H1 locs1 (cells + mc) (slots + ms) Q (F0 m (pc + 3) ls (rest))) : W p l e R s m args below meth c H locs cells slots Q (F0 m pc ls st0) :=
  x_jv (va_runS (g := F0 m pc ls st0) S0 hM cw (x_preS hN hK hP hD hC hnc) rfl hn0 hsize hst (lv_room hW) hdg hf) hP hD hS hA isC isR hC hR hn hdis kk
theorem x_SNv {y : MethodName} {bytes cc : ByteArray} {maxL nL n index : Nat} {ret : Option FieldType} {wsy Ts : List Cond} {rm : Room} {own : String} {As : List Value} {host : String} {S : Type} {post : S → Prop} {wo : S → va_W} (S0 : CallFix p m c cc nL s args Ts own) (hM : Met l y wsy rm (xPc D cl tys As wi H.size) (va_Qv post (xB D cl tys (va_A wi H.size) wo) (va_A wi H.size)) mc ms (va_A wi H.size)) (cw : va_CN R s args own index y host bytes maxL ret wsy rm mc ms n ∧ (Cond.static y).before args s = true ∧ True) (hn0 : As.length = n) (hsize : ls.size = nL) (hst : st0 = As.reverse ++ rest) (hW : (rest.map fun v => v.category).sum ≤ 8) (hdg : decode cc pc = .ok (.invokestatic index, 3)) (hf : cells + mc ≤ R.cells ∧ slots + ms ≤ R.slots) (hN : xN s) (hK : va_K D cl tys s) (hP : va_P D cl ws H) (hD : va_D A ws) (hS : va_S A H0 H locs) (hA : ∀ q, H0.size ≤ q → A q) (isC isR : List Nat) (hC : isC.map (fun i => ws[i]?) = wi.map some) (hR : isR.map (fun i => ws[i]?) = wr.map some) (hn : va_nd isR = true) (hdis : ∀ i ∈ isR, i ∉ isC) (hnc : va_nd isC = true) (kk : ∀ (u : S) (H1 : Heap) (locs1 : List Loc), post u → va_P D cl (wr ++ wo u) H1 → va_D A (wr ++ wo u) → va_S A H0 H1 locs1 → W p l e R s m args below meth c H1 locs1 (cells + mc) (slots + ms) Q (F0 m (pc + 3) ls (rest))) : W p l e R s m args below meth c H locs cells slots Q (F0 m pc ls st0) :=
  x_jv (va_runSN (g := F0 m pc ls st0) S0 hM cw (x_preS hN hK hP hD hC hnc) rfl hn0 hsize hst (lv_room hW) hdg hf) hP hD hS hA isC isR hC hR hn hdis kk
theorem x_Vv {y : MethodName} {bytes cc : ByteArray} {maxL nL n index : Nat} {ret : Option FieldType} {wsy Ts : List Cond} {rm : Room} {own : String} {As : List Value} {b : Nat} {C : String} {S : Type} {post : S → Prop} {wo : S → va_W} (S0 : CallFix p m c cc nL s args Ts own) (hM : Met l y wsy rm (xPc D cl tys (.ref b :: As) wi H.size) (va_Qv post (xB D cl tys (va_A wi H.size) wo) (va_A wi H.size)) mc ms (va_A wi H.size)) (cw : CallW R s args own C index y bytes maxL ret wsy rm mc ms n) {q0 ci : Nat} {rc : vw_C} {fs : List Value} (hc : cl[ci]? = some rc) (hrc : rc.1 = C) (he : ws[q0]? = some (b, .inr (ci, fs))) (hn0 : As.length = n) (hsize : ls.size = nL) (hst : st0 = As.reverse ++ .ref b :: rest) (hW : (rest.map fun v => v.category).sum ≤ 8) (hdg : decode cc pc = .ok (.invokevirtual index, 3)) (hf : cells + mc ≤ R.cells ∧ slots + ms ≤ R.slots) (hN : xN s) (hK : va_K D cl tys s) (hP : va_P D cl ws H) (hD : va_D A ws) (hS : va_S A H0 H locs) (hA : ∀ q, H0.size ≤ q → A q) (isC isR : List Nat) (hC : isC.map (fun i => ws[i]?) = wi.map some) (hR : isR.map (fun i => ws[i]?) = wr.map some) (hn : va_nd isR = true) (hdis : ∀ i ∈ isR, i ∉ isC) (hnc : va_nd isC = true) (kk : ∀ (u : S) (H1 : Heap) (locs1 : List Loc), post u → va_P D cl (wr ++ wo u) H1 → va_D A (wr ++ wo u) → va_S A H0 H1 locs1 → W p l e R s m args below meth c H1 locs1 (cells + mc) (slots + ms) Q (F0 m (pc + 3) ls (rest))) : W p l e R s m args below meth c H locs cells slots Q (F0 m pc ls st0) :=
  x_jv (va_runV (g := F0 m pc ls st0) S0 hM cw (x_preV hN hK hP hD hC hnc hc hrc he) rfl hn0 hsize hst (lv_room hW) hdg hf) hP hD hS hA isC isR hC hR hn hdis kk
theorem x_VNv {y : MethodName} {bytes cc : ByteArray} {maxL nL n index : Nat} {ret : Option FieldType} {wsy Ts : List Cond} {rm : Room} {own : String} {As : List Value} {b : Nat} {C : String} {host : String} {S : Type} {post : S → Prop} {wo : S → va_W} (S0 : CallFix p m c cc nL s args Ts own) (hM : Met l y wsy rm (xPc D cl tys (.ref b :: As) wi H.size) (va_Qv post (xB D cl tys (va_A wi H.size) wo) (va_A wi H.size)) mc ms (va_A wi H.size)) (cw : va_CN R s args own index y host bytes maxL ret wsy rm mc ms n ∧ (Cond.instanceMethod y).before args s = true ∧ (Cond.selects C y y).before args s = true) {q0 ci : Nat} {rc : vw_C} {fs : List Value} (hc : cl[ci]? = some rc) (hrc : rc.1 = C) (he : ws[q0]? = some (b, .inr (ci, fs))) (hn0 : As.length = n) (hsize : ls.size = nL) (hst : st0 = As.reverse ++ .ref b :: rest) (hW : (rest.map fun v => v.category).sum ≤ 8) (hdg : decode cc pc = .ok (.invokevirtual index, 3)) (hf : cells + mc ≤ R.cells ∧ slots + ms ≤ R.slots) (hN : xN s) (hK : va_K D cl tys s) (hP : va_P D cl ws H) (hD : va_D A ws) (hS : va_S A H0 H locs) (hA : ∀ q, H0.size ≤ q → A q) (isC isR : List Nat) (hC : isC.map (fun i => ws[i]?) = wi.map some) (hR : isR.map (fun i => ws[i]?) = wr.map some) (hn : va_nd isR = true) (hdis : ∀ i ∈ isR, i ∉ isC) (hnc : va_nd isC = true) (kk : ∀ (u : S) (H1 : Heap) (locs1 : List Loc), post u → va_P D cl (wr ++ wo u) H1 → va_D A (wr ++ wo u) → va_S A H0 H1 locs1 → W p l e R s m args below meth c H1 locs1 (cells + mc) (slots + ms) Q (F0 m (pc + 3) ls (rest))) : W p l e R s m args below meth c H locs cells slots Q (F0 m pc ls st0) :=
  x_jv (va_runVN (g := F0 m pc ls st0) S0 hM cw (x_preV hN hK hP hD hC hnc hc hrc he) rfl hn0 hsize hst (lv_room hW) hdg hf) hP hD hS hA isC isR hC hR hn hdis kk
theorem x_Iv {y : MethodName} {bytes cc : ByteArray} {maxL nL n index : Nat} {ret : Option FieldType} {wsy Ts : List Cond} {rm : Room} {own : String} {As : List Value} {b : Nat} {S : Type} {post : S → Prop} {wo : S → va_W} (S0 : CallFix p m c cc nL s args Ts own) (hM : Met l y wsy rm (xPc D cl tys (.ref b :: As) wi H.size) (va_Qv post (xB D cl tys (va_A wi H.size) wo) (va_A wi H.size)) mc ms (va_A wi H.size)) (cw : CallB R s args own index y bytes maxL none wsy rm mc ms n ∧ y.name = "<init>" ∧ (Cond.instanceMethod y).before args s = true) (hn0 : As.length = n) (hsize : ls.size = nL) (hst : st0 = As.reverse ++ .ref b :: rest) (hW : (rest.map fun v => v.category).sum ≤ 8) (hdg : decode cc pc = .ok (.invokespecial index, 3)) (hf : cells + mc ≤ R.cells ∧ slots + ms ≤ R.slots) (hN : xN s) (hK : va_K D cl tys s) (hP : va_P D cl ws H) (hD : va_D A ws) (hS : va_S A H0 H locs) (hA : ∀ q, H0.size ≤ q → A q) (isC isR : List Nat) (hC : isC.map (fun i => ws[i]?) = wi.map some) (hR : isR.map (fun i => ws[i]?) = wr.map some) (hn : va_nd isR = true) (hdis : ∀ i ∈ isR, i ∉ isC) (hnc : va_nd isC = true) (kk : ∀ (u : S) (H1 : Heap) (locs1 : List Loc), post u → va_P D cl (wr ++ wo u) H1 → va_D A (wr ++ wo u) → va_S A H0 H1 locs1 → W p l e R s m args below meth c H1 locs1 (cells + mc) (slots + ms) Q (F0 m (pc + 3) ls (rest))) : W p l e R s m args below meth c H locs cells slots Q (F0 m pc ls st0) :=
  x_jv (va_runI (g := F0 m pc ls st0) S0 hM cw (x_preS hN hK hP hD hC hnc) rfl hn0 hsize hst (lv_room hW) hdg hf) hP hD hS hA isC isR hC hR hn hdis kk
theorem x_INv {y : MethodName} {bytes cc : ByteArray} {maxL nL n index : Nat} {ret : Option FieldType} {wsy Ts : List Cond} {rm : Room} {own : String} {As : List Value} {b : Nat} {host : String} {S : Type} {post : S → Prop} {wo : S → va_W} (S0 : CallFix p m c cc nL s args Ts own) (hM : Met l y wsy rm (xPc D cl tys (.ref b :: As) wi H.size) (va_Qv post (xB D cl tys (va_A wi H.size) wo) (va_A wi H.size)) mc ms (va_A wi H.size)) (cw : va_CN R s args own index y host bytes maxL none wsy rm mc ms n ∧ y.name = "<init>" ∧ (Cond.instanceMethod y).before args s = true) (hn0 : As.length = n) (hsize : ls.size = nL) (hst : st0 = As.reverse ++ .ref b :: rest) (hW : (rest.map fun v => v.category).sum ≤ 8) (hdg : decode cc pc = .ok (.invokespecial index, 3)) (hf : cells + mc ≤ R.cells ∧ slots + ms ≤ R.slots) (hN : xN s) (hK : va_K D cl tys s) (hP : va_P D cl ws H) (hD : va_D A ws) (hS : va_S A H0 H locs) (hA : ∀ q, H0.size ≤ q → A q) (isC isR : List Nat) (hC : isC.map (fun i => ws[i]?) = wi.map some) (hR : isR.map (fun i => ws[i]?) = wr.map some) (hn : va_nd isR = true) (hdis : ∀ i ∈ isR, i ∉ isC) (hnc : va_nd isC = true) (kk : ∀ (u : S) (H1 : Heap) (locs1 : List Loc), post u → va_P D cl (wr ++ wo u) H1 → va_D A (wr ++ wo u) → va_S A H0 H1 locs1 → W p l e R s m args below meth c H1 locs1 (cells + mc) (slots + ms) Q (F0 m (pc + 3) ls (rest))) : W p l e R s m args below meth c H locs cells slots Q (F0 m pc ls st0) :=
  x_jv (va_runIN (g := F0 m pc ls st0) S0 hM cw (x_preS hN hK hP hD hC hnc) rfl hn0 hsize hst (lv_room hW) hdg hf) hP hD hS hA isC isR hC hR hn hdis kk
theorem x_Si {y : MethodName} {bytes cc : ByteArray} {maxL nL n index : Nat} {ret : Option FieldType} {wsy Ts : List Cond} {rm : Room} {own : String} {As : List Value} {S : Type} {post : Int32 → S → Prop} {wo : S → va_W} (S0 : CallFix p m c cc nL s args Ts own) (hM : Met l y wsy rm (xPc D cl tys As wi H.size) (va_Qi post (xB D cl tys (va_A wi H.size) wo) (va_A wi H.size)) mc ms (va_A wi H.size)) (cw : CallB R s args own index y bytes maxL ret wsy rm mc ms n ∧ (Cond.static y).before args s = true) (hn0 : As.length = n) (hsize : ls.size = nL) (hst : st0 = As.reverse ++ rest) (hW : (rest.map fun v => v.category).sum ≤ 8) (hdg : decode cc pc = .ok (.invokestatic index, 3)) (hf : cells + mc ≤ R.cells ∧ slots + ms ≤ R.slots) (hN : xN s) (hK : va_K D cl tys s) (hP : va_P D cl ws H) (hD : va_D A ws) (hS : va_S A H0 H locs) (hA : ∀ q, H0.size ≤ q → A q) (isC isR : List Nat) (hC : isC.map (fun i => ws[i]?) = wi.map some) (hR : isR.map (fun i => ws[i]?) = wr.map some) (hn : va_nd isR = true) (hdis : ∀ i ∈ isR, i ∉ isC) (hnc : va_nd isC = true) (kk : ∀ (r : Int32) (u : S) (H1 : Heap) (locs1 : List Loc), post r u → va_P D cl (wr ++ wo u) H1 → va_D A (wr ++ wo u) → va_S A H0 H1 locs1 → W p l e R s m args below meth c H1 locs1 (cells + mc) (slots + ms) Q (F0 m (pc + 3) ls (.int r :: rest))) : W p l e R s m args below meth c H locs cells slots Q (F0 m pc ls st0) :=
  x_ji (va_runS (g := F0 m pc ls st0) S0 hM cw (x_preS hN hK hP hD hC hnc) rfl hn0 hsize hst (lv_room hW) hdg hf) hP hD hS hA isC isR hC hR hn hdis kk
theorem x_SNi {y : MethodName} {bytes cc : ByteArray} {maxL nL n index : Nat} {ret : Option FieldType} {wsy Ts : List Cond} {rm : Room} {own : String} {As : List Value} {host : String} {S : Type} {post : Int32 → S → Prop} {wo : S → va_W} (S0 : CallFix p m c cc nL s args Ts own) (hM : Met l y wsy rm (xPc D cl tys As wi H.size) (va_Qi post (xB D cl tys (va_A wi H.size) wo) (va_A wi H.size)) mc ms (va_A wi H.size)) (cw : va_CN R s args own index y host bytes maxL ret wsy rm mc ms n ∧ (Cond.static y).before args s = true ∧ True) (hn0 : As.length = n) (hsize : ls.size = nL) (hst : st0 = As.reverse ++ rest) (hW : (rest.map fun v => v.category).sum ≤ 8) (hdg : decode cc pc = .ok (.invokestatic index, 3)) (hf : cells + mc ≤ R.cells ∧ slots + ms ≤ R.slots) (hN : xN s) (hK : va_K D cl tys s) (hP : va_P D cl ws H) (hD : va_D A ws) (hS : va_S A H0 H locs) (hA : ∀ q, H0.size ≤ q → A q) (isC isR : List Nat) (hC : isC.map (fun i => ws[i]?) = wi.map some) (hR : isR.map (fun i => ws[i]?) = wr.map some) (hn : va_nd isR = true) (hdis : ∀ i ∈ isR, i ∉ isC) (hnc : va_nd isC = true) (kk : ∀ (r : Int32) (u : S) (H1 : Heap) (locs1 : List Loc), post r u → va_P D cl (wr ++ wo u) H1 → va_D A (wr ++ wo u) → va_S A H0 H1 locs1 → W p l e R s m args below meth c H1 locs1 (cells + mc) (slots + ms) Q (F0 m (pc + 3) ls (.int r :: rest))) : W p l e R s m args below meth c H locs cells slots Q (F0 m pc ls st0) :=
  x_ji (va_runSN (g := F0 m pc ls st0) S0 hM cw (x_preS hN hK hP hD hC hnc) rfl hn0 hsize hst (lv_room hW) hdg hf) hP hD hS hA isC isR hC hR hn hdis kk
theorem x_Vi {y : MethodName} {bytes cc : ByteArray} {maxL nL n index : Nat} {ret : Option FieldType} {wsy Ts : List Cond} {rm : Room} {own : String} {As : List Value} {b : Nat} {C : String} {S : Type} {post : Int32 → S → Prop} {wo : S → va_W} (S0 : CallFix p m c cc nL s args Ts own) (hM : Met l y wsy rm (xPc D cl tys (.ref b :: As) wi H.size) (va_Qi post (xB D cl tys (va_A wi H.size) wo) (va_A wi H.size)) mc ms (va_A wi H.size)) (cw : CallW R s args own C index y bytes maxL ret wsy rm mc ms n) {q0 ci : Nat} {rc : vw_C} {fs : List Value} (hc : cl[ci]? = some rc) (hrc : rc.1 = C) (he : ws[q0]? = some (b, .inr (ci, fs))) (hn0 : As.length = n) (hsize : ls.size = nL) (hst : st0 = As.reverse ++ .ref b :: rest) (hW : (rest.map fun v => v.category).sum ≤ 8) (hdg : decode cc pc = .ok (.invokevirtual index, 3)) (hf : cells + mc ≤ R.cells ∧ slots + ms ≤ R.slots) (hN : xN s) (hK : va_K D cl tys s) (hP : va_P D cl ws H) (hD : va_D A ws) (hS : va_S A H0 H locs) (hA : ∀ q, H0.size ≤ q → A q) (isC isR : List Nat) (hC : isC.map (fun i => ws[i]?) = wi.map some) (hR : isR.map (fun i => ws[i]?) = wr.map some) (hn : va_nd isR = true) (hdis : ∀ i ∈ isR, i ∉ isC) (hnc : va_nd isC = true) (kk : ∀ (r : Int32) (u : S) (H1 : Heap) (locs1 : List Loc), post r u → va_P D cl (wr ++ wo u) H1 → va_D A (wr ++ wo u) → va_S A H0 H1 locs1 → W p l e R s m args below meth c H1 locs1 (cells + mc) (slots + ms) Q (F0 m (pc + 3) ls (.int r :: rest))) : W p l e R s m args below meth c H locs cells slots Q (F0 m pc ls st0) :=
  x_ji (va_runV (g := F0 m pc ls st0) S0 hM cw (x_preV hN hK hP hD hC hnc hc hrc he) rfl hn0 hsize hst (lv_room hW) hdg hf) hP hD hS hA isC isR hC hR hn hdis kk
theorem x_VNi {y : MethodName} {bytes cc : ByteArray} {maxL nL n index : Nat} {ret : Option FieldType} {wsy Ts : List Cond} {rm : Room} {own : String} {As : List Value} {b : Nat} {C : String} {host : String} {S : Type} {post : Int32 → S → Prop} {wo : S → va_W} (S0 : CallFix p m c cc nL s args Ts own) (hM : Met l y wsy rm (xPc D cl tys (.ref b :: As) wi H.size) (va_Qi post (xB D cl tys (va_A wi H.size) wo) (va_A wi H.size)) mc ms (va_A wi H.size)) (cw : va_CN R s args own index y host bytes maxL ret wsy rm mc ms n ∧ (Cond.instanceMethod y).before args s = true ∧ (Cond.selects C y y).before args s = true) {q0 ci : Nat} {rc : vw_C} {fs : List Value} (hc : cl[ci]? = some rc) (hrc : rc.1 = C) (he : ws[q0]? = some (b, .inr (ci, fs))) (hn0 : As.length = n) (hsize : ls.size = nL) (hst : st0 = As.reverse ++ .ref b :: rest) (hW : (rest.map fun v => v.category).sum ≤ 8) (hdg : decode cc pc = .ok (.invokevirtual index, 3)) (hf : cells + mc ≤ R.cells ∧ slots + ms ≤ R.slots) (hN : xN s) (hK : va_K D cl tys s) (hP : va_P D cl ws H) (hD : va_D A ws) (hS : va_S A H0 H locs) (hA : ∀ q, H0.size ≤ q → A q) (isC isR : List Nat) (hC : isC.map (fun i => ws[i]?) = wi.map some) (hR : isR.map (fun i => ws[i]?) = wr.map some) (hn : va_nd isR = true) (hdis : ∀ i ∈ isR, i ∉ isC) (hnc : va_nd isC = true) (kk : ∀ (r : Int32) (u : S) (H1 : Heap) (locs1 : List Loc), post r u → va_P D cl (wr ++ wo u) H1 → va_D A (wr ++ wo u) → va_S A H0 H1 locs1 → W p l e R s m args below meth c H1 locs1 (cells + mc) (slots + ms) Q (F0 m (pc + 3) ls (.int r :: rest))) : W p l e R s m args below meth c H locs cells slots Q (F0 m pc ls st0) :=
  x_ji (va_runVN (g := F0 m pc ls st0) S0 hM cw (x_preV hN hK hP hD hC hnc hc hrc he) rfl hn0 hsize hst (lv_room hW) hdg hf) hP hD hS hA isC isR hC hR hn hdis kk
theorem x_Sl {y : MethodName} {bytes cc : ByteArray} {maxL nL n index : Nat} {ret : Option FieldType} {wsy Ts : List Cond} {rm : Room} {own : String} {As : List Value} {S : Type} {post : Int64 → S → Prop} {wo : S → va_W} (S0 : CallFix p m c cc nL s args Ts own) (hM : Met l y wsy rm (xPc D cl tys As wi H.size) (va_Ql post (xB D cl tys (va_A wi H.size) wo) (va_A wi H.size)) mc ms (va_A wi H.size)) (cw : CallB R s args own index y bytes maxL ret wsy rm mc ms n ∧ (Cond.static y).before args s = true) (hn0 : As.length = n) (hsize : ls.size = nL) (hst : st0 = As.reverse ++ rest) (hW : (rest.map fun v => v.category).sum ≤ 8) (hdg : decode cc pc = .ok (.invokestatic index, 3)) (hf : cells + mc ≤ R.cells ∧ slots + ms ≤ R.slots) (hN : xN s) (hK : va_K D cl tys s) (hP : va_P D cl ws H) (hD : va_D A ws) (hS : va_S A H0 H locs) (hA : ∀ q, H0.size ≤ q → A q) (isC isR : List Nat) (hC : isC.map (fun i => ws[i]?) = wi.map some) (hR : isR.map (fun i => ws[i]?) = wr.map some) (hn : va_nd isR = true) (hdis : ∀ i ∈ isR, i ∉ isC) (hnc : va_nd isC = true) (kk : ∀ (r : Int64) (u : S) (H1 : Heap) (locs1 : List Loc), post r u → va_P D cl (wr ++ wo u) H1 → va_D A (wr ++ wo u) → va_S A H0 H1 locs1 → W p l e R s m args below meth c H1 locs1 (cells + mc) (slots + ms) Q (F0 m (pc + 3) ls (.long r :: rest))) : W p l e R s m args below meth c H locs cells slots Q (F0 m pc ls st0) :=
  x_jl (va_runS (g := F0 m pc ls st0) S0 hM cw (x_preS hN hK hP hD hC hnc) rfl hn0 hsize hst (lv_room hW) hdg hf) hP hD hS hA isC isR hC hR hn hdis kk
theorem x_SNl {y : MethodName} {bytes cc : ByteArray} {maxL nL n index : Nat} {ret : Option FieldType} {wsy Ts : List Cond} {rm : Room} {own : String} {As : List Value} {host : String} {S : Type} {post : Int64 → S → Prop} {wo : S → va_W} (S0 : CallFix p m c cc nL s args Ts own) (hM : Met l y wsy rm (xPc D cl tys As wi H.size) (va_Ql post (xB D cl tys (va_A wi H.size) wo) (va_A wi H.size)) mc ms (va_A wi H.size)) (cw : va_CN R s args own index y host bytes maxL ret wsy rm mc ms n ∧ (Cond.static y).before args s = true ∧ True) (hn0 : As.length = n) (hsize : ls.size = nL) (hst : st0 = As.reverse ++ rest) (hW : (rest.map fun v => v.category).sum ≤ 8) (hdg : decode cc pc = .ok (.invokestatic index, 3)) (hf : cells + mc ≤ R.cells ∧ slots + ms ≤ R.slots) (hN : xN s) (hK : va_K D cl tys s) (hP : va_P D cl ws H) (hD : va_D A ws) (hS : va_S A H0 H locs) (hA : ∀ q, H0.size ≤ q → A q) (isC isR : List Nat) (hC : isC.map (fun i => ws[i]?) = wi.map some) (hR : isR.map (fun i => ws[i]?) = wr.map some) (hn : va_nd isR = true) (hdis : ∀ i ∈ isR, i ∉ isC) (hnc : va_nd isC = true) (kk : ∀ (r : Int64) (u : S) (H1 : Heap) (locs1 : List Loc), post r u → va_P D cl (wr ++ wo u) H1 → va_D A (wr ++ wo u) → va_S A H0 H1 locs1 → W p l e R s m args below meth c H1 locs1 (cells + mc) (slots + ms) Q (F0 m (pc + 3) ls (.long r :: rest))) : W p l e R s m args below meth c H locs cells slots Q (F0 m pc ls st0) :=
  x_jl (va_runSN (g := F0 m pc ls st0) S0 hM cw (x_preS hN hK hP hD hC hnc) rfl hn0 hsize hst (lv_room hW) hdg hf) hP hD hS hA isC isR hC hR hn hdis kk
theorem x_Vl {y : MethodName} {bytes cc : ByteArray} {maxL nL n index : Nat} {ret : Option FieldType} {wsy Ts : List Cond} {rm : Room} {own : String} {As : List Value} {b : Nat} {C : String} {S : Type} {post : Int64 → S → Prop} {wo : S → va_W} (S0 : CallFix p m c cc nL s args Ts own) (hM : Met l y wsy rm (xPc D cl tys (.ref b :: As) wi H.size) (va_Ql post (xB D cl tys (va_A wi H.size) wo) (va_A wi H.size)) mc ms (va_A wi H.size)) (cw : CallW R s args own C index y bytes maxL ret wsy rm mc ms n) {q0 ci : Nat} {rc : vw_C} {fs : List Value} (hc : cl[ci]? = some rc) (hrc : rc.1 = C) (he : ws[q0]? = some (b, .inr (ci, fs))) (hn0 : As.length = n) (hsize : ls.size = nL) (hst : st0 = As.reverse ++ .ref b :: rest) (hW : (rest.map fun v => v.category).sum ≤ 8) (hdg : decode cc pc = .ok (.invokevirtual index, 3)) (hf : cells + mc ≤ R.cells ∧ slots + ms ≤ R.slots) (hN : xN s) (hK : va_K D cl tys s) (hP : va_P D cl ws H) (hD : va_D A ws) (hS : va_S A H0 H locs) (hA : ∀ q, H0.size ≤ q → A q) (isC isR : List Nat) (hC : isC.map (fun i => ws[i]?) = wi.map some) (hR : isR.map (fun i => ws[i]?) = wr.map some) (hn : va_nd isR = true) (hdis : ∀ i ∈ isR, i ∉ isC) (hnc : va_nd isC = true) (kk : ∀ (r : Int64) (u : S) (H1 : Heap) (locs1 : List Loc), post r u → va_P D cl (wr ++ wo u) H1 → va_D A (wr ++ wo u) → va_S A H0 H1 locs1 → W p l e R s m args below meth c H1 locs1 (cells + mc) (slots + ms) Q (F0 m (pc + 3) ls (.long r :: rest))) : W p l e R s m args below meth c H locs cells slots Q (F0 m pc ls st0) :=
  x_jl (va_runV (g := F0 m pc ls st0) S0 hM cw (x_preV hN hK hP hD hC hnc hc hrc he) rfl hn0 hsize hst (lv_room hW) hdg hf) hP hD hS hA isC isR hC hR hn hdis kk
theorem x_VNl {y : MethodName} {bytes cc : ByteArray} {maxL nL n index : Nat} {ret : Option FieldType} {wsy Ts : List Cond} {rm : Room} {own : String} {As : List Value} {b : Nat} {C : String} {host : String} {S : Type} {post : Int64 → S → Prop} {wo : S → va_W} (S0 : CallFix p m c cc nL s args Ts own) (hM : Met l y wsy rm (xPc D cl tys (.ref b :: As) wi H.size) (va_Ql post (xB D cl tys (va_A wi H.size) wo) (va_A wi H.size)) mc ms (va_A wi H.size)) (cw : va_CN R s args own index y host bytes maxL ret wsy rm mc ms n ∧ (Cond.instanceMethod y).before args s = true ∧ (Cond.selects C y y).before args s = true) {q0 ci : Nat} {rc : vw_C} {fs : List Value} (hc : cl[ci]? = some rc) (hrc : rc.1 = C) (he : ws[q0]? = some (b, .inr (ci, fs))) (hn0 : As.length = n) (hsize : ls.size = nL) (hst : st0 = As.reverse ++ .ref b :: rest) (hW : (rest.map fun v => v.category).sum ≤ 8) (hdg : decode cc pc = .ok (.invokevirtual index, 3)) (hf : cells + mc ≤ R.cells ∧ slots + ms ≤ R.slots) (hN : xN s) (hK : va_K D cl tys s) (hP : va_P D cl ws H) (hD : va_D A ws) (hS : va_S A H0 H locs) (hA : ∀ q, H0.size ≤ q → A q) (isC isR : List Nat) (hC : isC.map (fun i => ws[i]?) = wi.map some) (hR : isR.map (fun i => ws[i]?) = wr.map some) (hn : va_nd isR = true) (hdis : ∀ i ∈ isR, i ∉ isC) (hnc : va_nd isC = true) (kk : ∀ (r : Int64) (u : S) (H1 : Heap) (locs1 : List Loc), post r u → va_P D cl (wr ++ wo u) H1 → va_D A (wr ++ wo u) → va_S A H0 H1 locs1 → W p l e R s m args below meth c H1 locs1 (cells + mc) (slots + ms) Q (F0 m (pc + 3) ls (.long r :: rest))) : W p l e R s m args below meth c H locs cells slots Q (F0 m pc ls st0) :=
  x_jl (va_runVN (g := F0 m pc ls st0) S0 hM cw (x_preV hN hK hP hD hC hnc hc hrc he) rfl hn0 hsize hst (lv_room hW) hdg hf) hP hD hS hA isC isR hC hR hn hdis kk
/-- a method's contract from the walk of its body -/
theorem x_of {y : MethodName} {wsy ws' : List Cond} {rm : Room} {cc : ByteArray} {maxL : Nat} {ret : Option FieldType} {av : List Value} {sz : Nat} {Qc : (Nat → Prop) → Array Value → State → Outcome → State → Prop}
    (hy : plainName y.cls = true) (hw : wsy = Cond.code y cc maxL ret :: ws') (hsl : (lg_sl av).length ≤ maxL)
    (body : ∀ (p : Program) (e : Env) (s : State) (m : MethodId) (args : Array Value) (below : List Frame) (meth : Method) (c : Code) (A : Nat → Prop) (H : Heap) (locs : List Loc) (ls : Array Slot), p.tables.exec = Jvm.exec → c.code = cc → meth.sig.returnType = ret → (∀ w ∈ wsy, w.before args s = true) → s.vm.findClass y.cls = some m.cls → meth.locks = false → c.maxLocals = maxL → meth.name = y.name →
      va_P D cl wi H → va_K D cl tys s → va_D A wi → xN s → (∀ q, s.heap.size ≤ q → A q) → va_S A s.heap H locs → lv_has ls maxL (lv_args 0 av) → W p l e rm s m args below meth c H locs 0 0 (MQ below (Qc A) args s mc ms A) (F0 m 0 ls [])) :
    Met l y wsy rm (xPc D cl tys av wi sz) (Qc (va_A wi sz)) mc ms (va_A wi sz) := by
  refine Met.ofW (cc := cc) (maxL := maxL) (ret := ret) hy hw ?_
  intro p e s m args below meth c s₁ B hml hv
  obtain ⟨rfl, hsz, hP, hK, hD0, hN⟩ := hv
  subst hsz
  rw [lg_entry_eq]
  exact body p e s m av.toArray below meth c (va_A wi s.heap.size) s.heap [] _ B.exec B.bytes B.returns (atoms_spec (ws := wsy) B.pre) (findClass_of_methodNamed B.named) B.notSynchronized hml (name_of_methodNamed B.named B.method).1 hP hK (hD0.self (sz := s.heap.size)) hN (fun q h => Or.inr h) va_S.rf (lv_entry av hsl)
section XE
variable {S : Type} {wo : S → va_W} {cc : ByteArray}
theorem x_retv {post : S → Prop} (hexec : p.tables.exec = Jvm.exec) (hb : c.code = cc) (hr : meth.sig.returnType = none) (hlocks : meth.locks = false) (u : S) (hp : post u) (hP : va_P D cl (wo u) H) (hK : va_K D cl tys s) (hD : va_D A (wo u)) (hS : va_S A s.heap H locs) (hdg : decode cc pc = .ok (.return_, 1)) : W p l e R s m args below meth c H locs cells slots (MQ below (va_Qv post (xB D cl tys A wo) A) args s cells slots A) (F0 m pc ls []) :=
  W.vret hexec hb hr (fun t ht hW => ⟨⟨u, rfl, hp, by rw [ht]; exact hP, va_K.moved hW.alike hK, hD⟩, hS.F ht⟩) hS.2.2 hdg hlocks
theorem x_reti {post : Int32 → S → Prop} {v : Int32} (hexec : p.tables.exec = Jvm.exec) (hb : c.code = cc) (hr : meth.sig.returnType = some .int) (hlocks : meth.locks = false) (u : S) (hp : post v u) (hP : va_P D cl (wo u) H) (hK : va_K D cl tys s) (hD : va_D A (wo u)) (hS : va_S A s.heap H locs) (hdg : decode cc pc = .ok (.ireturn, 1)) : W p l e R s m args below meth c H locs cells slots (MQ below (va_Qi post (xB D cl tys A wo) A) args s cells slots A) (F0 m pc ls [.int v]) :=
  W.iret hexec hb hr (fun t ht hW => ⟨⟨v, u, rfl, hp, by rw [ht]; exact hP, va_K.moved hW.alike hK, hD⟩, hS.F ht⟩) hS.2.2 hdg hlocks
theorem x_retz {post : Int32 → S → Prop} {v : Int32} {ty : FieldType} (hn : narrow ty (.int v) = .int v) (hexec : p.tables.exec = Jvm.exec) (hb : c.code = cc) (hr : meth.sig.returnType = some ty) (hlocks : meth.locks = false) (u : S) (hp : post v u) (hP : va_P D cl (wo u) H) (hK : va_K D cl tys s) (hD : va_D A (wo u)) (hS : va_S A s.heap H locs) (hdg : decode cc pc = .ok (.ireturn, 1)) : W p l e R s m args below meth c H locs cells slots (MQ below (va_Qi post (xB D cl tys A wo) A) args s cells slots A) (F0 m pc ls [.int v]) :=
  W.zret hexec hb hr hn (fun t ht hW => ⟨⟨v, u, rfl, hp, by rw [ht]; exact hP, va_K.moved hW.alike hK, hD⟩, hS.F ht⟩) hS.2.2 hdg hlocks
theorem x_retl {post : Int64 → S → Prop} {v : Int64} (hexec : p.tables.exec = Jvm.exec) (hb : c.code = cc) (hr : meth.sig.returnType = some .long) (hlocks : meth.locks = false) (u : S) (hp : post v u) (hP : va_P D cl (wo u) H) (hK : va_K D cl tys s) (hD : va_D A (wo u)) (hS : va_S A s.heap H locs) (hdg : decode cc pc = .ok (.lreturn, 1)) : W p l e R s m args below meth c H locs cells slots (MQ below (va_Ql post (xB D cl tys A wo) A) args s cells slots A) (F0 m pc ls [.long v]) :=
  W.lret hexec hb hr (fun t ht hW => ⟨⟨v, u, rfl, hp, by rw [ht]; exact hP, va_K.moved hW.alike hK, hD⟩, hS.F ht⟩) hS.2.2 hdg hlocks
end XE
end XC
/-! rows of numbers: what an array of ints or longs holds, read as natural numbers -/
def rI (n : Nat) (f : Nat → Int32) (g : Nat → Nat) : Prop := ∀ j, j < n → f j = nI (g j)
def rL (n : Nat) (f : Nat → Int64) (g : Nat → Nat) : Prop := ∀ j, j < n → f j = lN (g j)
/-- below i the numbers g, from i on the numbers h -/
def mx (g h : Nat → Nat) (i : Nat) : Nat → Nat := fun j => if j < i then g j else h j
theorem mx_lt {g h : Nat → Nat} {i j : Nat} (hj : j < i) : mx g h i j = g j := if_pos hj
theorem mx_ge {g h : Nat → Nat} {i j : Nat} (hj : i ≤ j) : mx g h i j = h j := if_neg (Nat.not_lt.mpr hj)
theorem rI_up {n i : Nat} {f : Nat → Int32} {g h : Nat → Nat} {x : Int32} (H : rI n f (mx g h i)) (hx : x = nI (g i)) : rI n (upd f i x) (mx g h (i + 1)) := fun j hj => by
  by_cases e : j = i
  · subst e; rw [pk_us, mx_lt (Nat.lt_succ_self j), hx]
  · rw [pk_un e, H j hj]
    by_cases h1 : j < i
    · rw [mx_lt h1, mx_lt (by omega)]
    · rw [mx_ge (by omega), mx_ge (by omega)]
theorem rI_dn {n i : Nat} {f : Nat → Int32} {g h : Nat → Nat} {x : Int32} (H : rI n f (mx g h (i + 1))) (hx : x = nI (h i)) : rI n (upd f i x) (mx g h i) := fun j hj => by
  by_cases e : j = i
  · subst e; rw [pk_us, mx_ge (Nat.le_refl j), hx]
  · rw [pk_un e, H j hj]
    by_cases h1 : j < i
    · rw [mx_lt h1, mx_lt (by omega)]
    · rw [mx_ge (by omega), mx_ge (by omega)]
theorem rI_0 {n : Nat} {f : Nat → Int32} {g h : Nat → Nat} (H : rI n f h) : rI n f (mx g h 0) := fun j hj => by
  rw [H j hj, mx_ge (Nat.zero_le j)]
theorem rI_all {n : Nat} {f : Nat → Int32} {g h : Nat → Nat} (H : rI n f (mx g h n)) : rI n f g := fun j hj => by
  rw [H j hj, mx_lt hj]
theorem rI_n {n : Nat} {f : Nat → Int32} {g h : Nat → Nat} (H : rI n f g) : rI n f (mx g h n) := fun j hj => by
  rw [H j hj, mx_lt hj]
theorem rI_z {n : Nat} {f : Nat → Int32} {g h : Nat → Nat} (H : rI n f (mx g h 0)) : rI n f h := fun j hj => by
  rw [H j hj, mx_ge (Nat.zero_le j)]
theorem rI_lt {n i j : Nat} {f : Nat → Int32} {g h : Nat → Nat} (H : rI n f (mx g h i)) (hj : j < n) (h1 : j < i) : f j = nI (g j) := by rw [H j hj, mx_lt h1]
theorem rI_ge {n i j : Nat} {f : Nat → Int32} {g h : Nat → Nat} (H : rI n f (mx g h i)) (hj : j < n) (h1 : i ≤ j) : f j = nI (h j) := by rw [H j hj, mx_ge h1]
theorem rI_set {n i : Nat} {f : Nat → Int32} {g : Nat → Nat} {x : Int32} {d : Nat} (H : rI n f g) (hx : x = nI d) : rI n (upd f i x) (fun j => if j = i then d else g j) := fun j hj => by
  by_cases e : j = i
  · subst e; rw [pk_us, hx]; simp
  · rw [pk_un e, H j hj]; simp [e]
theorem rI_eq {n : Nat} {f : Nat → Int32} {g h : Nat → Nat} (H : rI n f g) (e : ∀ j, j < n → g j = h j) : rI n f h := fun j hj => by rw [H j hj, e j hj]
theorem rL_up {n i : Nat} {f : Nat → Int64} {g h : Nat → Nat} {x : Int64} (H : rL n f (mx g h i)) (hx : x = lN (g i)) : rL n (vp_updL f i x) (mx g h (i + 1)) := fun j hj => by
  by_cases e : j = i
  · subst e; rw [pk_uLs, mx_lt (Nat.lt_succ_self j), hx]
  · rw [pk_uLn e, H j hj]
    by_cases h1 : j < i
    · rw [mx_lt h1, mx_lt (by omega)]
    · rw [mx_ge (by omega), mx_ge (by omega)]
theorem rL_dn {n i : Nat} {f : Nat → Int64} {g h : Nat → Nat} {x : Int64} (H : rL n f (mx g h (i + 1))) (hx : x = lN (h i)) : rL n (vp_updL f i x) (mx g h i) := fun j hj => by
  by_cases e : j = i
  · subst e; rw [pk_uLs, mx_ge (Nat.le_refl j), hx]
  · rw [pk_uLn e, H j hj]
    by_cases h1 : j < i
    · rw [mx_lt h1, mx_lt (by omega)]
    · rw [mx_ge (by omega), mx_ge (by omega)]
theorem rL_0 {n : Nat} {f : Nat → Int64} {g h : Nat → Nat} (H : rL n f h) : rL n f (mx g h 0) := fun j hj => by
  rw [H j hj, mx_ge (Nat.zero_le j)]
theorem rL_all {n : Nat} {f : Nat → Int64} {g h : Nat → Nat} (H : rL n f (mx g h n)) : rL n f g := fun j hj => by
  rw [H j hj, mx_lt hj]
theorem rL_n {n : Nat} {f : Nat → Int64} {g h : Nat → Nat} (H : rL n f g) : rL n f (mx g h n) := fun j hj => by
  rw [H j hj, mx_lt hj]
theorem rL_z {n : Nat} {f : Nat → Int64} {g h : Nat → Nat} (H : rL n f (mx g h 0)) : rL n f h := fun j hj => by
  rw [H j hj, mx_ge (Nat.zero_le j)]
theorem rL_lt {n i j : Nat} {f : Nat → Int64} {g h : Nat → Nat} (H : rL n f (mx g h i)) (hj : j < n) (h1 : j < i) : f j = lN (g j) := by rw [H j hj, mx_lt h1]
theorem rL_ge {n i j : Nat} {f : Nat → Int64} {g h : Nat → Nat} (H : rL n f (mx g h i)) (hj : j < n) (h1 : i ≤ j) : f j = lN (h j) := by rw [H j hj, mx_ge h1]
theorem rL_set {n i : Nat} {f : Nat → Int64} {g : Nat → Nat} {x : Int64} {d : Nat} (H : rL n f g) (hx : x = lN d) : rL n (vp_updL f i x) (fun j => if j = i then d else g j) := fun j hj => by
  by_cases e : j = i
  · subst e; rw [pk_uLs, hx]; simp
  · rw [pk_uLn e, H j hj]; simp [e]
theorem rL_eq {n : Nat} {f : Nat → Int64} {g h : Nat → Nat} (H : rL n f g) (e : ∀ j, j < n → g j = h j) : rL n f h := fun j hj => by rw [H j hj, e j hj]
/-- a row of 100 decimal digits; a row of six words of 32 bits -/
def dR (f : Nat → Int32) (v : Nat) : Prop := rI 100 f (dg 10 v)
def wR (f : Nat → Int64) (v : Nat) : Prop := rL 6 f (dg 4294967296 v)
theorem dg10 (v i : Nat) : dg 10 v i < 10 := dg_lt (by decide) v i
theorem dgW (v i : Nat) : dg 4294967296 v i < 4294967296 := dg_lt (by decide) v i
theorem kI_0 : Int32.ofInt 0 = nI 0 := by decide +kernel
theorem kI_1 : Int32.ofInt 1 = nI 1 := by decide +kernel
theorem kI_2 : Int32.ofInt 2 = nI 2 := by decide +kernel
theorem kI_3 : Int32.ofInt 3 = nI 3 := by decide +kernel
theorem kI_4 : Int32.ofInt 4 = nI 4 := by decide +kernel
theorem kI_5 : Int32.ofInt 5 = nI 5 := by decide +kernel
theorem kI_m1 : Int32.ofInt (-1) = -1 := by decide +kernel
theorem x_i2c {n : Nat} (h : n < 65536) : ((nI n).toUInt32 % 65536).toInt32 = nI n := by
  rw [pk_char, pk_tn (by omega), Nat.mod_eq_of_lt h]
theorem x_i2b : ∀ {n : Nat}, n < 128 → (nI n).toInt8.toInt32 = nI n := by
  have h : ∀ n, n < 128 → (nI n).toInt8.toInt32 = nI n := by decide +kernel
  exact fun {n} hn => h n hn

/-! small words for the walks -/
theorem rI_push {n : Nat} {f : Nat → Int32} {g : Nat → Nat} {x : Int32} (H : rI n f g) (hx : x = nI (g n)) : rI (n + 1) (upd f n x) g := fun j hj => by
  by_cases e : j = n
  · subst e; rw [pk_us, hx]
  · rw [pk_un e, H j (by omega)]
theorem rL_push {n : Nat} {f : Nat → Int64} {g : Nat → Nat} {x : Int64} (H : rL n f g) (hx : x = lN (g n)) : rL (n + 1) (vp_updL f n x) g := fun j hj => by
  by_cases e : j = n
  · subst e; rw [pk_uLs, hx]
  · rw [pk_uLn e, H j (by omega)]
theorem rI_nil {f : Nat → Int32} {g : Nat → Nat} : rI 0 f g := fun j hj => absurd hj (Nat.not_lt_zero j)
theorem rL_nil {f : Nat → Int64} {g : Nat → Nat} : rL 0 f g := fun j hj => absurd hj (Nat.not_lt_zero j)
def ord3 (a b : Nat) : Int32 := if a < b then -1 else if a = b then nI 0 else nI 1
theorem ord3_lt {a b : Nat} (h : a < b) : (-1 : Int32) = ord3 a b := by unfold ord3; rw [if_pos h]
theorem ord3_eq {a b : Nat} (h : a = b) : nI 0 = ord3 a b := by unfold ord3; rw [if_neg (by omega), if_pos h]
theorem ord3_gt {a b : Nat} (h : b < a) : nI 1 = ord3 a b := by unfold ord3; rw [if_neg (by omega), if_neg (by omega)]
theorem ord3_ge (a b : Nat) : 0 ≤ ord3 a b ↔ b ≤ a := by
  have h1 : ¬ (0 : Int32) ≤ -1 := by decide +kernel
  have h2 : (0 : Int32) ≤ nI 0 := by decide +kernel
  have h3 : (0 : Int32) ≤ nI 1 := by decide +kernel
  unfold ord3
  by_cases c : a < b
  · rw [if_pos c]; exact ⟨fun q => absurd q h1, fun q => by omega⟩
  · rw [if_neg c]
    by_cases d : a = b
    · rw [if_pos d]; exact ⟨fun _ => by omega, fun _ => h2⟩
    · rw [if_neg d]; exact ⟨fun _ => by omega, fun _ => h3⟩
theorem ord3_ltz (a b : Nat) : ord3 a b < 0 ↔ a < b := by
  have h1 : (-1 : Int32) < 0 := by decide +kernel
  have h2 : ¬ nI 0 < (0 : Int32) := by decide +kernel
  have h3 : ¬ nI 1 < (0 : Int32) := by decide +kernel
  unfold ord3
  by_cases c : a < b
  · rw [if_pos c]; exact ⟨fun _ => c, fun _ => h1⟩
  · rw [if_neg c]
    by_cases d : a = b
    · rw [if_pos d]; exact ⟨fun q => absurd q h2, fun q => by omega⟩
    · rw [if_neg d]; exact ⟨fun q => absurd q h3, fun q => by omega⟩
theorem ord3_gtz (a b : Nat) : 0 < ord3 a b ↔ b < a := by
  have h1 : ¬ (0 : Int32) < -1 := by decide +kernel
  have h2 : ¬ (0 : Int32) < nI 0 := by decide +kernel
  have h3 : (0 : Int32) < nI 1 := by decide +kernel
  unfold ord3
  by_cases c : a < b
  · rw [if_pos c]; exact ⟨fun q => absurd q h1, fun q => by omega⟩
  · rw [if_neg c]
    by_cases d : a = b
    · rw [if_pos d]; exact ⟨fun q => absurd q h2, fun q => by omega⟩
    · rw [if_neg d]; exact ⟨fun _ => by omega, fun _ => h3⟩
theorem ord3_z (a b : Nat) : ord3 a b = 0 ↔ a = b := by
  have h1 : ¬ (-1 : Int32) = 0 := by decide +kernel
  have h2 : nI 0 = (0 : Int32) := by decide +kernel
  have h3 : ¬ nI 1 = (0 : Int32) := by decide +kernel
  unfold ord3
  by_cases c : a < b
  · rw [if_pos c]; exact ⟨fun q => absurd q h1, fun q => by omega⟩
  · rw [if_neg c]
    by_cases d : a = b
    · rw [if_pos d]; exact ⟨fun _ => d, fun _ => h2⟩
    · rw [if_neg d]; exact ⟨fun q => absurd q h3, fun q => by omega⟩
/-- a difference of two digits and a borrow -/
theorem sb_dig : ∀ a, a < 10 → ∀ b, b < 10 → ∀ k, k < 2 → ((0 ≤ nI a - nI b - nI k ↔ b + k ≤ a) ∧ (a < b + k → nI a - nI b - nI k + nI 10 = nI (a + 10 - b - k)) ∧ (b + k ≤ a → nI a - nI b - nI k = nI (a - b - k))) := by decide +kernel
/-- an index that goes down past 0 -/
def dn : Nat → Int32
  | 0 => -1
  | j + 1 => nI j
theorem dn_lt {k : Nat} (hk : k < 2 ^ 31) (h : dn k < 0) : k = 0 := by
  cases k with
  | zero => rfl
  | succ j => exact absurd h (nI_pos (by omega))
theorem dn_ge {k : Nat} (h : ¬ dn k < 0) : ∃ j, k = j + 1 := by
  cases k with
  | zero => exact absurd (show (-1 : Int32) < 0 by decide +kernel) h
  | succ j => exact ⟨j, rfl⟩
theorem x_dn (j : Nat) : nI j + Int32.ofInt (-1) = dn j := by
  cases j with
  | zero => decide +kernel
  | succ j => exact x_dec j
theorem x_nz {b : Nat} (h : b ≤ 1) : narrow .boolean (.int (nI b)) = .int (nI b) := by
  have : b = 0 ∨ b = 1 := by omega
  rcases this with rfl | rfl <;> rfl
/-- one more: the digits behind which all are 9 -/
theorem dg_more {v i : Nat} (h9 : v % 10 ^ i = 10 ^ i - 1) (hd : dg 10 v i ≠ 9) (j : Nat) : dg 10 (v + 1) j = if j < i then 0 else if j = i then dg 10 v i + 1 else dg 10 v j := by
  have hp := pw_pos (B := 10) (by decide) i
  have h0 := Nat.div_add_mod v (10 ^ i)
  have e1 : v + 1 = (v / 10 ^ i + 1) * 10 ^ i := by rw [Nat.add_mul, Nat.mul_comm (v / 10 ^ i)]; omega
  have hm : v / 10 ^ i % 10 ≠ 9 := hd
  have hq : (v / 10 ^ i + 1) / 10 = v / 10 ^ i / 10 := by omega
  rw [e1, dg_shl (by decide)]
  by_cases c : i ≤ j
  · rw [if_pos c, if_neg (by omega)]
    obtain ⟨k, rfl⟩ := Nat.exists_eq_add_of_le c
    rw [Nat.add_sub_cancel_left]
    cases k with
    | zero =>
      rw [if_pos (by omega)]
      unfold dg
      rw [Nat.pow_zero, Nat.div_one]
      omega
    | succ k =>
      rw [if_neg (by omega)]
      unfold dg
      have h2 : (v / 10 ^ i + 1) / 10 ^ (k + 1) = v / 10 ^ (i + (k + 1)) := by
        rw [Nat.pow_succ, Nat.mul_comm, ← Nat.div_div_eq_div_mul, hq, Nat.pow_add, Nat.pow_succ, Nat.mul_comm (10 ^ k) 10, ← Nat.div_div_eq_div_mul, ← Nat.div_div_eq_div_mul]
      rw [h2]
  · rw [if_neg c, if_pos (by omega)]
theorem more_99 {v i : Nat} (hv : v + 1 < 10 ^ 100) (h9 : v % 10 ^ i = 10 ^ i - 1) (hi : i = 99) : dg 10 v i ≠ 9 := by
  subst hi
  intro h
  have h1 := dg_mod 10 v 99
  rw [h, h9, Nat.mod_eq_of_lt (show v < 10 ^ (99 + 1) by omega)] at h1
  omega
theorem more_end {f : Nat → Int32} {v i : Nat} (h9 : v % 10 ^ i = 10 ^ i - 1) (hd : dg 10 v i ≠ 9) (hf : rI 100 f (mx (fun _ => 0) (dg 10 v) i)) : dR (upd f i (nI (dg 10 v i + 1))) (v + 1) := fun j hj => by
  rw [dg_more h9 hd j]
  by_cases e : j = i
  · subst e; rw [pk_us, if_neg (Nat.lt_irrefl j), if_pos rfl]
  · rw [pk_un e, hf j hj]
    by_cases c : j < i
    · rw [mx_lt c, if_pos c]
    · rw [mx_ge (by omega), if_neg c, if_neg e]
/-- a digit is brought down -/
theorem dR_low {f : Nat → Int32} {r d : Nat} (hf : dR f (r * 10 ^ 1)) (hd : d < 10) : dR (upd f 0 (nI d)) (r * 10 + d) := fun j hj => by
  by_cases e : j = 0
  · subst e
    rw [pk_us]
    unfold dg
    rw [Nat.pow_zero, Nat.div_one]
    congr 1
    omega
  · rw [pk_un e, hf j hj]
    obtain ⟨k, rfl⟩ : ∃ k, j = k + 1 := ⟨j - 1, by omega⟩
    congr 1
    unfold dg
    have h1 : (r * 10 + d) / 10 ^ (k + 1) = r * 10 ^ 1 / 10 ^ (k + 1) := by
      rw [Nat.pow_succ, Nat.mul_comm (10 ^ k) 10, ← Nat.div_div_eq_div_mul, ← Nat.div_div_eq_div_mul]
      congr 1
      omega
    rw [h1]
/-- one more in a row whose lowest digit is even -/
theorem dR_bit {f : Nat → Int32} {v d : Nat} (hf : dR f (2 * v)) (hd : d < 2) : dR (upd f 0 (nI (dg 10 (2 * v) 0 + d))) (2 * v + d) := fun j hj => by
  by_cases e : j = 0
  · subst e
    rw [pk_us]
    unfold dg
    rw [Nat.pow_zero, Nat.div_one, Nat.div_one]
    congr 1
    omega
  · rw [pk_un e, hf j hj]
    obtain ⟨k, rfl⟩ : ∃ k, j = k + 1 := ⟨j - 1, by omega⟩
    congr 1
    unfold dg
    have h1 : (2 * v + d) / 10 ^ (k + 1) = 2 * v / 10 ^ (k + 1) := by
      rw [Nat.pow_succ, Nat.mul_comm (10 ^ k) 10, ← Nat.div_div_eq_div_mul, ← Nat.div_div_eq_div_mul]
      congr 1
      omega
    rw [h1]
theorem dR_of {f : Nat → Int32} {a b : Nat} (hf : dR f a) (h : a = b) : dR f b := h ▸ hf
theorem dvq_0 {f : Nat → Int32} {g : Nat → Nat} {j : Nat} (h : rI 100 f (mx (fun _ => 0) g (j + 1))) : rI 100 f (fun i => if i = j then 0 else mx (fun _ => 0) g (j + 1) i) := rI_eq h (fun i hi => by
  by_cases e : i = j
  · rw [if_pos e, mx_lt (by omega)]
  · rw [if_neg e])
theorem dvq_1 {f : Nat → Int32} {g : Nat → Nat} {j t : Nat} (h : rI 100 f (fun i => if i = j then t else g i)) : rI 100 (upd f j (nI (t + 1))) (fun i => if i = j then t + 1 else g i) := fun i hi => by
  have hh : f i = nI (if i = j then t else g i) := h i hi
  show upd f j (nI (t + 1)) i = nI (if i = j then t + 1 else g i)
  by_cases e : i = j
  · subst e; rw [pk_us, if_pos rfl]
  · rw [pk_un e, hh, if_neg e, if_neg e]
theorem dvq_2 {f : Nat → Int32} {g : Nat → Nat} {j t : Nat} (ht : t = g j) (h : rI 100 f (fun i => if i = j then t else mx (fun _ => 0) g (j + 1) i)) : rI 100 f (mx (fun _ => 0) g j) := rI_eq h (fun i hi => by
  by_cases e : i = j
  · rw [if_pos e, mx_ge (by omega), ht, e]
  · rw [if_neg e]
    by_cases c : i < j
    · rw [mx_lt (by omega), mx_lt c]
    · rw [mx_ge (by omega), mx_ge (by omega)])
theorem dv_end {a b j t : Nat} (hb0 : 0 < b) (h1 : t * b ≤ a / 10 ^ (j + 1) % b * 10 + dg 10 a j) (h2 : a / 10 ^ (j + 1) % b * 10 + dg 10 a j - t * b < b) : t = dg 10 (a / b) j ∧ a / 10 ^ (j + 1) % b * 10 + dg 10 a j - t * b = a / 10 ^ j % b := by
  have q := dd_quo (B := 10) (q := b) (by decide) hb0 a j
  have r := dd_rem (B := 10) (q := b) a j
  have e : (a / 10 ^ (j + 1) % b * 10 + dg 10 a j) / b = t := (Nat.div_eq_iff hb0).mpr ⟨h1, by omega⟩
  have k := Nat.div_add_mod (a / 10 ^ (j + 1) % b * 10 + dg 10 a j) b
  rw [e, Nat.mul_comm] at k
  exact ⟨by rw [← q, e], by rw [← r]; omega⟩

/-! words of the reference's state -/
theorem dg_big {v n j : Nat} (h : v < 10 ^ n) (hj : n ≤ j) : dg 10 v j = 0 := by
  have : 10 ^ n ≤ 10 ^ j := Nat.pow_le_pow_right (by decide) hj
  exact dg_top (by omega)
def iz (v : Nat) : Nat := if v = 0 then 1 else 0
theorem iz_sp (v : Nat) : (v = 0 ∧ iz v = 1) ∨ (v ≠ 0 ∧ iz v = 0) := by
  unfold iz
  by_cases h : v = 0
  · rw [if_pos h]; omega
  · rw [if_neg h]; omega
def upN (C : Nat → Nat) (r v : Nat) : Nat → Nat := fun j => if j = r then v else C j
theorem upN_s (C : Nat → Nat) (r v : Nat) : upN C r v r = v := if_pos rfl
theorem upN_n {C : Nat → Nat} {r v j : Nat} (h : j ≠ r) : upN C r v j = C j := if_neg h
theorem rI_upN {n r v : Nat} {f : Nat → Int32} {g : Nat → Nat} (H : rI n f g) : rI n (upd f r (nI v)) (upN g r v) := fun j hj => by
  by_cases e : j = r
  · subst e; rw [pk_us, upN_s]
  · rw [pk_un e, upN_n e, H j hj]
/-- six numbers of 30 digits each -/
def mD (f : Nat → Int32) (C : Nat → Nat) : Prop := ∀ r i, r < 6 → i < 30 → f (30 * r + i) = nI (dg 10 (C r) i)
def mDi (f : Nat → Int32) (C : Nat → Nat) (r v i : Nat) : Prop := ∀ q k, q < 6 → k < 30 → f (30 * q + k) = nI (if q = r ∧ k < i then dg 10 v k else dg 10 (C q) k)
theorem mDi_0 {f : Nat → Int32} {C : Nat → Nat} {r v : Nat} (h : mD f C) : mDi f C r v 0 := fun q k hq hk => by
  rw [h q k hq hk, if_neg (by omega)]
theorem mDi_s {f : Nat → Int32} {C : Nat → Nat} {r v i : Nat} (hr : r < 6) (hi : i < 30) (h : mDi f C r v i) : mDi (upd f (30 * r + i) (nI (dg 10 v i))) C r v (i + 1) := fun q k hq hk => by
  by_cases e : q = r ∧ k = i
  · obtain ⟨rfl, rfl⟩ := e
    rw [pk_us, if_pos ⟨rfl, Nat.lt_succ_self k⟩]
  · rw [pk_un (by omega), h q k hq hk]
    by_cases c : q = r ∧ k < i
    · rw [if_pos c, if_pos ⟨c.1, by omega⟩]
    · rw [if_neg c, if_neg (by omega)]
theorem mDi_e {f : Nat → Int32} {C : Nat → Nat} {r v : Nat} (h : mDi f C r v 30) : mD f (upN C r v) := fun q k hq hk => by
  rw [h q k hq hk]
  by_cases c : q = r
  · subst c; rw [if_pos ⟨rfl, hk⟩, upN_s]
  · rw [if_neg (by omega), upN_n c]
theorem ld_end {f : Nat → Int32} {v : Nat} (hv : v < 10 ^ 30) (h : rI 100 f (mx (dg 10 v) (fun _ => 0) 30)) : dR f v := rI_eq h (fun j hj => by
  by_cases c : j < 30
  · rw [mx_lt c]
  · rw [mx_ge (by omega), dg_big hv (by omega)])
theorem dR_one {f : Nat → Int32} (h : dR f 0) : dR (upd f 0 (nI 1)) 1 := fun j hj => by
  by_cases e : j = 0
  · subst e; rw [pk_us]; rfl
  · rw [pk_un e, h j hj]
    have h1 : (1 : Nat) < 10 ^ j := by
      have : 10 ^ 1 ≤ 10 ^ j := Nat.pow_le_pow_right (by decide) (by omega)
      omega
    rw [dg_0, dg_top h1]
def sgn (ng v : Nat) : Nat := if v = 0 then 0 else ng
theorem sgn_z {ng v : Nat} (h : v = 0) : sgn ng v = 0 := if_pos h
theorem sgn_n {ng v : Nat} (h : v ≠ 0) : sgn ng v = ng := if_neg h
theorem mul_pw {num s t : Nat} (h : s ≤ t) : num * 10 ^ s ≤ num * 10 ^ t := Nat.mul_le_mul_left _ (Nat.pow_le_pow_right (by decide) h)
/-! rounding, by the order of the doubled rest and the divisor -/
theorem rne_gt {n d : Nat} (h : d < n % d + n % d) : rne n d = n / d + 1 := by
  refine rne_y ?_
  have := cls_sp (n % d) d
  unfold aw0; omega
theorem rne_lt {n d : Nat} (h : n % d + n % d < d) : rne n d = n / d := by
  refine rne_n ?_
  have := cls_sp (n % d) d
  unfold aw0; omega
theorem rne_odd {n d : Nat} (h0 : 0 < d) (h : n % d + n % d = d) (ho : n / d % 2 = 1) : rne n d = n / d + 1 := by
  refine rne_y ?_
  have := cls_sp (n % d) d
  unfold aw0; omega
theorem rne_even {n d : Nat} (h0 : 0 < d) (h : n % d + n % d = d) (ho : n / d % 2 ≠ 1) : rne n d = n / d := by
  refine rne_n ?_
  have := cls_sp (n % d) d
  unfold aw0; omega
theorem dg_low2 (v : Nat) : dg 10 v 0 % 2 = v % 2 := by
  unfold dg; rw [Nat.pow_zero, Nat.div_one]; omega
def plP (num den p : Nat) (r pl : Int32) (fq : Nat → Int32) : Prop := match plc num den (min p 28) with
  | some (q, s) => r = nI 1 ∧ pl = nI s ∧ dR fq q
  | none => r = nI 0
theorem plP_y {num den p j : Nat} {pl : Int32} {fq : Nat → Int32} (h : plc num den (min p 28) = plc num den j) (hf : rne (num * 10 ^ j) den < lim) (hp : pl = nI j) (hq : dR fq (rne (num * 10 ^ j) den)) : plP num den p (nI 1) pl fq := by
  unfold plP
  rw [h, plc_y hf]
  exact ⟨rfl, hp, hq⟩
theorem plP_n {num den p : Nat} {pl : Int32} {fq : Nat → Int32} (h : plc num den (min p 28) = none) : plP num den p (nI 0) pl fq := by
  unfold plP
  rw [h]
theorem plc_z {num den p j : Nat} (h : plc num den (min p 28) = plc num den j) (hf : ¬ rne (num * 10 ^ j) den < lim) : (j = 0 ∧ plc num den (min p 28) = none) ∨ (0 < j ∧ plc num den (min p 28) = plc num den (j - 1)) := by
  cases j with
  | zero => exact Or.inl ⟨rfl, by rw [h, plc_0 hf]⟩
  | succ j => exact Or.inr ⟨Nat.succ_pos j, by rw [h, plc_n hf]; rfl⟩
theorem rne_le (n d : Nat) : rne n d ≤ n / d + 1 := by
  unfold rne
  split <;> omega
/-- is a number one of 0 .. k - 1? -/
def inR (k : Nat) (r : Int32) : Nat := if r < 0 then 0 else if nI k ≤ r then 0 else 1
theorem inR_y {k : Nat} {r : Int32} (h1 : ¬ r < 0) (h2 : ¬ nI k ≤ r) : inR k r = 1 := by unfold inR; rw [if_neg h1, if_neg h2]
theorem inR_n {k : Nat} {r : Int32} (h : r < 0 ∨ nI k ≤ r) : inR k r = 0 := by
  unfold inR
  by_cases c : r < 0
  · rw [if_pos c]
  · rw [if_neg c, if_pos (h.resolve_left c)]
theorem inR_le (k : Nat) (r : Int32) : inR k r ≤ 1 := by
  unfold inR
  split
  · omega
  · split <;> omega

