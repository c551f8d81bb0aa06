/-! names, fields, tables -/
def RX0 : String := "WideDecimalDesk$Digits"
def TX0 : u_T := fun k => match k with
  | 0 => ("WideDecimalDesk$Digits", "row", "[B", true)
  | _ => ("WideDecimalDesk$Digits", "count", "I", false)
def tyX0 : Nat → FieldType := fun k => match k with
  | 0 => .array .byte
  | _ => .int
theorem nm_X0 : ∀ a, a < 2 → ∀ b, b < 2 → a ≠ b → (TX0 a).2.1 ≠ (TX0 b).2.1 := by decide +kernel
theorem ty_X0 : ∀ k, k < 2 → parseFieldDescriptor (TX0 k).2.2.1 = some (tyX0 k) := by decide +kernel
def RX1 : String := "WideDecimalDesk$Draft"
def TX1 : u_T := fun k => match k with
  | 0 => ("WideDecimalDesk$Draft", "whole", "LWideDecimalDesk$Whole;", true)
  | 1 => ("WideDecimalDesk$Draft", "scale", "I", false)
  | 2 => ("WideDecimalDesk$Draft", "negative", "Z", false)
  | _ => ("WideDecimalDesk$Draft", "cut", "I", false)
def tyX1 : Nat → FieldType := fun k => match k with
  | 0 => .object "WideDecimalDesk$Whole"
  | 1 => .int
  | 2 => .boolean
  | _ => .int
theorem nm_X1 : ∀ a, a < 4 → ∀ b, b < 4 → a ≠ b → (TX1 a).2.1 ≠ (TX1 b).2.1 := by decide +kernel
theorem ty_X1 : ∀ k, k < 4 → parseFieldDescriptor (TX1 k).2.2.1 = some (tyX1 k) := by decide +kernel
def RX2 : String := "WideDecimalDesk$Line"
def TX2 : u_T := fun k => match k with
  | 0 => ("WideDecimalDesk$Line", "row", "[C", true)
  | _ => ("WideDecimalDesk$Line", "length", "I", false)
def tyX2 : Nat → FieldType := fun k => match k with
  | 0 => .array .char
  | _ => .int
theorem nm_X2 : ∀ a, a < 2 → ∀ b, b < 2 → a ≠ b → (TX2 a).2.1 ≠ (TX2 b).2.1 := by decide +kernel
theorem ty_X2 : ∀ k, k < 2 → parseFieldDescriptor (TX2 k).2.2.1 = some (tyX2 k) := by decide +kernel
def RX3 : String := "WideDecimalDesk$LongDivision"
def TX3 : u_T := fun k => match k with
  | 0 => ("WideDecimalDesk$LongDivision", "divisor", "LWideDecimalDesk$Whole;", true)
  | 1 => ("WideDecimalDesk$LongDivision", "quotient", "LWideDecimalDesk$Whole;", true)
  | _ => ("WideDecimalDesk$LongDivision", "rest", "LWideDecimalDesk$Whole;", true)
def tyX3 : Nat → FieldType := fun k => match k with
  | 0 => .object "WideDecimalDesk$Whole"
  | 1 => .object "WideDecimalDesk$Whole"
  | _ => .object "WideDecimalDesk$Whole"
theorem nm_X3 : ∀ a, a < 3 → ∀ b, b < 3 → a ≠ b → (TX3 a).2.1 ≠ (TX3 b).2.1 := by decide +kernel
theorem ty_X3 : ∀ k, k < 3 → parseFieldDescriptor (TX3 k).2.2.1 = some (tyX3 k) := by decide +kernel
def RX4 : String := "WideDecimalDesk$Pattern"
def TX4 : u_T := fun k => match k with
  | 0 => ("WideDecimalDesk$Pattern", "frontHasPlace", "Z", false)
  | 1 => ("WideDecimalDesk$Pattern", "leastBefore", "I", false)
  | 2 => ("WideDecimalDesk$Pattern", "grouped", "Z", false)
  | 3 => ("WideDecimalDesk$Pattern", "backPlaces", "I", false)
  | 4 => ("WideDecimalDesk$Pattern", "leastBehind", "I", false)
  | _ => ("WideDecimalDesk$Pattern", "percent", "Z", false)
def tyX4 : Nat → FieldType := fun k => match k with
  | 0 => .boolean
  | 1 => .int
  | 2 => .boolean
  | 3 => .int
  | 4 => .int
  | _ => .boolean
theorem nm_X4 : ∀ a, a < 6 → ∀ b, b < 6 → a ≠ b → (TX4 a).2.1 ≠ (TX4 b).2.1 := by decide +kernel
theorem ty_X4 : ∀ k, k < 6 → parseFieldDescriptor (TX4 k).2.2.1 = some (tyX4 k) := by decide +kernel
def RX5 : String := "WideDecimalDesk$Register"
def TX5 : u_T := fun k => match k with
  | 0 => ("WideDecimalDesk$Register", "lowBits", "J", false)
  | 1 => ("WideDecimalDesk$Register", "highBits", "I", false)
  | 2 => ("WideDecimalDesk$Register", "scale", "I", false)
  | _ => ("WideDecimalDesk$Register", "negative", "Z", false)
def tyX5 : Nat → FieldType := fun k => match k with
  | 0 => .long
  | 1 => .int
  | 2 => .int
  | _ => .boolean
theorem nm_X5 : ∀ a, a < 4 → ∀ b, b < 4 → a ≠ b → (TX5 a).2.1 ≠ (TX5 b).2.1 := by decide +kernel
theorem ty_X5 : ∀ k, k < 4 → parseFieldDescriptor (TX5 k).2.2.1 = some (tyX5 k) := by decide +kernel
def RX6 : String := "WideDecimalDesk$Whole"
def TX6 : u_T := fun k => match k with
  | _ => ("WideDecimalDesk$Whole", "words", "[J", true)
def tyX6 : Nat → FieldType := fun k => match k with
  | _ => .array .long
theorem nm_X6 : ∀ a, a < 1 → ∀ b, b < 1 → a ≠ b → (TX6 a).2.1 ≠ (TX6 b).2.1 := by decide +kernel
theorem ty_X6 : ∀ k, k < 1 → parseFieldDescriptor (TX6 k).2.2.1 = some (tyX6 k) := by decide +kernel
def RX7 : String := "WideDecimalDesk"
def TX7 : u_T := fun k => match k with
  | 0 => ("WideDecimalDesk", "registers", "[LWideDecimalDesk$Register;", true)
  | 1 => ("WideDecimalDesk", "text", "LWideDecimalDesk$Line;", true)
  | 2 => ("WideDecimalDesk", "output", "LWideDecimalDesk$Line;", true)
  | 3 => ("WideDecimalDesk", "left", "LWideDecimalDesk$Draft;", true)
  | 4 => ("WideDecimalDesk", "right", "LWideDecimalDesk$Draft;", true)
  | 5 => ("WideDecimalDesk", "factor", "LWideDecimalDesk$Whole;", true)
  | 6 => ("WideDecimalDesk", "division", "LWideDecimalDesk$LongDivision;", true)
  | 7 => ("WideDecimalDesk", "figures", "LWideDecimalDesk$Digits;", true)
  | _ => ("WideDecimalDesk", "pattern", "LWideDecimalDesk$Pattern;", true)
def tyX7 : Nat → FieldType := fun k => match k with
  | 0 => .array (.object "WideDecimalDesk$Register")
  | 1 => .object "WideDecimalDesk$Line"
  | 2 => .object "WideDecimalDesk$Line"
  | 3 => .object "WideDecimalDesk$Draft"
  | 4 => .object "WideDecimalDesk$Draft"
  | 5 => .object "WideDecimalDesk$Whole"
  | 6 => .object "WideDecimalDesk$LongDivision"
  | 7 => .object "WideDecimalDesk$Digits"
  | _ => .object "WideDecimalDesk$Pattern"
theorem nm_X7 : ∀ a, a < 9 → ∀ b, b < 9 → a ≠ b → (TX7 a).2.1 ≠ (TX7 b).2.1 := by decide +kernel
theorem ty_X7 : ∀ k, k < 9 → parseFieldDescriptor (TX7 k).2.2.1 = some (tyX7 k) := by decide +kernel
def RX8 : String := "WideDecimalDeskModel"
def TX8 : u_T := fun k => match k with
  | 0 => ("WideDecimalDeskModel", "thrown", "I", false)
  | 1 => ("WideDecimalDeskModel", "digits", "[I", true)
  | 2 => ("WideDecimalDeskModel", "scales", "[I", true)
  | 3 => ("WideDecimalDeskModel", "below", "[Z", true)
  | 4 => ("WideDecimalDeskModel", "size", "I", false)
  | 5 => ("WideDecimalDeskModel", "text", "[C", true)
  | 6 => ("WideDecimalDeskModel", "length", "I", false)
  | 7 => ("WideDecimalDeskModel", "output", "[C", true)
  | 8 => ("WideDecimalDeskModel", "limit", "[I", true)
  | 9 => ("WideDecimalDeskModel", "num", "[I", true)
  | 10 => ("WideDecimalDeskModel", "den", "[I", true)
  | 11 => ("WideDecimalDeskModel", "top", "[I", true)
  | 12 => ("WideDecimalDeskModel", "quo", "[I", true)
  | 13 => ("WideDecimalDeskModel", "rem", "[I", true)
  | 14 => ("WideDecimalDeskModel", "tmp", "[I", true)
  | 15 => ("WideDecimalDeskModel", "placed", "I", false)
  | 16 => ("WideDecimalDeskModel", "frontDigits", "I", false)
  | 17 => ("WideDecimalDeskModel", "grouped", "Z", false)
  | 18 => ("WideDecimalDeskModel", "back", "I", false)
  | 19 => ("WideDecimalDeskModel", "keep", "I", false)
  | _ => ("WideDecimalDeskModel", "percent", "Z", false)
def tyX8 : Nat → FieldType := fun k => match k with
  | 0 => .int
  | 1 => .array .int
  | 2 => .array .int
  | 3 => .array .boolean
  | 4 => .int
  | 5 => .array .char
  | 6 => .int
  | 7 => .array .char
  | 8 => .array .int
  | 9 => .array .int
  | 10 => .array .int
  | 11 => .array .int
  | 12 => .array .int
  | 13 => .array .int
  | 14 => .array .int
  | 15 => .int
  | 16 => .int
  | 17 => .boolean
  | 18 => .int
  | 19 => .int
  | _ => .boolean
theorem nm_X8 : ∀ a, a < 21 → ∀ b, b < 21 → a ≠ b → (TX8 a).2.1 ≠ (TX8 b).2.1 := by decide +kernel
theorem ty_X8 : ∀ k, k < 21 → parseFieldDescriptor (TX8 k).2.2.1 = some (tyX8 k) := by decide +kernel
abbrev vwCl : List vw_C := [(RX0, TX0, 2), (RX1, TX1, 4), (RX2, TX2, 2), (RX3, TX3, 3), (RX4, TX4, 6), (RX5, TX5, 4), (RX6, TX6, 1), (RX7, TX7, 9), (RX8, TX8, 21)]
abbrev tyAll (cI cL cC cB cZ cR : ClassId) : List (ClassId × FieldType) := [(cI, .int), (cL, .long), (cC, .char), (cB, .byte), (cZ, .boolean), (cR, .object "WideDecimalDesk$Register")]
def wsA : List Cond := lw_tbl.filter goodWord
theorem x_inA {w : Cond} (h : w ∈ lw_tbl) (g : goodWord w = true) : w ∈ wsA := List.mem_filter.mpr ⟨h, g⟩
theorem x_in1 {w : Cond} (i : Nat) (hi : tables_1_1[i]? = some w) (g : goodWord w = true) : w ∈ wsA := x_inA (by have h := List.mem_of_getElem? hi; exact List.mem_append_right _ (List.mem_append_left _ h)) g
theorem x_in2 {w : Cond} (i : Nat) (hi : tables_1_2[i]? = some w) (g : goodWord w = true) : w ∈ wsA := x_inA (by have h := List.mem_of_getElem? hi; exact List.mem_append_right _ (List.mem_append_right _ (List.mem_append_left _ h))) g
theorem x_in3 {w : Cond} (i : Nat) (hi : tables_1_3[i]? = some w) (g : goodWord w = true) : w ∈ wsA := x_inA (by have h := List.mem_of_getElem? hi; exact List.mem_append_right _ (List.mem_append_right _ (List.mem_append_right _ (List.mem_append_left _ h)))) g
theorem x_in4 {w : Cond} (i : Nat) (hi : tables_1_4[i]? = some w) (g : goodWord w = true) : w ∈ wsA := x_inA (by have h := List.mem_of_getElem? hi; exact List.mem_append_right _ (List.mem_append_right _ (List.mem_append_right _ (List.mem_append_right _ (h))))) g
theorem x_inP (i : Nat) {q : MethodName × Nat} (hi : lw_privs[i]? = some q) : Cond.selects q.1.cls q.1 q.1 ∈ wsA := x_inA (List.mem_append_left _ (List.mem_map.mpr ⟨q, List.mem_of_getElem? hi, rfl⟩)) rfl
theorem x_good {w : Cond} (h : w ∈ wsA) : GoodIn wsA (w :: wsA) := fun v hv => by
  have hm : v ∈ wsA := (List.mem_cons.mp hv).elim (fun e => e ▸ h) id
  exact ⟨hm, good_of_word (List.mem_filter.mp hm).2⟩
def isN : Cond → Bool
  | .fieldLinkNest .. => true
  | .methodLinkNest .. => true
  | .stringRef .. => true
  | .arrayOver (.object _) => true
  | _ => false
def wsN : List Cond := tables_1.filter isN
def xN (U : State) : Prop := ∀ w ∈ wsN, va_Nw w U
theorem sr_same {own tx : String} {k : Nat} {u U : State} (hv : u.vm = U.vm) (h : va_Nw (.stringRef own k tx) u) : va_Nw (.stringRef own k tx) U := by
  first
    | exact va_Nw.same rfl hv h
    | (have h1 := h; simp only [va_Nw, Cond.before, Cond.holds, Cond.value, State.names, State.poolOf?, State.resolvedAt?, hv] at h1 ⊢; exact h1)
theorem isN_same {u U : State} (h : u.vm = U.vm) : ∀ (w : Cond), isN w = true → va_Nw w u → va_Nw w U
  | .fieldLinkNest .., _, hZ => va_Nw.same rfl h hZ
  | .methodLinkNest .., _, hZ => va_Nw.same rfl h hZ
  | .stringRef .., _, hZ => sr_same h hZ
  | .arrayOver (.object _), _, hZ => va_AO.moved (h ▸ Vm.Alike.refl _) hZ
theorem xN_same {u U : State} (h : u.vm = U.vm) (hN : xN u) : xN U := fun w hw => isN_same h w (List.mem_filter.mp hw).2 (hN w hw)
theorem isN_warm {s U : State} (hW : s.WarmedH U.vm) : ∀ (w : Cond), isN w = true → va_Nw w s → va_Nw w U
  | .fieldLinkNest .., _, hZ => va_Nw.warmF hW hZ
  | .methodLinkNest .., _, hZ => va_Nw.warmM hW hZ
  | .stringRef .., _, hZ => sr_same (u := s.setVm U.vm) rfl (Cond.stringRef_warmed hW hZ)
  | .arrayOver (.object _), _, hZ => va_AO.moved hW.alike hZ
theorem xN_warm {s U : State} (hW : s.WarmedH U.vm) (hN : xN s) : xN U := fun w hw => isN_warm hW w (List.mem_filter.mp hw).2 (hN w hw)
theorem x_nn1 {w : Cond} (i : Nat) (hi : tables_1_1[i]? = some w) (g : isN w = true) : w ∈ wsN := List.mem_filter.mpr ⟨by have h := List.mem_of_getElem? hi; exact List.mem_append_left _ h, g⟩
theorem x_nn2 {w : Cond} (i : Nat) (hi : tables_1_2[i]? = some w) (g : isN w = true) : w ∈ wsN := List.mem_filter.mpr ⟨by have h := List.mem_of_getElem? hi; exact List.mem_append_right _ (List.mem_append_left _ h), g⟩
theorem x_nn3 {w : Cond} (i : Nat) (hi : tables_1_3[i]? = some w) (g : isN w = true) : w ∈ wsN := List.mem_filter.mpr ⟨by have h := List.mem_of_getElem? hi; exact List.mem_append_right _ (List.mem_append_right _ (List.mem_append_left _ h)), g⟩
theorem x_nn4 {w : Cond} (i : Nat) (hi : tables_1_4[i]? = some w) (g : isN w = true) : w ∈ wsN := List.mem_filter.mpr ⟨by have h := List.mem_of_getElem? hi; exact List.mem_append_right _ (List.mem_append_right _ (List.mem_append_right _ (h))), g⟩
theorem kw_0 : (Jvm.Cond.initialized "WideDecimalDeskLaw") ∈ wsA := x_in1 0 rfl rfl
theorem kw_1 : (Jvm.Cond.initialized "WideDecimalDesk") ∈ wsA := x_in1 1 rfl rfl
theorem kw_2 : (Jvm.Cond.initialized "WideDecimalDesk$Register") ∈ wsA := x_in1 2 rfl rfl
theorem kw_3 : (Jvm.Cond.initialized "WideDecimalDesk$Line") ∈ wsA := x_in1 3 rfl rfl
theorem kw_4 : (Jvm.Cond.initialized "WideDecimalDesk$Draft") ∈ wsA := x_in1 4 rfl rfl
theorem kw_5 : (Jvm.Cond.initialized "WideDecimalDesk$Whole") ∈ wsA := x_in1 5 rfl rfl
theorem kw_6 : (Jvm.Cond.initialized "WideDecimalDesk$LongDivision") ∈ wsA := x_in1 6 rfl rfl
theorem kw_7 : (Jvm.Cond.initialized "WideDecimalDesk$Digits") ∈ wsA := x_in1 7 rfl rfl
theorem kw_8 : (Jvm.Cond.initialized "WideDecimalDesk$Pattern") ∈ wsA := x_in1 8 rfl rfl
theorem kw_9 : (Jvm.Cond.initialized "WideDecimalDeskModel") ∈ wsA := x_in1 9 rfl rfl
theorem kw_10 : (Jvm.Cond.initialized "java/lang/Throwable") ∈ wsA := x_in1 10 rfl rfl
theorem kw_11 : (Jvm.Cond.initialized "java/lang/Exception") ∈ wsA := x_in1 11 rfl rfl
theorem kw_12 : (Jvm.Cond.initialized "java/lang/RuntimeException") ∈ wsA := x_in1 12 rfl rfl
theorem kw_13 : (Jvm.Cond.initialized "java/lang/IllegalArgumentException") ∈ wsA := x_in1 13 rfl rfl
theorem kw_14 : (Jvm.Cond.initialized "java/lang/Math") ∈ wsA := x_in1 14 rfl rfl
theorem kw_15 : (Jvm.Cond.initialized "java/lang/ArithmeticException") ∈ wsA := x_in1 15 rfl rfl
theorem kw_16 : (Jvm.Cond.initialized "java/lang/IllegalStateException") ∈ wsA := x_in1 16 rfl rfl
theorem kw_17 : (Jvm.Cond.classLink "WideDecimalDeskLaw" (8 : Nat) "WideDecimalDesk") ∈ wsA := x_in1 17 rfl rfl
theorem kw_18 : (Jvm.Cond.instantiable "WideDecimalDesk" (9 : Nat)) ∈ wsA := x_in1 18 rfl rfl
theorem kw_19 : (Jvm.Cond.methodLink "WideDecimalDeskLaw" (45 : Nat) ({ cls := "WideDecimalDesk", name := "<init>", desc := "()V" } : Jvm.MethodName)) ∈ wsA := x_in1 19 rfl rfl
theorem kw_20 : (Jvm.Cond.instanceMethod ({ cls := "WideDecimalDesk", name := "<init>", desc := "()V" } : Jvm.MethodName)) ∈ wsA := x_in1 20 rfl rfl
theorem kw_21 : (Jvm.Cond.code ({ cls := "WideDecimalDesk", name := "<init>", desc := "()V" } : Jvm.MethodName) prog_1_method_1_code (2 : Nat) (Option.none : Option Jvm.ClassFile.FieldType)) ∈ wsA := x_in1 21 rfl rfl
theorem kw_22 : (Jvm.Cond.methodLink "WideDecimalDesk" (1 : Nat) ({ cls := "java/lang/Object", name := "<init>", desc := "()V" } : Jvm.MethodName)) ∈ wsA := x_in1 22 rfl rfl
theorem kw_23 : (Jvm.Cond.instanceMethod ({ cls := "java/lang/Object", name := "<init>", desc := "()V" } : Jvm.MethodName)) ∈ wsA := x_in1 23 rfl rfl
theorem kw_24 : (Jvm.Cond.code ({ cls := "java/lang/Object", name := "<init>", desc := "()V" } : Jvm.MethodName) object_method_1_code (1 : Nat) (Option.none : Option Jvm.ClassFile.FieldType)) ∈ wsA := x_in1 24 rfl rfl
theorem kw_25 : (Jvm.Cond.classLink "WideDecimalDesk" (9 : Nat) "WideDecimalDesk$Register") ∈ wsA := x_in1 25 rfl rfl
theorem kn_26 : (Jvm.Cond.arrayOver (Jvm.ClassFile.FieldType.object "WideDecimalDesk$Register")) ∈ wsN := x_nn1 26 rfl rfl
theorem kw_27 : (Jvm.Cond.instantiable "WideDecimalDesk$Register" (4 : Nat)) ∈ wsA := x_in1 27 rfl rfl
theorem kn_28 : (Jvm.Cond.methodLinkNest "WideDecimalDesk" (15 : Nat) ({ cls := "WideDecimalDesk$Register", name := "<init>", desc := "()V" } : Jvm.MethodName) "WideDecimalDesk") ∈ wsN := x_nn1 28 rfl rfl
theorem kw_29 : (Jvm.Cond.instanceMethod ({ cls := "WideDecimalDesk$Register", name := "<init>", desc := "()V" } : Jvm.MethodName)) ∈ wsA := x_in1 29 rfl rfl
theorem kw_30 : (Jvm.Cond.code ({ cls := "WideDecimalDesk$Register", name := "<init>", desc := "()V" } : Jvm.MethodName) prog_7_method_1_code (1 : Nat) (Option.none : Option Jvm.ClassFile.FieldType)) ∈ wsA := x_in1 30 rfl rfl
theorem kw_31 : (Jvm.Cond.methodLink "WideDecimalDesk$Register" (1 : Nat) ({ cls := "java/lang/Object", name := "<init>", desc := "()V" } : Jvm.MethodName)) ∈ wsA := x_in1 31 rfl rfl
theorem kw_32 : (Jvm.Cond.fieldLink "WideDecimalDesk$Register" (7 : Nat) "WideDecimalDesk$Register" "lowBits" "J") ∈ wsA := x_in1 32 rfl rfl
theorem kn_33 : (Jvm.Cond.fieldLinkNest "WideDecimalDesk" (84 : Nat) "WideDecimalDesk$Register" "lowBits" "J" "WideDecimalDesk") ∈ wsN := x_nn1 33 rfl rfl
theorem kn_34 : (Jvm.Cond.fieldLinkNest "WideDecimalDesk$Draft" (40 : Nat) "WideDecimalDesk$Register" "lowBits" "J" "WideDecimalDesk") ∈ wsN := x_nn1 34 rfl rfl
theorem kw_35 : (Jvm.Cond.fieldLink "WideDecimalDesk$Register" (13 : Nat) "WideDecimalDesk$Register" "highBits" "I") ∈ wsA := x_in1 35 rfl rfl
theorem kn_36 : (Jvm.Cond.fieldLinkNest "WideDecimalDesk$Draft" (44 : Nat) "WideDecimalDesk$Register" "highBits" "I" "WideDecimalDesk") ∈ wsN := x_nn1 36 rfl rfl
theorem kn_37 : (Jvm.Cond.fieldLinkNest "WideDecimalDesk" (88 : Nat) "WideDecimalDesk$Register" "highBits" "I" "WideDecimalDesk") ∈ wsN := x_nn1 37 rfl rfl
theorem kw_38 : (Jvm.Cond.fieldLink "WideDecimalDesk$Register" (17 : Nat) "WideDecimalDesk$Register" "scale" "I") ∈ wsA := x_in1 38 rfl rfl
theorem kn_39 : (Jvm.Cond.fieldLinkNest "WideDecimalDesk$Draft" (32 : Nat) "WideDecimalDesk$Register" "scale" "I" "WideDecimalDesk") ∈ wsN := x_nn1 39 rfl rfl
theorem kn_40 : (Jvm.Cond.fieldLinkNest "WideDecimalDesk" (92 : Nat) "WideDecimalDesk$Register" "scale" "I" "WideDecimalDesk") ∈ wsN := x_nn1 40 rfl rfl
theorem kw_41 : (Jvm.Cond.fieldLink "WideDecimalDesk$Register" (24 : Nat) "WideDecimalDesk$Register" "negative" "Z") ∈ wsA := x_in1 41 rfl rfl
theorem kn_42 : (Jvm.Cond.fieldLinkNest "WideDecimalDesk$Draft" (35 : Nat) "WideDecimalDesk$Register" "negative" "Z" "WideDecimalDesk") ∈ wsN := x_nn1 42 rfl rfl
theorem kn_43 : (Jvm.Cond.fieldLinkNest "WideDecimalDesk" (95 : Nat) "WideDecimalDesk$Register" "negative" "Z" "WideDecimalDesk") ∈ wsN := x_nn1 43 rfl rfl
theorem kw_44 : (Jvm.Cond.lays "WideDecimalDesk$Register" "WideDecimalDesk$Register" "lowBits" "J") ∈ wsA := x_in1 44 rfl rfl
theorem kw_46 : (Jvm.Cond.lays "WideDecimalDesk$Register" "WideDecimalDesk$Register" "highBits" "I") ∈ wsA := x_in1 46 rfl rfl
theorem kw_48 : (Jvm.Cond.lays "WideDecimalDesk$Register" "WideDecimalDesk$Register" "scale" "I") ∈ wsA := x_in1 48 rfl rfl
theorem kw_50 : (Jvm.Cond.lays "WideDecimalDesk$Register" "WideDecimalDesk$Register" "negative" "Z") ∈ wsA := x_in1 50 rfl rfl
theorem kw_53 : (Jvm.Cond.classLink "WideDecimalDesk" (16 : Nat) "WideDecimalDesk$Line") ∈ wsA := x_in1 53 rfl rfl
theorem kw_54 : (Jvm.Cond.instantiable "WideDecimalDesk$Line" (2 : Nat)) ∈ wsA := x_in1 54 rfl rfl
theorem kw_55 : (Jvm.Cond.methodLink "WideDecimalDesk" (18 : Nat) ({ cls := "WideDecimalDesk$Line", name := "<init>", desc := "(I)V" } : Jvm.MethodName)) ∈ wsA := x_in1 55 rfl rfl
theorem kw_56 : (Jvm.Cond.instanceMethod ({ cls := "WideDecimalDesk$Line", name := "<init>", desc := "(I)V" } : Jvm.MethodName)) ∈ wsA := x_in1 56 rfl rfl
theorem kw_57 : (Jvm.Cond.code ({ cls := "WideDecimalDesk$Line", name := "<init>", desc := "(I)V" } : Jvm.MethodName) prog_4_method_1_code (2 : Nat) (Option.none : Option Jvm.ClassFile.FieldType)) ∈ wsA := x_in1 57 rfl rfl
theorem kw_58 : (Jvm.Cond.methodLink "WideDecimalDesk$Line" (1 : Nat) ({ cls := "java/lang/Object", name := "<init>", desc := "()V" } : Jvm.MethodName)) ∈ wsA := x_in1 58 rfl rfl
theorem kw_59 : (Jvm.Cond.fieldLink "WideDecimalDesk$Line" (7 : Nat) "WideDecimalDesk$Line" "row" "[C") ∈ wsA := x_in1 59 rfl rfl
theorem kw_60 : (Jvm.Cond.fieldLink "WideDecimalDesk$Line" (13 : Nat) "WideDecimalDesk$Line" "length" "I") ∈ wsA := x_in1 60 rfl rfl
theorem kn_61 : (Jvm.Cond.fieldLinkNest "WideDecimalDesk$Pattern" (27 : Nat) "WideDecimalDesk$Line" "length" "I" "WideDecimalDesk") ∈ wsN := x_nn1 61 rfl rfl
theorem kn_62 : (Jvm.Cond.fieldLinkNest "WideDecimalDesk$Draft" (67 : Nat) "WideDecimalDesk$Line" "length" "I" "WideDecimalDesk") ∈ wsN := x_nn1 62 rfl rfl
theorem kn_63 : (Jvm.Cond.fieldLinkNest "WideDecimalDesk" (170 : Nat) "WideDecimalDesk$Line" "length" "I" "WideDecimalDesk") ∈ wsN := x_nn1 63 rfl rfl
theorem kw_64 : (Jvm.Cond.laysFinal "WideDecimalDesk$Line" "WideDecimalDesk$Line" "row" "[C") ∈ wsA := x_in1 64 rfl rfl
theorem kw_66 : (Jvm.Cond.lays "WideDecimalDesk$Line" "WideDecimalDesk$Line" "length" "I") ∈ wsA := x_in1 66 rfl rfl
theorem kw_69 : (Jvm.Cond.arrayClass Jvm.ClassFile.FieldType.char) ∈ wsA := x_in1 69 rfl rfl
theorem kw_70 : (Jvm.Cond.classLink "WideDecimalDesk" (28 : Nat) "WideDecimalDesk$Draft") ∈ wsA := x_in1 70 rfl rfl
theorem kw_71 : (Jvm.Cond.instantiable "WideDecimalDesk$Draft" (4 : Nat)) ∈ wsA := x_in1 71 rfl rfl
theorem kn_72 : (Jvm.Cond.methodLinkNest "WideDecimalDesk" (30 : Nat) ({ cls := "WideDecimalDesk$Draft", name := "<init>", desc := "()V" } : Jvm.MethodName) "WideDecimalDesk") ∈ wsN := x_nn1 72 rfl rfl
theorem kw_73 : (Jvm.Cond.instanceMethod ({ cls := "WideDecimalDesk$Draft", name := "<init>", desc := "()V" } : Jvm.MethodName)) ∈ wsA := x_in1 73 rfl rfl
theorem kw_74 : (Jvm.Cond.code ({ cls := "WideDecimalDesk$Draft", name := "<init>", desc := "()V" } : Jvm.MethodName) prog_3_method_1_code (1 : Nat) (Option.none : Option Jvm.ClassFile.FieldType)) ∈ wsA := x_in1 74 rfl rfl
theorem kw_75 : (Jvm.Cond.methodLink "WideDecimalDesk$Draft" (3 : Nat) ({ cls := "java/lang/Object", name := "<init>", desc := "()V" } : Jvm.MethodName)) ∈ wsA := x_in1 75 rfl rfl
theorem kw_76 : (Jvm.Cond.classLink "WideDecimalDesk$Draft" (9 : Nat) "WideDecimalDesk$Whole") ∈ wsA := x_in1 76 rfl rfl
theorem kw_77 : (Jvm.Cond.instantiable "WideDecimalDesk$Whole" (1 : Nat)) ∈ wsA := x_in1 77 rfl rfl
theorem kn_78 : (Jvm.Cond.methodLinkNest "WideDecimalDesk$Draft" (11 : Nat) ({ cls := "WideDecimalDesk$Whole", name := "<init>", desc := "()V" } : Jvm.MethodName) "WideDecimalDesk") ∈ wsN := x_nn1 78 rfl rfl
theorem kw_79 : (Jvm.Cond.instanceMethod ({ cls := "WideDecimalDesk$Whole", name := "<init>", desc := "()V" } : Jvm.MethodName)) ∈ wsA := x_in1 79 rfl rfl
theorem kw_80 : (Jvm.Cond.code ({ cls := "WideDecimalDesk$Whole", name := "<init>", desc := "()V" } : Jvm.MethodName) prog_8_method_1_code (1 : Nat) (Option.none : Option Jvm.ClassFile.FieldType)) ∈ wsA := x_in1 80 rfl rfl
theorem kw_81 : (Jvm.Cond.methodLink "WideDecimalDesk$Whole" (1 : Nat) ({ cls := "java/lang/Object", name := "<init>", desc := "()V" } : Jvm.MethodName)) ∈ wsA := x_in1 81 rfl rfl
theorem kw_82 : (Jvm.Cond.fieldLink "WideDecimalDesk$Whole" (9 : Nat) "WideDecimalDesk$Whole" "words" "[J") ∈ wsA := x_in1 82 rfl rfl
theorem kw_83 : (Jvm.Cond.laysFinal "WideDecimalDesk$Whole" "WideDecimalDesk$Whole" "words" "[J") ∈ wsA := x_in1 83 rfl rfl
theorem kw_86 : (Jvm.Cond.arrayClass Jvm.ClassFile.FieldType.long) ∈ wsA := x_in1 86 rfl rfl
theorem kw_87 : (Jvm.Cond.fieldLink "WideDecimalDesk$Draft" (12 : Nat) "WideDecimalDesk$Draft" "whole" "LWideDecimalDesk$Whole;") ∈ wsA := x_in1 87 rfl rfl
theorem kn_88 : (Jvm.Cond.fieldLinkNest "WideDecimalDesk" (213 : Nat) "WideDecimalDesk$Draft" "whole" "LWideDecimalDesk$Whole;" "WideDecimalDesk") ∈ wsN := x_nn1 88 rfl rfl
theorem kw_89 : (Jvm.Cond.fieldLink "WideDecimalDesk$Draft" (21 : Nat) "WideDecimalDesk$Draft" "scale" "I") ∈ wsA := x_in1 89 rfl rfl
theorem kn_90 : (Jvm.Cond.fieldLinkNest "WideDecimalDesk" (261 : Nat) "WideDecimalDesk$Draft" "scale" "I" "WideDecimalDesk") ∈ wsN := x_nn1 90 rfl rfl
theorem kw_91 : (Jvm.Cond.fieldLink "WideDecimalDesk$Draft" (25 : Nat) "WideDecimalDesk$Draft" "negative" "Z") ∈ wsA := x_in1 91 rfl rfl
theorem kn_92 : (Jvm.Cond.fieldLinkNest "WideDecimalDesk" (200 : Nat) "WideDecimalDesk$Draft" "negative" "Z" "WideDecimalDesk") ∈ wsN := x_nn1 92 rfl rfl
theorem kw_93 : (Jvm.Cond.fieldLink "WideDecimalDesk$Draft" (29 : Nat) "WideDecimalDesk$Draft" "cut" "I") ∈ wsA := x_in1 93 rfl rfl
theorem kw_94 : (Jvm.Cond.laysFinal "WideDecimalDesk$Draft" "WideDecimalDesk$Draft" "whole" "LWideDecimalDesk$Whole;") ∈ wsA := x_in1 94 rfl rfl
theorem kw_96 : (Jvm.Cond.lays "WideDecimalDesk$Draft" "WideDecimalDesk$Draft" "scale" "I") ∈ wsA := x_in1 96 rfl rfl
theorem kw_98 : (Jvm.Cond.lays "WideDecimalDesk$Draft" "WideDecimalDesk$Draft" "negative" "Z") ∈ wsA := x_in1 98 rfl rfl
theorem kw_100 : (Jvm.Cond.lays "WideDecimalDesk$Draft" "WideDecimalDesk$Draft" "cut" "I") ∈ wsA := x_in1 100 rfl rfl
theorem kw_103 : (Jvm.Cond.classLink "WideDecimalDesk" (38 : Nat) "WideDecimalDesk$Whole") ∈ wsA := x_in1 103 rfl rfl
theorem kn_104 : (Jvm.Cond.methodLinkNest "WideDecimalDesk" (40 : Nat) ({ cls := "WideDecimalDesk$Whole", name := "<init>", desc := "()V" } : Jvm.MethodName) "WideDecimalDesk") ∈ wsN := x_nn1 104 rfl rfl
theorem kw_105 : (Jvm.Cond.classLink "WideDecimalDesk" (45 : Nat) "WideDecimalDesk$LongDivision") ∈ wsA := x_in1 105 rfl rfl
theorem kw_106 : (Jvm.Cond.instantiable "WideDecimalDesk$LongDivision" (3 : Nat)) ∈ wsA := x_in1 106 rfl rfl
theorem kn_107 : (Jvm.Cond.methodLinkNest "WideDecimalDesk" (47 : Nat) ({ cls := "WideDecimalDesk$LongDivision", name := "<init>", desc := "()V" } : Jvm.MethodName) "WideDecimalDesk") ∈ wsN := x_nn1 107 rfl rfl
theorem kw_108 : (Jvm.Cond.instanceMethod ({ cls := "WideDecimalDesk$LongDivision", name := "<init>", desc := "()V" } : Jvm.MethodName)) ∈ wsA := x_in1 108 rfl rfl
theorem kw_109 : (Jvm.Cond.code ({ cls := "WideDecimalDesk$LongDivision", name := "<init>", desc := "()V" } : Jvm.MethodName) prog_5_method_1_code (1 : Nat) (Option.none : Option Jvm.ClassFile.FieldType)) ∈ wsA := x_in1 109 rfl rfl
theorem kw_110 : (Jvm.Cond.methodLink "WideDecimalDesk$LongDivision" (1 : Nat) ({ cls := "java/lang/Object", name := "<init>", desc := "()V" } : Jvm.MethodName)) ∈ wsA := x_in1 110 rfl rfl
theorem kw_111 : (Jvm.Cond.classLink "WideDecimalDesk$LongDivision" (7 : Nat) "WideDecimalDesk$Whole") ∈ wsA := x_in1 111 rfl rfl
theorem kn_112 : (Jvm.Cond.methodLinkNest "WideDecimalDesk$LongDivision" (9 : Nat) ({ cls := "WideDecimalDesk$Whole", name := "<init>", desc := "()V" } : Jvm.MethodName) "WideDecimalDesk") ∈ wsN := x_nn1 112 rfl rfl
theorem kw_113 : (Jvm.Cond.fieldLink "WideDecimalDesk$LongDivision" (10 : Nat) "WideDecimalDesk$LongDivision" "divisor" "LWideDecimalDesk$Whole;") ∈ wsA := x_in1 113 rfl rfl
theorem kn_114 : (Jvm.Cond.fieldLinkNest "WideDecimalDesk$Draft" (113 : Nat) "WideDecimalDesk$LongDivision" "divisor" "LWideDecimalDesk$Whole;" "WideDecimalDesk") ∈ wsN := x_nn1 114 rfl rfl
theorem kw_115 : (Jvm.Cond.fieldLink "WideDecimalDesk$LongDivision" (16 : Nat) "WideDecimalDesk$LongDivision" "quotient" "LWideDecimalDesk$Whole;") ∈ wsA := x_in1 115 rfl rfl
theorem kn_116 : (Jvm.Cond.fieldLinkNest "WideDecimalDesk$Draft" (99 : Nat) "WideDecimalDesk$LongDivision" "quotient" "LWideDecimalDesk$Whole;" "WideDecimalDesk") ∈ wsN := x_nn1 116 rfl rfl
theorem kw_117 : (Jvm.Cond.fieldLink "WideDecimalDesk$LongDivision" (19 : Nat) "WideDecimalDesk$LongDivision" "rest" "LWideDecimalDesk$Whole;") ∈ wsA := x_in1 117 rfl rfl
theorem kn_118 : (Jvm.Cond.fieldLinkNest "WideDecimalDesk$Draft" (107 : Nat) "WideDecimalDesk$LongDivision" "rest" "LWideDecimalDesk$Whole;" "WideDecimalDesk") ∈ wsN := x_nn1 118 rfl rfl
theorem kn_119 : (Jvm.Cond.fieldLinkNest "WideDecimalDesk" (242 : Nat) "WideDecimalDesk$LongDivision" "rest" "LWideDecimalDesk$Whole;" "WideDecimalDesk") ∈ wsN := x_nn1 119 rfl rfl
theorem kw_120 : (Jvm.Cond.laysFinal "WideDecimalDesk$LongDivision" "WideDecimalDesk$LongDivision" "divisor" "LWideDecimalDesk$Whole;") ∈ wsA := x_in1 120 rfl rfl
theorem kw_122 : (Jvm.Cond.laysFinal "WideDecimalDesk$LongDivision" "WideDecimalDesk$LongDivision" "quotient" "LWideDecimalDesk$Whole;") ∈ wsA := x_in1 122 rfl rfl
theorem kw_124 : (Jvm.Cond.laysFinal "WideDecimalDesk$LongDivision" "WideDecimalDesk$LongDivision" "rest" "LWideDecimalDesk$Whole;") ∈ wsA := x_in1 124 rfl rfl
theorem kw_127 : (Jvm.Cond.classLink "WideDecimalDesk" (52 : Nat) "WideDecimalDesk$Digits") ∈ wsA := x_in1 127 rfl rfl
theorem kw_128 : (Jvm.Cond.instantiable "WideDecimalDesk$Digits" (2 : Nat)) ∈ wsA := x_in1 128 rfl rfl
theorem kn_129 : (Jvm.Cond.methodLinkNest "WideDecimalDesk" (54 : Nat) ({ cls := "WideDecimalDesk$Digits", name := "<init>", desc := "()V" } : Jvm.MethodName) "WideDecimalDesk") ∈ wsN := x_nn1 129 rfl rfl
theorem kw_130 : (Jvm.Cond.instanceMethod ({ cls := "WideDecimalDesk$Digits", name := "<init>", desc := "()V" } : Jvm.MethodName)) ∈ wsA := x_in1 130 rfl rfl
theorem kw_131 : (Jvm.Cond.code ({ cls := "WideDecimalDesk$Digits", name := "<init>", desc := "()V" } : Jvm.MethodName) prog_2_method_1_code (1 : Nat) (Option.none : Option Jvm.ClassFile.FieldType)) ∈ wsA := x_in1 131 rfl rfl
theorem kw_132 : (Jvm.Cond.methodLink "WideDecimalDesk$Digits" (1 : Nat) ({ cls := "java/lang/Object", name := "<init>", desc := "()V" } : Jvm.MethodName)) ∈ wsA := x_in1 132 rfl rfl
theorem kw_133 : (Jvm.Cond.fieldLink "WideDecimalDesk$Digits" (9 : Nat) "WideDecimalDesk$Digits" "row" "[B") ∈ wsA := x_in1 133 rfl rfl
theorem kw_134 : (Jvm.Cond.fieldLink "WideDecimalDesk$Digits" (13 : Nat) "WideDecimalDesk$Digits" "count" "I") ∈ wsA := x_in1 134 rfl rfl
theorem kn_135 : (Jvm.Cond.fieldLinkNest "WideDecimalDesk$LongDivision" (29 : Nat) "WideDecimalDesk$Digits" "count" "I" "WideDecimalDesk") ∈ wsN := x_nn1 135 rfl rfl
theorem kn_136 : (Jvm.Cond.fieldLinkNest "WideDecimalDesk" (262 : Nat) "WideDecimalDesk$Digits" "count" "I" "WideDecimalDesk") ∈ wsN := x_nn1 136 rfl rfl
theorem kw_137 : (Jvm.Cond.laysFinal "WideDecimalDesk$Digits" "WideDecimalDesk$Digits" "row" "[B") ∈ wsA := x_in1 137 rfl rfl
theorem kw_139 : (Jvm.Cond.lays "WideDecimalDesk$Digits" "WideDecimalDesk$Digits" "count" "I") ∈ wsA := x_in1 139 rfl rfl
theorem kw_142 : (Jvm.Cond.arrayClass Jvm.ClassFile.FieldType.byte) ∈ wsA := x_in1 142 rfl rfl
theorem kw_143 : (Jvm.Cond.classLink "WideDecimalDesk" (59 : Nat) "WideDecimalDesk$Pattern") ∈ wsA := x_in1 143 rfl rfl
theorem kw_144 : (Jvm.Cond.instantiable "WideDecimalDesk$Pattern" (6 : Nat)) ∈ wsA := x_in1 144 rfl rfl
theorem kn_145 : (Jvm.Cond.methodLinkNest "WideDecimalDesk" (61 : Nat) ({ cls := "WideDecimalDesk$Pattern", name := "<init>", desc := "()V" } : Jvm.MethodName) "WideDecimalDesk") ∈ wsN := x_nn1 145 rfl rfl
theorem kw_146 : (Jvm.Cond.instanceMethod ({ cls := "WideDecimalDesk$Pattern", name := "<init>", desc := "()V" } : Jvm.MethodName)) ∈ wsA := x_in1 146 rfl rfl
theorem kw_147 : (Jvm.Cond.code ({ cls := "WideDecimalDesk$Pattern", name := "<init>", desc := "()V" } : Jvm.MethodName) prog_6_method_1_code (1 : Nat) (Option.none : Option Jvm.ClassFile.FieldType)) ∈ wsA := x_in1 147 rfl rfl
theorem kw_148 : (Jvm.Cond.methodLink "WideDecimalDesk$Pattern" (1 : Nat) ({ cls := "java/lang/Object", name := "<init>", desc := "()V" } : Jvm.MethodName)) ∈ wsA := x_in1 148 rfl rfl
theorem kw_149 : (Jvm.Cond.fieldLink "WideDecimalDesk$Pattern" (31 : Nat) "WideDecimalDesk$Pattern" "frontHasPlace" "Z") ∈ wsA := x_in1 149 rfl rfl
theorem kw_150 : (Jvm.Cond.fieldLink "WideDecimalDesk$Pattern" (37 : Nat) "WideDecimalDesk$Pattern" "leastBefore" "I") ∈ wsA := x_in1 150 rfl rfl
theorem kn_151 : (Jvm.Cond.fieldLinkNest "WideDecimalDesk" (281 : Nat) "WideDecimalDesk$Pattern" "leastBefore" "I" "WideDecimalDesk") ∈ wsN := x_nn1 151 rfl rfl
theorem kw_152 : (Jvm.Cond.fieldLink "WideDecimalDesk$Pattern" (40 : Nat) "WideDecimalDesk$Pattern" "grouped" "Z") ∈ wsA := x_in1 152 rfl rfl
theorem kn_153 : (Jvm.Cond.fieldLinkNest "WideDecimalDesk" (284 : Nat) "WideDecimalDesk$Pattern" "grouped" "Z" "WideDecimalDesk") ∈ wsN := x_nn1 153 rfl rfl
theorem kw_154 : (Jvm.Cond.fieldLink "WideDecimalDesk$Pattern" (34 : Nat) "WideDecimalDesk$Pattern" "backPlaces" "I") ∈ wsA := x_in1 154 rfl rfl
theorem kn_155 : (Jvm.Cond.fieldLinkNest "WideDecimalDesk" (278 : Nat) "WideDecimalDesk$Pattern" "backPlaces" "I" "WideDecimalDesk") ∈ wsN := x_nn1 155 rfl rfl
theorem kw_156 : (Jvm.Cond.fieldLink "WideDecimalDesk$Pattern" (47 : Nat) "WideDecimalDesk$Pattern" "leastBehind" "I") ∈ wsA := x_in1 156 rfl rfl
theorem kn_157 : (Jvm.Cond.fieldLinkNest "WideDecimalDesk" (295 : Nat) "WideDecimalDesk$Pattern" "leastBehind" "I" "WideDecimalDesk") ∈ wsN := x_nn1 157 rfl rfl
theorem kw_158 : (Jvm.Cond.fieldLink "WideDecimalDesk$Pattern" (23 : Nat) "WideDecimalDesk$Pattern" "percent" "Z") ∈ wsA := x_in1 158 rfl rfl
theorem kn_159 : (Jvm.Cond.fieldLinkNest "WideDecimalDesk" (272 : Nat) "WideDecimalDesk$Pattern" "percent" "Z" "WideDecimalDesk") ∈ wsN := x_nn1 159 rfl rfl
theorem kw_160 : (Jvm.Cond.lays "WideDecimalDesk$Pattern" "WideDecimalDesk$Pattern" "frontHasPlace" "Z") ∈ wsA := x_in1 160 rfl rfl
theorem kw_162 : (Jvm.Cond.lays "WideDecimalDesk$Pattern" "WideDecimalDesk$Pattern" "leastBefore" "I") ∈ wsA := x_in1 162 rfl rfl
theorem kw_164 : (Jvm.Cond.lays "WideDecimalDesk$Pattern" "WideDecimalDesk$Pattern" "grouped" "Z") ∈ wsA := x_in1 164 rfl rfl
theorem kw_166 : (Jvm.Cond.lays "WideDecimalDesk$Pattern" "WideDecimalDesk$Pattern" "backPlaces" "I") ∈ wsA := x_in1 166 rfl rfl
theorem kw_168 : (Jvm.Cond.lays "WideDecimalDesk$Pattern" "WideDecimalDesk$Pattern" "leastBehind" "I") ∈ wsA := x_in1 168 rfl rfl
theorem kw_170 : (Jvm.Cond.lays "WideDecimalDesk$Pattern" "WideDecimalDesk$Pattern" "percent" "Z") ∈ wsA := x_in1 170 rfl rfl
theorem kw_173 : (Jvm.Cond.fieldLink "WideDecimalDesk" (11 : Nat) "WideDecimalDesk" "registers" "[LWideDecimalDesk$Register;") ∈ wsA := x_in1 173 rfl rfl
theorem kw_174 : (Jvm.Cond.fieldLink "WideDecimalDesk" (21 : Nat) "WideDecimalDesk" "text" "LWideDecimalDesk$Line;") ∈ wsA := x_in1 174 rfl rfl
theorem kw_175 : (Jvm.Cond.fieldLink "WideDecimalDesk" (25 : Nat) "WideDecimalDesk" "output" "LWideDecimalDesk$Line;") ∈ wsA := x_in1 175 rfl rfl
theorem kw_176 : (Jvm.Cond.fieldLink "WideDecimalDesk" (31 : Nat) "WideDecimalDesk" "left" "LWideDecimalDesk$Draft;") ∈ wsA := x_in1 176 rfl rfl
theorem kw_177 : (Jvm.Cond.fieldLink "WideDecimalDesk" (35 : Nat) "WideDecimalDesk" "right" "LWideDecimalDesk$Draft;") ∈ wsA := x_in1 177 rfl rfl
theorem kw_178 : (Jvm.Cond.fieldLink "WideDecimalDesk" (41 : Nat) "WideDecimalDesk" "factor" "LWideDecimalDesk$Whole;") ∈ wsA := x_in1 178 rfl rfl
theorem kw_179 : (Jvm.Cond.fieldLink "WideDecimalDesk" (48 : Nat) "WideDecimalDesk" "division" "LWideDecimalDesk$LongDivision;") ∈ wsA := x_in1 179 rfl rfl
theorem kw_180 : (Jvm.Cond.fieldLink "WideDecimalDesk" (55 : Nat) "WideDecimalDesk" "figures" "LWideDecimalDesk$Digits;") ∈ wsA := x_in1 180 rfl rfl
theorem kw_181 : (Jvm.Cond.fieldLink "WideDecimalDesk" (62 : Nat) "WideDecimalDesk" "pattern" "LWideDecimalDesk$Pattern;") ∈ wsA := x_in1 181 rfl rfl
theorem kw_182 : (Jvm.Cond.laysFinal "WideDecimalDesk" "WideDecimalDesk" "registers" "[LWideDecimalDesk$Register;") ∈ wsA := x_in1 182 rfl rfl
theorem kw_184 : (Jvm.Cond.laysFinal "WideDecimalDesk" "WideDecimalDesk" "text" "LWideDecimalDesk$Line;") ∈ wsA := x_in1 184 rfl rfl
theorem kw_186 : (Jvm.Cond.laysFinal "WideDecimalDesk" "WideDecimalDesk" "output" "LWideDecimalDesk$Line;") ∈ wsA := x_in1 186 rfl rfl
theorem kw_188 : (Jvm.Cond.laysFinal "WideDecimalDesk" "WideDecimalDesk" "left" "LWideDecimalDesk$Draft;") ∈ wsA := x_in1 188 rfl rfl
theorem kw_190 : (Jvm.Cond.laysFinal "WideDecimalDesk" "WideDecimalDesk" "right" "LWideDecimalDesk$Draft;") ∈ wsA := x_in1 190 rfl rfl
theorem kw_192 : (Jvm.Cond.laysFinal "WideDecimalDesk" "WideDecimalDesk" "factor" "LWideDecimalDesk$Whole;") ∈ wsA := x_in1 192 rfl rfl
theorem kw_194 : (Jvm.Cond.laysFinal "WideDecimalDesk" "WideDecimalDesk" "division" "LWideDecimalDesk$LongDivision;") ∈ wsA := x_in1 194 rfl rfl
theorem kw_196 : (Jvm.Cond.laysFinal "WideDecimalDesk" "WideDecimalDesk" "figures" "LWideDecimalDesk$Digits;") ∈ wsA := x_in1 196 rfl rfl
theorem kw_198 : (Jvm.Cond.laysFinal "WideDecimalDesk" "WideDecimalDesk" "pattern" "LWideDecimalDesk$Pattern;") ∈ wsA := x_in1 198 rfl rfl
theorem kw_201 : (Jvm.Cond.methodLink "WideDecimalDeskLaw" (61 : Nat) ({ cls := "WideDecimalDesk", name := "low", desc := "(I)J" } : Jvm.MethodName)) ∈ wsA := x_in1 201 rfl rfl
theorem kw_202 : (Jvm.Cond.instanceMethod ({ cls := "WideDecimalDesk", name := "low", desc := "(I)J" } : Jvm.MethodName)) ∈ wsA := x_in1 202 rfl rfl
theorem kw_203 : (Jvm.Cond.selects "WideDecimalDesk" ({ cls := "WideDecimalDesk", name := "low", desc := "(I)J" } : Jvm.MethodName) ({ cls := "WideDecimalDesk", name := "low", desc := "(I)J" } : Jvm.MethodName)) ∈ wsA := x_in1 203 rfl rfl
theorem kw_204 : (Jvm.Cond.code ({ cls := "WideDecimalDesk", name := "low", desc := "(I)J" } : Jvm.MethodName) prog_1_method_3_code (2 : Nat) (Option.some Jvm.ClassFile.FieldType.long)) ∈ wsA := x_in1 204 rfl rfl
theorem kw_205 : (Jvm.Cond.methodLink "WideDecimalDesk" (66 : Nat) ({ cls := "WideDecimalDesk", name := "isRegister", desc := "(I)Z" } : Jvm.MethodName)) ∈ wsA := x_in1 205 rfl rfl
theorem kw_206 : (Jvm.Cond.static ({ cls := "WideDecimalDesk", name := "isRegister", desc := "(I)Z" } : Jvm.MethodName)) ∈ wsA := x_in1 206 rfl rfl
theorem kw_207 : (Jvm.Cond.code ({ cls := "WideDecimalDesk", name := "isRegister", desc := "(I)Z" } : Jvm.MethodName) prog_1_method_19_code (1 : Nat) (Option.some Jvm.ClassFile.FieldType.boolean)) ∈ wsA := x_in1 207 rfl rfl
theorem kw_208 : (Jvm.Cond.methodLink "WideDecimalDeskLaw" (66 : Nat) ({ cls := "WideDecimalDesk", name := "high", desc := "(I)I" } : Jvm.MethodName)) ∈ wsA := x_in1 208 rfl rfl
theorem kw_209 : (Jvm.Cond.instanceMethod ({ cls := "WideDecimalDesk", name := "high", desc := "(I)I" } : Jvm.MethodName)) ∈ wsA := x_in1 209 rfl rfl
theorem kw_210 : (Jvm.Cond.selects "WideDecimalDesk" ({ cls := "WideDecimalDesk", name := "high", desc := "(I)I" } : Jvm.MethodName) ({ cls := "WideDecimalDesk", name := "high", desc := "(I)I" } : Jvm.MethodName)) ∈ wsA := x_in1 210 rfl rfl
theorem kw_211 : (Jvm.Cond.code ({ cls := "WideDecimalDesk", name := "high", desc := "(I)I" } : Jvm.MethodName) prog_1_method_4_code (2 : Nat) (Option.some Jvm.ClassFile.FieldType.int)) ∈ wsA := x_in1 211 rfl rfl
theorem kw_212 : (Jvm.Cond.methodLink "WideDecimalDeskLaw" (70 : Nat) ({ cls := "WideDecimalDesk", name := "scale", desc := "(I)I" } : Jvm.MethodName)) ∈ wsA := x_in1 212 rfl rfl
theorem kw_213 : (Jvm.Cond.instanceMethod ({ cls := "WideDecimalDesk", name := "scale", desc := "(I)I" } : Jvm.MethodName)) ∈ wsA := x_in1 213 rfl rfl
theorem kw_214 : (Jvm.Cond.selects "WideDecimalDesk" ({ cls := "WideDecimalDesk", name := "scale", desc := "(I)I" } : Jvm.MethodName) ({ cls := "WideDecimalDesk", name := "scale", desc := "(I)I" } : Jvm.MethodName)) ∈ wsA := x_in1 214 rfl rfl
theorem kw_215 : (Jvm.Cond.code ({ cls := "WideDecimalDesk", name := "scale", desc := "(I)I" } : Jvm.MethodName) prog_1_method_5_code (2 : Nat) (Option.some Jvm.ClassFile.FieldType.int)) ∈ wsA := x_in1 215 rfl rfl
theorem kw_216 : (Jvm.Cond.methodLink "WideDecimalDeskLaw" (74 : Nat) ({ cls := "WideDecimalDesk", name := "negative", desc := "(I)Z" } : Jvm.MethodName)) ∈ wsA := x_in1 216 rfl rfl
theorem kw_217 : (Jvm.Cond.instanceMethod ({ cls := "WideDecimalDesk", name := "negative", desc := "(I)Z" } : Jvm.MethodName)) ∈ wsA := x_in1 217 rfl rfl
theorem kw_218 : (Jvm.Cond.selects "WideDecimalDesk" ({ cls := "WideDecimalDesk", name := "negative", desc := "(I)Z" } : Jvm.MethodName) ({ cls := "WideDecimalDesk", name := "negative", desc := "(I)Z" } : Jvm.MethodName)) ∈ wsA := x_in1 218 rfl rfl
theorem kw_219 : (Jvm.Cond.code ({ cls := "WideDecimalDesk", name := "negative", desc := "(I)Z" } : Jvm.MethodName) prog_1_method_6_code (2 : Nat) (Option.some Jvm.ClassFile.FieldType.boolean)) ∈ wsA := x_in1 219 rfl rfl
theorem kw_220 : (Jvm.Cond.methodLink "WideDecimalDeskLaw" (83 : Nat) ({ cls := "WideDecimalDesk", name := "attempt", desc := "(IIII)Z" } : Jvm.MethodName)) ∈ wsA := x_in1 220 rfl rfl
theorem kw_221 : (Jvm.Cond.instanceMethod ({ cls := "WideDecimalDesk", name := "attempt", desc := "(IIII)Z" } : Jvm.MethodName)) ∈ wsA := x_in1 221 rfl rfl
theorem kw_222 : (Jvm.Cond.selects "WideDecimalDesk" ({ cls := "WideDecimalDesk", name := "attempt", desc := "(IIII)Z" } : Jvm.MethodName) ({ cls := "WideDecimalDesk", name := "attempt", desc := "(IIII)Z" } : Jvm.MethodName)) ∈ wsA := x_in1 222 rfl rfl
theorem kw_223 : (Jvm.Cond.code ({ cls := "WideDecimalDesk", name := "attempt", desc := "(IIII)Z" } : Jvm.MethodName) prog_1_method_8_code (5 : Nat) (Option.some Jvm.ClassFile.FieldType.boolean)) ∈ wsA := x_in1 223 rfl rfl
theorem kw_224 : (Jvm.Cond.methodLink "WideDecimalDesk" (99 : Nat) ({ cls := "WideDecimalDesk", name := "isOrder", desc := "(IIII)Z" } : Jvm.MethodName)) ∈ wsA := x_in1 224 rfl rfl
theorem kw_225 : (Jvm.Cond.static ({ cls := "WideDecimalDesk", name := "isOrder", desc := "(IIII)Z" } : Jvm.MethodName)) ∈ wsA := x_in1 225 rfl rfl
theorem kw_226 : (Jvm.Cond.code ({ cls := "WideDecimalDesk", name := "isOrder", desc := "(IIII)Z" } : Jvm.MethodName) prog_1_method_22_code (4 : Nat) (Option.some Jvm.ClassFile.FieldType.boolean)) ∈ wsA := x_in1 226 rfl rfl
theorem kw_227 : (Jvm.Cond.methodLink "WideDecimalDesk" (105 : Nat) ({ cls := "WideDecimalDesk", name := "carryOut", desc := "(ILWideDecimalDesk$Register;LWideDecimalDesk$Register;)Z" } : Jvm.MethodName)) ∈ wsA := x_in1 227 rfl rfl
theorem kw_229 : (Jvm.Cond.instanceMethod ({ cls := "WideDecimalDesk", name := "carryOut", desc := "(ILWideDecimalDesk$Register;LWideDecimalDesk$Register;)Z" } : Jvm.MethodName)) ∈ wsA := x_in1 229 rfl rfl
theorem kw_230 : (Jvm.Cond.code ({ cls := "WideDecimalDesk", name := "carryOut", desc := "(ILWideDecimalDesk$Register;LWideDecimalDesk$Register;)Z" } : Jvm.MethodName) prog_1_method_23_code (4 : Nat) (Option.some Jvm.ClassFile.FieldType.boolean)) ∈ wsA := x_in1 230 rfl rfl
theorem kw_231 : (Jvm.Cond.methodLink "WideDecimalDesk" (183 : Nat) ({ cls := "WideDecimalDesk", name := "addUp", desc := "(LWideDecimalDesk$Register;LWideDecimalDesk$Register;Z)Z" } : Jvm.MethodName)) ∈ wsA := x_in1 231 rfl rfl
theorem kw_233 : (Jvm.Cond.instanceMethod ({ cls := "WideDecimalDesk", name := "addUp", desc := "(LWideDecimalDesk$Register;LWideDecimalDesk$Register;Z)Z" } : Jvm.MethodName)) ∈ wsA := x_in1 233 rfl rfl
theorem kw_234 : (Jvm.Cond.code ({ cls := "WideDecimalDesk", name := "addUp", desc := "(LWideDecimalDesk$Register;LWideDecimalDesk$Register;Z)Z" } : Jvm.MethodName) prog_1_method_24_code (4 : Nat) (Option.some Jvm.ClassFile.FieldType.boolean)) ∈ wsA := x_in1 234 rfl rfl
theorem kw_235 : (Jvm.Cond.methodLink "WideDecimalDesk" (135 : Nat) ({ cls := "WideDecimalDesk", name := "loadAlike", desc := "(LWideDecimalDesk$Register;LWideDecimalDesk$Register;)V" } : Jvm.MethodName)) ∈ wsA := x_in1 235 rfl rfl
theorem kw_237 : (Jvm.Cond.instanceMethod ({ cls := "WideDecimalDesk", name := "loadAlike", desc := "(LWideDecimalDesk$Register;LWideDecimalDesk$Register;)V" } : Jvm.MethodName)) ∈ wsA := x_in1 237 rfl rfl
theorem kw_238 : (Jvm.Cond.code ({ cls := "WideDecimalDesk", name := "loadAlike", desc := "(LWideDecimalDesk$Register;LWideDecimalDesk$Register;)V" } : Jvm.MethodName) prog_1_method_29_code (3 : Nat) (Option.none : Option Jvm.ClassFile.FieldType)) ∈ wsA := x_in1 238 rfl rfl
theorem kw_239 : (Jvm.Cond.methodLink "WideDecimalDesk" (123 : Nat) ({ cls := "WideDecimalDesk$Draft", name := "load", desc := "(LWideDecimalDesk$Register;)V" } : Jvm.MethodName)) ∈ wsA := x_in1 239 rfl rfl
theorem kw_240 : (Jvm.Cond.instanceMethod ({ cls := "WideDecimalDesk$Draft", name := "load", desc := "(LWideDecimalDesk$Register;)V" } : Jvm.MethodName)) ∈ wsA := x_in2 0 rfl rfl
theorem kw_241 : (Jvm.Cond.selects "WideDecimalDesk$Draft" ({ cls := "WideDecimalDesk$Draft", name := "load", desc := "(LWideDecimalDesk$Register;)V" } : Jvm.MethodName) ({ cls := "WideDecimalDesk$Draft", name := "load", desc := "(LWideDecimalDesk$Register;)V" } : Jvm.MethodName)) ∈ wsA := x_in2 1 rfl rfl
theorem kw_242 : (Jvm.Cond.code ({ cls := "WideDecimalDesk$Draft", name := "load", desc := "(LWideDecimalDesk$Register;)V" } : Jvm.MethodName) prog_3_method_3_code (2 : Nat) (Option.none : Option Jvm.ClassFile.FieldType)) ∈ wsA := x_in2 2 rfl rfl
theorem kw_243 : (Jvm.Cond.methodLink "WideDecimalDesk$Draft" (36 : Nat) ({ cls := "WideDecimalDesk$Draft", name := "begin", desc := "(IZ)V" } : Jvm.MethodName)) ∈ wsA := x_in2 3 rfl rfl
theorem kw_244 : (Jvm.Cond.instanceMethod ({ cls := "WideDecimalDesk$Draft", name := "begin", desc := "(IZ)V" } : Jvm.MethodName)) ∈ wsA := x_in2 4 rfl rfl
theorem kw_245 : (Jvm.Cond.selects "WideDecimalDesk$Draft" ({ cls := "WideDecimalDesk$Draft", name := "begin", desc := "(IZ)V" } : Jvm.MethodName) ({ cls := "WideDecimalDesk$Draft", name := "begin", desc := "(IZ)V" } : Jvm.MethodName)) ∈ wsA := x_in2 5 rfl rfl
theorem kw_246 : (Jvm.Cond.code ({ cls := "WideDecimalDesk$Draft", name := "begin", desc := "(IZ)V" } : Jvm.MethodName) prog_3_method_2_code (3 : Nat) (Option.none : Option Jvm.ClassFile.FieldType)) ∈ wsA := x_in2 6 rfl rfl
theorem kw_247 : (Jvm.Cond.methodLink "WideDecimalDesk$Draft" (18 : Nat) ({ cls := "WideDecimalDesk$Whole", name := "becomeZero", desc := "()V" } : Jvm.MethodName)) ∈ wsA := x_in2 7 rfl rfl
theorem kw_248 : (Jvm.Cond.instanceMethod ({ cls := "WideDecimalDesk$Whole", name := "becomeZero", desc := "()V" } : Jvm.MethodName)) ∈ wsA := x_in2 8 rfl rfl
theorem kw_249 : (Jvm.Cond.selects "WideDecimalDesk$Whole" ({ cls := "WideDecimalDesk$Whole", name := "becomeZero", desc := "()V" } : Jvm.MethodName) ({ cls := "WideDecimalDesk$Whole", name := "becomeZero", desc := "()V" } : Jvm.MethodName)) ∈ wsA := x_in2 9 rfl rfl
theorem kw_250 : (Jvm.Cond.code ({ cls := "WideDecimalDesk$Whole", name := "becomeZero", desc := "()V" } : Jvm.MethodName) prog_8_method_2_code (2 : Nat) (Option.none : Option Jvm.ClassFile.FieldType)) ∈ wsA := x_in2 10 rfl rfl
theorem kw_251 : (Jvm.Cond.methodLink "WideDecimalDesk$Draft" (47 : Nat) ({ cls := "WideDecimalDesk$Whole", name := "takeBits", desc := "(JI)V" } : Jvm.MethodName)) ∈ wsA := x_in2 11 rfl rfl
theorem kw_252 : (Jvm.Cond.instanceMethod ({ cls := "WideDecimalDesk$Whole", name := "takeBits", desc := "(JI)V" } : Jvm.MethodName)) ∈ wsA := x_in2 12 rfl rfl
theorem kw_253 : (Jvm.Cond.selects "WideDecimalDesk$Whole" ({ cls := "WideDecimalDesk$Whole", name := "takeBits", desc := "(JI)V" } : Jvm.MethodName) ({ cls := "WideDecimalDesk$Whole", name := "takeBits", desc := "(JI)V" } : Jvm.MethodName)) ∈ wsA := x_in2 13 rfl rfl
theorem kw_254 : (Jvm.Cond.code ({ cls := "WideDecimalDesk$Whole", name := "takeBits", desc := "(JI)V" } : Jvm.MethodName) prog_8_method_4_code (4 : Nat) (Option.none : Option Jvm.ClassFile.FieldType)) ∈ wsA := x_in2 14 rfl rfl
theorem kw_255 : (Jvm.Cond.methodLink "WideDecimalDesk$Whole" (13 : Nat) ({ cls := "WideDecimalDesk$Whole", name := "becomeZero", desc := "()V" } : Jvm.MethodName)) ∈ wsA := x_in2 15 rfl rfl
theorem kw_256 : (Jvm.Cond.constantLong "WideDecimalDesk$Whole" (16 : Nat) (4294967295 : Int64)) ∈ wsA := x_in2 16 rfl rfl
theorem kw_257 : (Jvm.Cond.methodLink "WideDecimalDesk" (233 : Nat) ({ cls := "WideDecimalDesk$Draft", name := "lengthenTo", desc := "(I)V" } : Jvm.MethodName)) ∈ wsA := x_in2 17 rfl rfl
theorem kw_258 : (Jvm.Cond.instanceMethod ({ cls := "WideDecimalDesk$Draft", name := "lengthenTo", desc := "(I)V" } : Jvm.MethodName)) ∈ wsA := x_in2 18 rfl rfl
theorem kw_259 : (Jvm.Cond.selects "WideDecimalDesk$Draft" ({ cls := "WideDecimalDesk$Draft", name := "lengthenTo", desc := "(I)V" } : Jvm.MethodName) ({ cls := "WideDecimalDesk$Draft", name := "lengthenTo", desc := "(I)V" } : Jvm.MethodName)) ∈ wsA := x_in2 19 rfl rfl
theorem kw_260 : (Jvm.Cond.code ({ cls := "WideDecimalDesk$Draft", name := "lengthenTo", desc := "(I)V" } : Jvm.MethodName) prog_3_method_6_code (2 : Nat) (Option.none : Option Jvm.ClassFile.FieldType)) ∈ wsA := x_in2 20 rfl rfl
theorem kw_261 : (Jvm.Cond.methodLink "WideDecimalDesk$Draft" (70 : Nat) ({ cls := "WideDecimalDesk$Whole", name := "appendDigit", desc := "(I)V" } : Jvm.MethodName)) ∈ wsA := x_in2 21 rfl rfl
theorem kw_262 : (Jvm.Cond.instanceMethod ({ cls := "WideDecimalDesk$Whole", name := "appendDigit", desc := "(I)V" } : Jvm.MethodName)) ∈ wsA := x_in2 22 rfl rfl
theorem kw_263 : (Jvm.Cond.selects "WideDecimalDesk$Whole" ({ cls := "WideDecimalDesk$Whole", name := "appendDigit", desc := "(I)V" } : Jvm.MethodName) ({ cls := "WideDecimalDesk$Whole", name := "appendDigit", desc := "(I)V" } : Jvm.MethodName)) ∈ wsA := x_in2 23 rfl rfl
theorem kw_264 : (Jvm.Cond.code ({ cls := "WideDecimalDesk$Whole", name := "appendDigit", desc := "(I)V" } : Jvm.MethodName) prog_8_method_16_code (7 : Nat) (Option.none : Option Jvm.ClassFile.FieldType)) ∈ wsA := x_in2 24 rfl rfl
theorem kw_265 : (Jvm.Cond.constantLong "WideDecimalDesk$Whole" (22 : Nat) (10 : Int64)) ∈ wsA := x_in2 25 rfl rfl
theorem kw_266 : (Jvm.Cond.methodLink "WideDecimalDesk" (201 : Nat) ({ cls := "WideDecimalDesk$Draft", name := "add", desc := "(LWideDecimalDesk$Draft;)V" } : Jvm.MethodName)) ∈ wsA := x_in2 26 rfl rfl
theorem kw_267 : (Jvm.Cond.instanceMethod ({ cls := "WideDecimalDesk$Draft", name := "add", desc := "(LWideDecimalDesk$Draft;)V" } : Jvm.MethodName)) ∈ wsA := x_in2 27 rfl rfl
theorem kw_268 : (Jvm.Cond.selects "WideDecimalDesk$Draft" ({ cls := "WideDecimalDesk$Draft", name := "add", desc := "(LWideDecimalDesk$Draft;)V" } : Jvm.MethodName) ({ cls := "WideDecimalDesk$Draft", name := "add", desc := "(LWideDecimalDesk$Draft;)V" } : Jvm.MethodName)) ∈ wsA := x_in2 28 rfl rfl
theorem kw_269 : (Jvm.Cond.code ({ cls := "WideDecimalDesk$Draft", name := "add", desc := "(LWideDecimalDesk$Draft;)V" } : Jvm.MethodName) prog_3_method_9_code (2 : Nat) (Option.none : Option Jvm.ClassFile.FieldType)) ∈ wsA := x_in2 29 rfl rfl
theorem kw_270 : (Jvm.Cond.methodLink "WideDecimalDesk$Draft" (78 : Nat) ({ cls := "WideDecimalDesk$Whole", name := "add", desc := "(LWideDecimalDesk$Whole;)V" } : Jvm.MethodName)) ∈ wsA := x_in2 30 rfl rfl
theorem kw_271 : (Jvm.Cond.instanceMethod ({ cls := "WideDecimalDesk$Whole", name := "add", desc := "(LWideDecimalDesk$Whole;)V" } : Jvm.MethodName)) ∈ wsA := x_in2 31 rfl rfl
theorem kw_272 : (Jvm.Cond.selects "WideDecimalDesk$Whole" ({ cls := "WideDecimalDesk$Whole", name := "add", desc := "(LWideDecimalDesk$Whole;)V" } : Jvm.MethodName) ({ cls := "WideDecimalDesk$Whole", name := "add", desc := "(LWideDecimalDesk$Whole;)V" } : Jvm.MethodName)) ∈ wsA := x_in2 32 rfl rfl
theorem kw_273 : (Jvm.Cond.code ({ cls := "WideDecimalDesk$Whole", name := "add", desc := "(LWideDecimalDesk$Whole;)V" } : Jvm.MethodName) prog_8_method_12_code (7 : Nat) (Option.none : Option Jvm.ClassFile.FieldType)) ∈ wsA := x_in2 33 rfl rfl
theorem kw_274 : (Jvm.Cond.methodLink "WideDecimalDesk$Draft" (74 : Nat) ({ cls := "WideDecimalDesk$Whole", name := "against", desc := "(LWideDecimalDesk$Whole;)I" } : Jvm.MethodName)) ∈ wsA := x_in2 34 rfl rfl
theorem kw_275 : (Jvm.Cond.instanceMethod ({ cls := "WideDecimalDesk$Whole", name := "against", desc := "(LWideDecimalDesk$Whole;)I" } : Jvm.MethodName)) ∈ wsA := x_in2 35 rfl rfl
theorem kw_276 : (Jvm.Cond.selects "WideDecimalDesk$Whole" ({ cls := "WideDecimalDesk$Whole", name := "against", desc := "(LWideDecimalDesk$Whole;)I" } : Jvm.MethodName) ({ cls := "WideDecimalDesk$Whole", name := "against", desc := "(LWideDecimalDesk$Whole;)I" } : Jvm.MethodName)) ∈ wsA := x_in2 36 rfl rfl
theorem kw_277 : (Jvm.Cond.code ({ cls := "WideDecimalDesk$Whole", name := "against", desc := "(LWideDecimalDesk$Whole;)I" } : Jvm.MethodName) prog_8_method_11_code (3 : Nat) (Option.some Jvm.ClassFile.FieldType.int)) ∈ wsA := x_in2 37 rfl rfl
theorem kw_278 : (Jvm.Cond.methodLink "WideDecimalDesk$Draft" (82 : Nat) ({ cls := "WideDecimalDesk$Whole", name := "becomeDifference", desc := "(LWideDecimalDesk$Whole;LWideDecimalDesk$Whole;)V" } : Jvm.MethodName)) ∈ wsA := x_in2 38 rfl rfl
theorem kw_279 : (Jvm.Cond.instanceMethod ({ cls := "WideDecimalDesk$Whole", name := "becomeDifference", desc := "(LWideDecimalDesk$Whole;LWideDecimalDesk$Whole;)V" } : Jvm.MethodName)) ∈ wsA := x_in2 39 rfl rfl
theorem kw_280 : (Jvm.Cond.selects "WideDecimalDesk$Whole" ({ cls := "WideDecimalDesk$Whole", name := "becomeDifference", desc := "(LWideDecimalDesk$Whole;LWideDecimalDesk$Whole;)V" } : Jvm.MethodName) ({ cls := "WideDecimalDesk$Whole", name := "becomeDifference", desc := "(LWideDecimalDesk$Whole;LWideDecimalDesk$Whole;)V" } : Jvm.MethodName)) ∈ wsA := x_in2 40 rfl rfl
theorem kw_281 : (Jvm.Cond.code ({ cls := "WideDecimalDesk$Whole", name := "becomeDifference", desc := "(LWideDecimalDesk$Whole;LWideDecimalDesk$Whole;)V" } : Jvm.MethodName) prog_8_method_14_code (8 : Nat) (Option.none : Option Jvm.ClassFile.FieldType)) ∈ wsA := x_in2 41 rfl rfl
theorem kw_282 : (Jvm.Cond.methodLink "WideDecimalDesk" (161 : Nat) ({ cls := "WideDecimalDesk$Draft", name := "place", desc := "()Z" } : Jvm.MethodName)) ∈ wsA := x_in2 42 rfl rfl
theorem kw_283 : (Jvm.Cond.instanceMethod ({ cls := "WideDecimalDesk$Draft", name := "place", desc := "()Z" } : Jvm.MethodName)) ∈ wsA := x_in2 43 rfl rfl
theorem kw_284 : (Jvm.Cond.selects "WideDecimalDesk$Draft" ({ cls := "WideDecimalDesk$Draft", name := "place", desc := "()Z" } : Jvm.MethodName) ({ cls := "WideDecimalDesk$Draft", name := "place", desc := "()Z" } : Jvm.MethodName)) ∈ wsA := x_in2 44 rfl rfl
theorem kw_285 : (Jvm.Cond.code ({ cls := "WideDecimalDesk$Draft", name := "place", desc := "()Z" } : Jvm.MethodName) prog_3_method_10_code (1 : Nat) (Option.some Jvm.ClassFile.FieldType.boolean)) ∈ wsA := x_in2 45 rfl rfl
theorem kw_286 : (Jvm.Cond.methodLink "WideDecimalDesk$Draft" (86 : Nat) ({ cls := "WideDecimalDesk$Draft", name := "fits", desc := "()Z" } : Jvm.MethodName)) ∈ wsA := x_in2 46 rfl rfl
theorem kw_288 : (Jvm.Cond.instanceMethod ({ cls := "WideDecimalDesk$Draft", name := "fits", desc := "()Z" } : Jvm.MethodName)) ∈ wsA := x_in2 48 rfl rfl
theorem kw_289 : (Jvm.Cond.code ({ cls := "WideDecimalDesk$Draft", name := "fits", desc := "()Z" } : Jvm.MethodName) prog_3_method_15_code (1 : Nat) (Option.some Jvm.ClassFile.FieldType.boolean)) ∈ wsA := x_in2 49 rfl rfl
theorem kw_290 : (Jvm.Cond.methodLink "WideDecimalDesk$Draft" (116 : Nat) ({ cls := "WideDecimalDesk$Whole", name := "isCoefficient", desc := "()Z" } : Jvm.MethodName)) ∈ wsA := x_in2 50 rfl rfl
theorem kw_291 : (Jvm.Cond.instanceMethod ({ cls := "WideDecimalDesk$Whole", name := "isCoefficient", desc := "()Z" } : Jvm.MethodName)) ∈ wsA := x_in2 51 rfl rfl
theorem kw_292 : (Jvm.Cond.selects "WideDecimalDesk$Whole" ({ cls := "WideDecimalDesk$Whole", name := "isCoefficient", desc := "()Z" } : Jvm.MethodName) ({ cls := "WideDecimalDesk$Whole", name := "isCoefficient", desc := "()Z" } : Jvm.MethodName)) ∈ wsA := x_in2 52 rfl rfl
theorem kw_293 : (Jvm.Cond.code ({ cls := "WideDecimalDesk$Whole", name := "isCoefficient", desc := "()Z" } : Jvm.MethodName) prog_8_method_9_code (1 : Nat) (Option.some Jvm.ClassFile.FieldType.boolean)) ∈ wsA := x_in2 53 rfl rfl
theorem kw_294 : (Jvm.Cond.methodLink "WideDecimalDesk$Draft" (119 : Nat) ({ cls := "WideDecimalDesk$Draft", name := "goesAway", desc := "(I)Z" } : Jvm.MethodName)) ∈ wsA := x_in2 54 rfl rfl
theorem kw_296 : (Jvm.Cond.instanceMethod ({ cls := "WideDecimalDesk$Draft", name := "goesAway", desc := "(I)Z" } : Jvm.MethodName)) ∈ wsA := x_in2 56 rfl rfl
theorem kw_297 : (Jvm.Cond.code ({ cls := "WideDecimalDesk$Draft", name := "goesAway", desc := "(I)Z" } : Jvm.MethodName) prog_3_method_17_code (2 : Nat) (Option.some Jvm.ClassFile.FieldType.boolean)) ∈ wsA := x_in2 57 rfl rfl
theorem kw_298 : (Jvm.Cond.methodLink "WideDecimalDesk$Draft" (129 : Nat) ({ cls := "WideDecimalDesk$Whole", name := "isOdd", desc := "()Z" } : Jvm.MethodName)) ∈ wsA := x_in2 58 rfl rfl
theorem kw_299 : (Jvm.Cond.instanceMethod ({ cls := "WideDecimalDesk$Whole", name := "isOdd", desc := "()Z" } : Jvm.MethodName)) ∈ wsA := x_in2 59 rfl rfl
theorem kw_300 : (Jvm.Cond.selects "WideDecimalDesk$Whole" ({ cls := "WideDecimalDesk$Whole", name := "isOdd", desc := "()Z" } : Jvm.MethodName) ({ cls := "WideDecimalDesk$Whole", name := "isOdd", desc := "()Z" } : Jvm.MethodName)) ∈ wsA := x_in2 60 rfl rfl
theorem kw_301 : (Jvm.Cond.code ({ cls := "WideDecimalDesk$Whole", name := "isOdd", desc := "()Z" } : Jvm.MethodName) prog_8_method_8_code (1 : Nat) (Option.some Jvm.ClassFile.FieldType.boolean)) ∈ wsA := x_in2 61 rfl rfl
theorem kw_302 : (Jvm.Cond.methodLink "WideDecimalDesk$Draft" (123 : Nat) ({ cls := "WideDecimalDesk$Whole", name := "isGreatestCoefficient", desc := "()Z" } : Jvm.MethodName)) ∈ wsA := x_in2 62 rfl rfl
theorem kw_303 : (Jvm.Cond.instanceMethod ({ cls := "WideDecimalDesk$Whole", name := "isGreatestCoefficient", desc := "()Z" } : Jvm.MethodName)) ∈ wsA := x_in2 63 rfl rfl
theorem kw_304 : (Jvm.Cond.selects "WideDecimalDesk$Whole" ({ cls := "WideDecimalDesk$Whole", name := "isGreatestCoefficient", desc := "()Z" } : Jvm.MethodName) ({ cls := "WideDecimalDesk$Whole", name := "isGreatestCoefficient", desc := "()Z" } : Jvm.MethodName)) ∈ wsA := x_in2 64 rfl rfl
theorem kw_305 : (Jvm.Cond.code ({ cls := "WideDecimalDesk$Whole", name := "isGreatestCoefficient", desc := "()Z" } : Jvm.MethodName) prog_8_method_10_code (1 : Nat) (Option.some Jvm.ClassFile.FieldType.boolean)) ∈ wsA := x_in2 65 rfl rfl
theorem kw_306 : (Jvm.Cond.methodLink "WideDecimalDesk$Whole" (18 : Nat) ({ cls := "WideDecimalDesk$Whole", name := "isCoefficient", desc := "()Z" } : Jvm.MethodName)) ∈ wsA := x_in2 66 rfl rfl
theorem kw_307 : (Jvm.Cond.methodLink "WideDecimalDesk$Draft" (90 : Nat) ({ cls := "WideDecimalDesk$Draft", name := "cutDigit", desc := "()V" } : Jvm.MethodName)) ∈ wsA := x_in2 67 rfl rfl
theorem kw_309 : (Jvm.Cond.instanceMethod ({ cls := "WideDecimalDesk$Draft", name := "cutDigit", desc := "()V" } : Jvm.MethodName)) ∈ wsA := x_in2 69 rfl rfl
theorem kw_310 : (Jvm.Cond.code ({ cls := "WideDecimalDesk$Draft", name := "cutDigit", desc := "()V" } : Jvm.MethodName) prog_3_method_14_code (2 : Nat) (Option.none : Option Jvm.ClassFile.FieldType)) ∈ wsA := x_in2 70 rfl rfl
theorem kw_311 : (Jvm.Cond.methodLink "WideDecimalDesk$Draft" (96 : Nat) ({ cls := "WideDecimalDesk$Whole", name := "dropDigit", desc := "()I" } : Jvm.MethodName)) ∈ wsA := x_in2 71 rfl rfl
theorem kw_312 : (Jvm.Cond.instanceMethod ({ cls := "WideDecimalDesk$Whole", name := "dropDigit", desc := "()I" } : Jvm.MethodName)) ∈ wsA := x_in2 72 rfl rfl
theorem kw_313 : (Jvm.Cond.selects "WideDecimalDesk$Whole" ({ cls := "WideDecimalDesk$Whole", name := "dropDigit", desc := "()I" } : Jvm.MethodName) ({ cls := "WideDecimalDesk$Whole", name := "dropDigit", desc := "()I" } : Jvm.MethodName)) ∈ wsA := x_in2 73 rfl rfl
theorem kw_314 : (Jvm.Cond.code ({ cls := "WideDecimalDesk$Whole", name := "dropDigit", desc := "()I" } : Jvm.MethodName) prog_8_method_17_code (6 : Nat) (Option.some Jvm.ClassFile.FieldType.int)) ∈ wsA := x_in2 74 rfl rfl
theorem kw_315 : (Jvm.Cond.methodLink "WideDecimalDesk$Draft" (93 : Nat) ({ cls := "WideDecimalDesk$Draft", name := "settle", desc := "(I)V" } : Jvm.MethodName)) ∈ wsA := x_in2 75 rfl rfl
theorem kw_317 : (Jvm.Cond.instanceMethod ({ cls := "WideDecimalDesk$Draft", name := "settle", desc := "(I)V" } : Jvm.MethodName)) ∈ wsA := x_in2 77 rfl rfl
theorem kw_318 : (Jvm.Cond.code ({ cls := "WideDecimalDesk$Draft", name := "settle", desc := "(I)V" } : Jvm.MethodName) prog_3_method_16_code (2 : Nat) (Option.none : Option Jvm.ClassFile.FieldType)) ∈ wsA := x_in2 78 rfl rfl
theorem kw_319 : (Jvm.Cond.methodLink "WideDecimalDesk$Draft" (126 : Nat) ({ cls := "WideDecimalDesk$Whole", name := "addOne", desc := "()V" } : Jvm.MethodName)) ∈ wsA := x_in2 79 rfl rfl
theorem kw_320 : (Jvm.Cond.instanceMethod ({ cls := "WideDecimalDesk$Whole", name := "addOne", desc := "()V" } : Jvm.MethodName)) ∈ wsA := x_in2 80 rfl rfl
theorem kw_321 : (Jvm.Cond.selects "WideDecimalDesk$Whole" ({ cls := "WideDecimalDesk$Whole", name := "addOne", desc := "()V" } : Jvm.MethodName) ({ cls := "WideDecimalDesk$Whole", name := "addOne", desc := "()V" } : Jvm.MethodName)) ∈ wsA := x_in2 81 rfl rfl
theorem kw_322 : (Jvm.Cond.code ({ cls := "WideDecimalDesk$Whole", name := "addOne", desc := "()V" } : Jvm.MethodName) prog_8_method_13_code (6 : Nat) (Option.none : Option Jvm.ClassFile.FieldType)) ∈ wsA := x_in2 82 rfl rfl
theorem kw_323 : (Jvm.Cond.methodLink "WideDecimalDesk" (187 : Nat) ({ cls := "WideDecimalDesk", name := "multiply", desc := "(LWideDecimalDesk$Register;LWideDecimalDesk$Register;)Z" } : Jvm.MethodName)) ∈ wsA := x_in2 83 rfl rfl
theorem kw_325 : (Jvm.Cond.instanceMethod ({ cls := "WideDecimalDesk", name := "multiply", desc := "(LWideDecimalDesk$Register;LWideDecimalDesk$Register;)Z" } : Jvm.MethodName)) ∈ wsA := x_in2 85 rfl rfl
theorem kw_326 : (Jvm.Cond.code ({ cls := "WideDecimalDesk", name := "multiply", desc := "(LWideDecimalDesk$Register;LWideDecimalDesk$Register;)Z" } : Jvm.MethodName) prog_1_method_25_code (3 : Nat) (Option.some Jvm.ClassFile.FieldType.boolean)) ∈ wsA := x_in2 86 rfl rfl
theorem kw_327 : (Jvm.Cond.methodLink "WideDecimalDesk" (205 : Nat) ({ cls := "WideDecimalDesk$Whole", name := "takeBits", desc := "(JI)V" } : Jvm.MethodName)) ∈ wsA := x_in2 87 rfl rfl
theorem kw_328 : (Jvm.Cond.methodLink "WideDecimalDesk" (209 : Nat) ({ cls := "WideDecimalDesk$Draft", name := "begin", desc := "(IZ)V" } : Jvm.MethodName)) ∈ wsA := x_in2 88 rfl rfl
theorem kw_329 : (Jvm.Cond.methodLink "WideDecimalDesk" (216 : Nat) ({ cls := "WideDecimalDesk$Whole", name := "becomeProduct", desc := "(LWideDecimalDesk$Whole;LWideDecimalDesk$Whole;)V" } : Jvm.MethodName)) ∈ wsA := x_in2 89 rfl rfl
theorem kw_330 : (Jvm.Cond.instanceMethod ({ cls := "WideDecimalDesk$Whole", name := "becomeProduct", desc := "(LWideDecimalDesk$Whole;LWideDecimalDesk$Whole;)V" } : Jvm.MethodName)) ∈ wsA := x_in2 90 rfl rfl
theorem kw_331 : (Jvm.Cond.selects "WideDecimalDesk$Whole" ({ cls := "WideDecimalDesk$Whole", name := "becomeProduct", desc := "(LWideDecimalDesk$Whole;LWideDecimalDesk$Whole;)V" } : Jvm.MethodName) ({ cls := "WideDecimalDesk$Whole", name := "becomeProduct", desc := "(LWideDecimalDesk$Whole;LWideDecimalDesk$Whole;)V" } : Jvm.MethodName)) ∈ wsA := x_in2 91 rfl rfl
theorem kw_332 : (Jvm.Cond.code ({ cls := "WideDecimalDesk$Whole", name := "becomeProduct", desc := "(LWideDecimalDesk$Whole;LWideDecimalDesk$Whole;)V" } : Jvm.MethodName) prog_8_method_15_code (9 : Nat) (Option.none : Option Jvm.ClassFile.FieldType)) ∈ wsA := x_in2 92 rfl rfl
theorem kw_333 : (Jvm.Cond.methodLink "WideDecimalDesk" (191 : Nat) ({ cls := "WideDecimalDesk$Register", name := "isZero", desc := "()Z" } : Jvm.MethodName)) ∈ wsA := x_in2 93 rfl rfl
theorem kw_334 : (Jvm.Cond.instanceMethod ({ cls := "WideDecimalDesk$Register", name := "isZero", desc := "()Z" } : Jvm.MethodName)) ∈ wsA := x_in2 94 rfl rfl
theorem kw_335 : (Jvm.Cond.selects "WideDecimalDesk$Register" ({ cls := "WideDecimalDesk$Register", name := "isZero", desc := "()Z" } : Jvm.MethodName) ({ cls := "WideDecimalDesk$Register", name := "isZero", desc := "()Z" } : Jvm.MethodName)) ∈ wsA := x_in2 95 rfl rfl
theorem kw_336 : (Jvm.Cond.code ({ cls := "WideDecimalDesk$Register", name := "isZero", desc := "()Z" } : Jvm.MethodName) prog_7_method_3_code (1 : Nat) (Option.some Jvm.ClassFile.FieldType.boolean)) ∈ wsA := x_in2 96 rfl rfl
theorem kw_337 : (Jvm.Cond.methodLink "WideDecimalDesk" (194 : Nat) ({ cls := "WideDecimalDesk", name := "divide", desc := "(LWideDecimalDesk$Register;LWideDecimalDesk$Register;)Z" } : Jvm.MethodName)) ∈ wsA := x_in2 97 rfl rfl
theorem kw_339 : (Jvm.Cond.instanceMethod ({ cls := "WideDecimalDesk", name := "divide", desc := "(LWideDecimalDesk$Register;LWideDecimalDesk$Register;)Z" } : Jvm.MethodName)) ∈ wsA := x_in2 99 rfl rfl
theorem kw_340 : (Jvm.Cond.code ({ cls := "WideDecimalDesk", name := "divide", desc := "(LWideDecimalDesk$Register;LWideDecimalDesk$Register;)Z" } : Jvm.MethodName) prog_1_method_26_code (4 : Nat) (Option.some Jvm.ClassFile.FieldType.boolean)) ∈ wsA := x_in2 100 rfl rfl
theorem kw_341 : (Jvm.Cond.methodLink "WideDecimalDesk" (220 : Nat) ({ cls := "WideDecimalDesk", name := "divideCoefficient", desc := "(LWideDecimalDesk$Register;)V" } : Jvm.MethodName)) ∈ wsA := x_in2 101 rfl rfl
theorem kw_343 : (Jvm.Cond.instanceMethod ({ cls := "WideDecimalDesk", name := "divideCoefficient", desc := "(LWideDecimalDesk$Register;)V" } : Jvm.MethodName)) ∈ wsA := x_in2 103 rfl rfl
theorem kw_344 : (Jvm.Cond.code ({ cls := "WideDecimalDesk", name := "divideCoefficient", desc := "(LWideDecimalDesk$Register;)V" } : Jvm.MethodName) prog_1_method_28_code (2 : Nat) (Option.none : Option Jvm.ClassFile.FieldType)) ∈ wsA := x_in2 104 rfl rfl
theorem kw_345 : (Jvm.Cond.methodLink "WideDecimalDesk" (249 : Nat) ({ cls := "WideDecimalDesk$Digits", name := "takeFrom", desc := "(LWideDecimalDesk$Whole;)V" } : Jvm.MethodName)) ∈ wsA := x_in2 105 rfl rfl
theorem kw_346 : (Jvm.Cond.instanceMethod ({ cls := "WideDecimalDesk$Digits", name := "takeFrom", desc := "(LWideDecimalDesk$Whole;)V" } : Jvm.MethodName)) ∈ wsA := x_in2 106 rfl rfl
theorem kw_347 : (Jvm.Cond.selects "WideDecimalDesk$Digits" ({ cls := "WideDecimalDesk$Digits", name := "takeFrom", desc := "(LWideDecimalDesk$Whole;)V" } : Jvm.MethodName) ({ cls := "WideDecimalDesk$Digits", name := "takeFrom", desc := "(LWideDecimalDesk$Whole;)V" } : Jvm.MethodName)) ∈ wsA := x_in2 107 rfl rfl
theorem kw_348 : (Jvm.Cond.code ({ cls := "WideDecimalDesk$Digits", name := "takeFrom", desc := "(LWideDecimalDesk$Whole;)V" } : Jvm.MethodName) prog_2_method_2_code (2 : Nat) (Option.none : Option Jvm.ClassFile.FieldType)) ∈ wsA := x_in2 108 rfl rfl
theorem kw_349 : (Jvm.Cond.methodLink "WideDecimalDesk$Digits" (17 : Nat) ({ cls := "WideDecimalDesk$Whole", name := "isZero", desc := "()Z" } : Jvm.MethodName)) ∈ wsA := x_in2 109 rfl rfl
theorem kw_350 : (Jvm.Cond.instanceMethod ({ cls := "WideDecimalDesk$Whole", name := "isZero", desc := "()Z" } : Jvm.MethodName)) ∈ wsA := x_in2 110 rfl rfl
theorem kw_351 : (Jvm.Cond.selects "WideDecimalDesk$Whole" ({ cls := "WideDecimalDesk$Whole", name := "isZero", desc := "()Z" } : Jvm.MethodName) ({ cls := "WideDecimalDesk$Whole", name := "isZero", desc := "()Z" } : Jvm.MethodName)) ∈ wsA := x_in2 111 rfl rfl
theorem kw_352 : (Jvm.Cond.code ({ cls := "WideDecimalDesk$Whole", name := "isZero", desc := "()Z" } : Jvm.MethodName) prog_8_method_7_code (1 : Nat) (Option.some Jvm.ClassFile.FieldType.boolean)) ∈ wsA := x_in2 112 rfl rfl
theorem kw_353 : (Jvm.Cond.methodLink "WideDecimalDesk$Digits" (23 : Nat) ({ cls := "WideDecimalDesk$Whole", name := "dropDigit", desc := "()I" } : Jvm.MethodName)) ∈ wsA := x_in2 113 rfl rfl
theorem kw_354 : (Jvm.Cond.methodLink "WideDecimalDesk" (252 : Nat) ({ cls := "WideDecimalDesk$LongDivision", name := "begin", desc := "(LWideDecimalDesk$Whole;)V" } : Jvm.MethodName)) ∈ wsA := x_in2 114 rfl rfl
theorem kw_355 : (Jvm.Cond.instanceMethod ({ cls := "WideDecimalDesk$LongDivision", name := "begin", desc := "(LWideDecimalDesk$Whole;)V" } : Jvm.MethodName)) ∈ wsA := x_in2 115 rfl rfl
theorem kw_356 : (Jvm.Cond.selects "WideDecimalDesk$LongDivision" ({ cls := "WideDecimalDesk$LongDivision", name := "begin", desc := "(LWideDecimalDesk$Whole;)V" } : Jvm.MethodName) ({ cls := "WideDecimalDesk$LongDivision", name := "begin", desc := "(LWideDecimalDesk$Whole;)V" } : Jvm.MethodName)) ∈ wsA := x_in2 116 rfl rfl
theorem kw_357 : (Jvm.Cond.code ({ cls := "WideDecimalDesk$LongDivision", name := "begin", desc := "(LWideDecimalDesk$Whole;)V" } : Jvm.MethodName) prog_5_method_2_code (2 : Nat) (Option.none : Option Jvm.ClassFile.FieldType)) ∈ wsA := x_in2 117 rfl rfl
theorem kw_358 : (Jvm.Cond.methodLink "WideDecimalDesk$LongDivision" (22 : Nat) ({ cls := "WideDecimalDesk$Whole", name := "copy", desc := "(LWideDecimalDesk$Whole;)V" } : Jvm.MethodName)) ∈ wsA := x_in2 118 rfl rfl
theorem kw_359 : (Jvm.Cond.instanceMethod ({ cls := "WideDecimalDesk$Whole", name := "copy", desc := "(LWideDecimalDesk$Whole;)V" } : Jvm.MethodName)) ∈ wsA := x_in2 119 rfl rfl
theorem kw_360 : (Jvm.Cond.selects "WideDecimalDesk$Whole" ({ cls := "WideDecimalDesk$Whole", name := "copy", desc := "(LWideDecimalDesk$Whole;)V" } : Jvm.MethodName) ({ cls := "WideDecimalDesk$Whole", name := "copy", desc := "(LWideDecimalDesk$Whole;)V" } : Jvm.MethodName)) ∈ wsA := x_in2 120 rfl rfl
theorem kw_361 : (Jvm.Cond.code ({ cls := "WideDecimalDesk$Whole", name := "copy", desc := "(LWideDecimalDesk$Whole;)V" } : Jvm.MethodName) prog_8_method_3_code (3 : Nat) (Option.none : Option Jvm.ClassFile.FieldType)) ∈ wsA := x_in2 121 rfl rfl
theorem kw_362 : (Jvm.Cond.methodLink "WideDecimalDesk$LongDivision" (26 : Nat) ({ cls := "WideDecimalDesk$Whole", name := "becomeZero", desc := "()V" } : Jvm.MethodName)) ∈ wsA := x_in2 122 rfl rfl
theorem kw_363 : (Jvm.Cond.methodLink "WideDecimalDesk" (254 : Nat) ({ cls := "WideDecimalDesk$LongDivision", name := "bringDownAll", desc := "(LWideDecimalDesk$Digits;)V" } : Jvm.MethodName)) ∈ wsA := x_in2 123 rfl rfl
theorem kw_364 : (Jvm.Cond.instanceMethod ({ cls := "WideDecimalDesk$LongDivision", name := "bringDownAll", desc := "(LWideDecimalDesk$Digits;)V" } : Jvm.MethodName)) ∈ wsA := x_in2 124 rfl rfl
theorem kw_365 : (Jvm.Cond.selects "WideDecimalDesk$LongDivision" ({ cls := "WideDecimalDesk$LongDivision", name := "bringDownAll", desc := "(LWideDecimalDesk$Digits;)V" } : Jvm.MethodName) ({ cls := "WideDecimalDesk$LongDivision", name := "bringDownAll", desc := "(LWideDecimalDesk$Digits;)V" } : Jvm.MethodName)) ∈ wsA := x_in2 125 rfl rfl
theorem kw_366 : (Jvm.Cond.code ({ cls := "WideDecimalDesk$LongDivision", name := "bringDownAll", desc := "(LWideDecimalDesk$Digits;)V" } : Jvm.MethodName) prog_5_method_3_code (3 : Nat) (Option.none : Option Jvm.ClassFile.FieldType)) ∈ wsA := x_in2 126 rfl rfl
theorem kw_367 : (Jvm.Cond.methodLink "WideDecimalDesk$LongDivision" (35 : Nat) ({ cls := "WideDecimalDesk$Digits", name := "digit", desc := "(I)I" } : Jvm.MethodName)) ∈ wsA := x_in2 127 rfl rfl
theorem kw_368 : (Jvm.Cond.instanceMethod ({ cls := "WideDecimalDesk$Digits", name := "digit", desc := "(I)I" } : Jvm.MethodName)) ∈ wsA := x_in2 128 rfl rfl
theorem kw_369 : (Jvm.Cond.selects "WideDecimalDesk$Digits" ({ cls := "WideDecimalDesk$Digits", name := "digit", desc := "(I)I" } : Jvm.MethodName) ({ cls := "WideDecimalDesk$Digits", name := "digit", desc := "(I)I" } : Jvm.MethodName)) ∈ wsA := x_in2 129 rfl rfl
theorem kw_370 : (Jvm.Cond.code ({ cls := "WideDecimalDesk$Digits", name := "digit", desc := "(I)I" } : Jvm.MethodName) prog_2_method_3_code (2 : Nat) (Option.some Jvm.ClassFile.FieldType.int)) ∈ wsA := x_in2 130 rfl rfl
theorem kw_371 : (Jvm.Cond.methodLink "WideDecimalDesk$LongDivision" (39 : Nat) ({ cls := "WideDecimalDesk$LongDivision", name := "bringDown", desc := "(I)V" } : Jvm.MethodName)) ∈ wsA := x_in2 131 rfl rfl
theorem kw_372 : (Jvm.Cond.instanceMethod ({ cls := "WideDecimalDesk$LongDivision", name := "bringDown", desc := "(I)V" } : Jvm.MethodName)) ∈ wsA := x_in2 132 rfl rfl
theorem kw_373 : (Jvm.Cond.selects "WideDecimalDesk$LongDivision" ({ cls := "WideDecimalDesk$LongDivision", name := "bringDown", desc := "(I)V" } : Jvm.MethodName) ({ cls := "WideDecimalDesk$LongDivision", name := "bringDown", desc := "(I)V" } : Jvm.MethodName)) ∈ wsA := x_in2 133 rfl rfl
theorem kw_374 : (Jvm.Cond.code ({ cls := "WideDecimalDesk$LongDivision", name := "bringDown", desc := "(I)V" } : Jvm.MethodName) prog_5_method_4_code (3 : Nat) (Option.none : Option Jvm.ClassFile.FieldType)) ∈ wsA := x_in2 134 rfl rfl
theorem kw_375 : (Jvm.Cond.methodLink "WideDecimalDesk$LongDivision" (43 : Nat) ({ cls := "WideDecimalDesk$Whole", name := "appendDigit", desc := "(I)V" } : Jvm.MethodName)) ∈ wsA := x_in2 135 rfl rfl
theorem kw_376 : (Jvm.Cond.methodLink "WideDecimalDesk$LongDivision" (46 : Nat) ({ cls := "WideDecimalDesk$Whole", name := "against", desc := "(LWideDecimalDesk$Whole;)I" } : Jvm.MethodName)) ∈ wsA := x_in2 136 rfl rfl
theorem kw_377 : (Jvm.Cond.methodLink "WideDecimalDesk$LongDivision" (50 : Nat) ({ cls := "WideDecimalDesk$Whole", name := "becomeDifference", desc := "(LWideDecimalDesk$Whole;LWideDecimalDesk$Whole;)V" } : Jvm.MethodName)) ∈ wsA := x_in2 137 rfl rfl
theorem kw_378 : (Jvm.Cond.methodLink "WideDecimalDesk" (223 : Nat) ({ cls := "WideDecimalDesk$LongDivision", name := "isUnfinished", desc := "()Z" } : Jvm.MethodName)) ∈ wsA := x_in2 138 rfl rfl
theorem kw_379 : (Jvm.Cond.instanceMethod ({ cls := "WideDecimalDesk$LongDivision", name := "isUnfinished", desc := "()Z" } : Jvm.MethodName)) ∈ wsA := x_in2 139 rfl rfl
theorem kw_380 : (Jvm.Cond.selects "WideDecimalDesk$LongDivision" ({ cls := "WideDecimalDesk$LongDivision", name := "isUnfinished", desc := "()Z" } : Jvm.MethodName) ({ cls := "WideDecimalDesk$LongDivision", name := "isUnfinished", desc := "()Z" } : Jvm.MethodName)) ∈ wsA := x_in2 140 rfl rfl
theorem kw_381 : (Jvm.Cond.code ({ cls := "WideDecimalDesk$LongDivision", name := "isUnfinished", desc := "()Z" } : Jvm.MethodName) prog_5_method_5_code (1 : Nat) (Option.some Jvm.ClassFile.FieldType.boolean)) ∈ wsA := x_in2 141 rfl rfl
theorem kw_382 : (Jvm.Cond.methodLink "WideDecimalDesk$LongDivision" (54 : Nat) ({ cls := "WideDecimalDesk$Whole", name := "isZero", desc := "()Z" } : Jvm.MethodName)) ∈ wsA := x_in2 142 rfl rfl
theorem kw_383 : (Jvm.Cond.methodLink "WideDecimalDesk$LongDivision" (58 : Nat) ({ cls := "WideDecimalDesk$Whole", name := "isCoefficient", desc := "()Z" } : Jvm.MethodName)) ∈ wsA := x_in2 143 rfl rfl
theorem kw_384 : (Jvm.Cond.methodLink "WideDecimalDesk" (226 : Nat) ({ cls := "WideDecimalDesk$LongDivision", name := "bringDown", desc := "(I)V" } : Jvm.MethodName)) ∈ wsA := x_in2 144 rfl rfl
theorem kw_385 : (Jvm.Cond.methodLink "WideDecimalDesk" (229 : Nat) ({ cls := "WideDecimalDesk$Draft", name := "takeQuotient", desc := "(LWideDecimalDesk$LongDivision;)V" } : Jvm.MethodName)) ∈ wsA := x_in2 145 rfl rfl
theorem kw_386 : (Jvm.Cond.instanceMethod ({ cls := "WideDecimalDesk$Draft", name := "takeQuotient", desc := "(LWideDecimalDesk$LongDivision;)V" } : Jvm.MethodName)) ∈ wsA := x_in2 146 rfl rfl
theorem kw_387 : (Jvm.Cond.selects "WideDecimalDesk$Draft" ({ cls := "WideDecimalDesk$Draft", name := "takeQuotient", desc := "(LWideDecimalDesk$LongDivision;)V" } : Jvm.MethodName) ({ cls := "WideDecimalDesk$Draft", name := "takeQuotient", desc := "(LWideDecimalDesk$LongDivision;)V" } : Jvm.MethodName)) ∈ wsA := x_in2 147 rfl rfl
theorem kw_388 : (Jvm.Cond.code ({ cls := "WideDecimalDesk$Draft", name := "takeQuotient", desc := "(LWideDecimalDesk$LongDivision;)V" } : Jvm.MethodName) prog_3_method_13_code (2 : Nat) (Option.none : Option Jvm.ClassFile.FieldType)) ∈ wsA := x_in2 148 rfl rfl
theorem kw_389 : (Jvm.Cond.methodLink "WideDecimalDesk$Draft" (104 : Nat) ({ cls := "WideDecimalDesk$Whole", name := "copy", desc := "(LWideDecimalDesk$Whole;)V" } : Jvm.MethodName)) ∈ wsA := x_in2 149 rfl rfl
theorem kw_390 : (Jvm.Cond.methodLink "WideDecimalDesk$Draft" (110 : Nat) ({ cls := "WideDecimalDesk$Whole", name := "isZero", desc := "()Z" } : Jvm.MethodName)) ∈ wsA := x_in2 150 rfl rfl
theorem kw_391 : (Jvm.Cond.methodLink "WideDecimalDesk" (197 : Nat) ({ cls := "WideDecimalDesk", name := "divideForRest", desc := "(LWideDecimalDesk$Register;LWideDecimalDesk$Register;)Z" } : Jvm.MethodName)) ∈ wsA := x_in2 151 rfl rfl
theorem kw_393 : (Jvm.Cond.instanceMethod ({ cls := "WideDecimalDesk", name := "divideForRest", desc := "(LWideDecimalDesk$Register;LWideDecimalDesk$Register;)Z" } : Jvm.MethodName)) ∈ wsA := x_in2 153 rfl rfl
theorem kw_394 : (Jvm.Cond.code ({ cls := "WideDecimalDesk", name := "divideForRest", desc := "(LWideDecimalDesk$Register;LWideDecimalDesk$Register;)Z" } : Jvm.MethodName) prog_1_method_27_code (4 : Nat) (Option.some Jvm.ClassFile.FieldType.boolean)) ∈ wsA := x_in2 154 rfl rfl
theorem kw_395 : (Jvm.Cond.methodLink "WideDecimalDesk" (236 : Nat) ({ cls := "java/lang/Math", name := "max", desc := "(II)I" } : Jvm.MethodName)) ∈ wsA := x_in2 155 rfl rfl
theorem kw_396 : (Jvm.Cond.static ({ cls := "java/lang/Math", name := "max", desc := "(II)I" } : Jvm.MethodName)) ∈ wsA := x_in2 156 rfl rfl
theorem kw_397 : (Jvm.Cond.code ({ cls := "java/lang/Math", name := "max", desc := "(II)I" } : Jvm.MethodName) prog_15_method_65_code (2 : Nat) (Option.some Jvm.ClassFile.FieldType.int)) ∈ wsA := x_in2 157 rfl rfl
theorem kw_398 : (Jvm.Cond.methodLink "WideDecimalDesk" (245 : Nat) ({ cls := "WideDecimalDesk$Whole", name := "copy", desc := "(LWideDecimalDesk$Whole;)V" } : Jvm.MethodName)) ∈ wsA := x_in2 158 rfl rfl
theorem kw_399 : (Jvm.Cond.methodLink "WideDecimalDesk" (114 : Nat) ({ cls := "WideDecimalDesk$Draft", name := "storeIn", desc := "(LWideDecimalDesk$Register;)V" } : Jvm.MethodName)) ∈ wsA := x_in2 159 rfl rfl
theorem kw_400 : (Jvm.Cond.instanceMethod ({ cls := "WideDecimalDesk$Draft", name := "storeIn", desc := "(LWideDecimalDesk$Register;)V" } : Jvm.MethodName)) ∈ wsA := x_in2 160 rfl rfl
theorem kw_401 : (Jvm.Cond.selects "WideDecimalDesk$Draft" ({ cls := "WideDecimalDesk$Draft", name := "storeIn", desc := "(LWideDecimalDesk$Register;)V" } : Jvm.MethodName) ({ cls := "WideDecimalDesk$Draft", name := "storeIn", desc := "(LWideDecimalDesk$Register;)V" } : Jvm.MethodName)) ∈ wsA := x_in2 161 rfl rfl
theorem kw_402 : (Jvm.Cond.code ({ cls := "WideDecimalDesk$Draft", name := "storeIn", desc := "(LWideDecimalDesk$Register;)V" } : Jvm.MethodName) prog_3_method_4_code (2 : Nat) (Option.none : Option Jvm.ClassFile.FieldType)) ∈ wsA := x_in2 162 rfl rfl
theorem kw_403 : (Jvm.Cond.methodLink "WideDecimalDesk$Draft" (51 : Nat) ({ cls := "WideDecimalDesk$Whole", name := "lowBits", desc := "()J" } : Jvm.MethodName)) ∈ wsA := x_in2 163 rfl rfl
theorem kw_404 : (Jvm.Cond.instanceMethod ({ cls := "WideDecimalDesk$Whole", name := "lowBits", desc := "()J" } : Jvm.MethodName)) ∈ wsA := x_in2 164 rfl rfl
theorem kw_405 : (Jvm.Cond.selects "WideDecimalDesk$Whole" ({ cls := "WideDecimalDesk$Whole", name := "lowBits", desc := "()J" } : Jvm.MethodName) ({ cls := "WideDecimalDesk$Whole", name := "lowBits", desc := "()J" } : Jvm.MethodName)) ∈ wsA := x_in2 165 rfl rfl
theorem kw_406 : (Jvm.Cond.code ({ cls := "WideDecimalDesk$Whole", name := "lowBits", desc := "()J" } : Jvm.MethodName) prog_8_method_5_code (1 : Nat) (Option.some Jvm.ClassFile.FieldType.long)) ∈ wsA := x_in2 166 rfl rfl
theorem kw_407 : (Jvm.Cond.methodLink "WideDecimalDesk$Draft" (54 : Nat) ({ cls := "WideDecimalDesk$Whole", name := "highBits", desc := "()I" } : Jvm.MethodName)) ∈ wsA := x_in2 167 rfl rfl
theorem kw_408 : (Jvm.Cond.instanceMethod ({ cls := "WideDecimalDesk$Whole", name := "highBits", desc := "()I" } : Jvm.MethodName)) ∈ wsA := x_in2 168 rfl rfl
theorem kw_409 : (Jvm.Cond.selects "WideDecimalDesk$Whole" ({ cls := "WideDecimalDesk$Whole", name := "highBits", desc := "()I" } : Jvm.MethodName) ({ cls := "WideDecimalDesk$Whole", name := "highBits", desc := "()I" } : Jvm.MethodName)) ∈ wsA := x_in2 169 rfl rfl
theorem kw_410 : (Jvm.Cond.code ({ cls := "WideDecimalDesk$Whole", name := "highBits", desc := "()I" } : Jvm.MethodName) prog_8_method_6_code (1 : Nat) (Option.some Jvm.ClassFile.FieldType.int)) ∈ wsA := x_in2 170 rfl rfl
theorem kw_411 : (Jvm.Cond.methodLink "WideDecimalDesk$Draft" (57 : Nat) ({ cls := "WideDecimalDesk$Register", name := "take", desc := "(JIIZ)V" } : Jvm.MethodName)) ∈ wsA := x_in2 171 rfl rfl
theorem kw_412 : (Jvm.Cond.instanceMethod ({ cls := "WideDecimalDesk$Register", name := "take", desc := "(JIIZ)V" } : Jvm.MethodName)) ∈ wsA := x_in2 172 rfl rfl
theorem kw_413 : (Jvm.Cond.selects "WideDecimalDesk$Register" ({ cls := "WideDecimalDesk$Register", name := "take", desc := "(JIIZ)V" } : Jvm.MethodName) ({ cls := "WideDecimalDesk$Register", name := "take", desc := "(JIIZ)V" } : Jvm.MethodName)) ∈ wsA := x_in2 173 rfl rfl
theorem kw_414 : (Jvm.Cond.code ({ cls := "WideDecimalDesk$Register", name := "take", desc := "(JIIZ)V" } : Jvm.MethodName) prog_7_method_2_code (6 : Nat) (Option.none : Option Jvm.ClassFile.FieldType)) ∈ wsA := x_in2 174 rfl rfl
theorem kw_415 : (Jvm.Cond.methodLink "WideDecimalDesk$Register" (20 : Nat) ({ cls := "WideDecimalDesk$Register", name := "isZero", desc := "()Z" } : Jvm.MethodName)) ∈ wsA := x_in2 175 rfl rfl
theorem kw_416 : (Jvm.Cond.methodLink "WideDecimalDeskLaw" (99 : Nat) ({ cls := "WideDecimalDesk", name := "type", desc := "(C)Z" } : Jvm.MethodName)) ∈ wsA := x_in2 176 rfl rfl
theorem kw_417 : (Jvm.Cond.instanceMethod ({ cls := "WideDecimalDesk", name := "type", desc := "(C)Z" } : Jvm.MethodName)) ∈ wsA := x_in2 177 rfl rfl
theorem kw_418 : (Jvm.Cond.selects "WideDecimalDesk" ({ cls := "WideDecimalDesk", name := "type", desc := "(C)Z" } : Jvm.MethodName) ({ cls := "WideDecimalDesk", name := "type", desc := "(C)Z" } : Jvm.MethodName)) ∈ wsA := x_in2 178 rfl rfl
theorem kw_419 : (Jvm.Cond.code ({ cls := "WideDecimalDesk", name := "type", desc := "(C)Z" } : Jvm.MethodName) prog_1_method_12_code (2 : Nat) (Option.some Jvm.ClassFile.FieldType.boolean)) ∈ wsA := x_in2 179 rfl rfl
theorem kw_420 : (Jvm.Cond.methodLink "WideDecimalDesk" (143 : Nat) ({ cls := "WideDecimalDesk$Line", name := "put", desc := "(C)Z" } : Jvm.MethodName)) ∈ wsA := x_in2 180 rfl rfl
theorem kw_421 : (Jvm.Cond.instanceMethod ({ cls := "WideDecimalDesk$Line", name := "put", desc := "(C)Z" } : Jvm.MethodName)) ∈ wsA := x_in2 181 rfl rfl
theorem kw_422 : (Jvm.Cond.selects "WideDecimalDesk$Line" ({ cls := "WideDecimalDesk$Line", name := "put", desc := "(C)Z" } : Jvm.MethodName) ({ cls := "WideDecimalDesk$Line", name := "put", desc := "(C)Z" } : Jvm.MethodName)) ∈ wsA := x_in2 182 rfl rfl
theorem kw_423 : (Jvm.Cond.code ({ cls := "WideDecimalDesk$Line", name := "put", desc := "(C)Z" } : Jvm.MethodName) prog_4_method_3_code (2 : Nat) (Option.some Jvm.ClassFile.FieldType.boolean)) ∈ wsA := x_in2 183 rfl rfl
theorem kw_424 : (Jvm.Cond.methodLink "WideDecimalDeskLaw" (104 : Nat) ({ cls := "WideDecimalDesk", name := "clear", desc := "()V" } : Jvm.MethodName)) ∈ wsA := x_in2 184 rfl rfl
theorem kw_425 : (Jvm.Cond.instanceMethod ({ cls := "WideDecimalDesk", name := "clear", desc := "()V" } : Jvm.MethodName)) ∈ wsA := x_in2 185 rfl rfl
theorem kw_426 : (Jvm.Cond.selects "WideDecimalDesk" ({ cls := "WideDecimalDesk", name := "clear", desc := "()V" } : Jvm.MethodName) ({ cls := "WideDecimalDesk", name := "clear", desc := "()V" } : Jvm.MethodName)) ∈ wsA := x_in2 186 rfl rfl
theorem kw_427 : (Jvm.Cond.code ({ cls := "WideDecimalDesk", name := "clear", desc := "()V" } : Jvm.MethodName) prog_1_method_13_code (1 : Nat) (Option.none : Option Jvm.ClassFile.FieldType)) ∈ wsA := x_in2 187 rfl rfl
theorem kw_428 : (Jvm.Cond.methodLink "WideDecimalDesk" (147 : Nat) ({ cls := "WideDecimalDesk$Line", name := "empty", desc := "()V" } : Jvm.MethodName)) ∈ wsA := x_in2 188 rfl rfl
theorem kw_429 : (Jvm.Cond.instanceMethod ({ cls := "WideDecimalDesk$Line", name := "empty", desc := "()V" } : Jvm.MethodName)) ∈ wsA := x_in2 189 rfl rfl
theorem kw_430 : (Jvm.Cond.selects "WideDecimalDesk$Line" ({ cls := "WideDecimalDesk$Line", name := "empty", desc := "()V" } : Jvm.MethodName) ({ cls := "WideDecimalDesk$Line", name := "empty", desc := "()V" } : Jvm.MethodName)) ∈ wsA := x_in2 190 rfl rfl
theorem kw_431 : (Jvm.Cond.code ({ cls := "WideDecimalDesk$Line", name := "empty", desc := "()V" } : Jvm.MethodName) prog_4_method_2_code (1 : Nat) (Option.none : Option Jvm.ClassFile.FieldType)) ∈ wsA := x_in2 191 rfl rfl
theorem kw_432 : (Jvm.Cond.methodLink "WideDecimalDeskLaw" (119 : Nat) ({ cls := "WideDecimalDesk", name := "at", desc := "(I)I" } : Jvm.MethodName)) ∈ wsA := x_in2 192 rfl rfl
theorem kw_433 : (Jvm.Cond.instanceMethod ({ cls := "WideDecimalDesk", name := "at", desc := "(I)I" } : Jvm.MethodName)) ∈ wsA := x_in2 193 rfl rfl
theorem kw_434 : (Jvm.Cond.selects "WideDecimalDesk" ({ cls := "WideDecimalDesk", name := "at", desc := "(I)I" } : Jvm.MethodName) ({ cls := "WideDecimalDesk", name := "at", desc := "(I)I" } : Jvm.MethodName)) ∈ wsA := x_in2 194 rfl rfl
theorem kw_435 : (Jvm.Cond.code ({ cls := "WideDecimalDesk", name := "at", desc := "(I)I" } : Jvm.MethodName) prog_1_method_17_code (2 : Nat) (Option.some Jvm.ClassFile.FieldType.int)) ∈ wsA := x_in2 195 rfl rfl
theorem kw_436 : (Jvm.Cond.methodLink "WideDecimalDesk" (179 : Nat) ({ cls := "WideDecimalDesk$Line", name := "codeAt", desc := "(I)I" } : Jvm.MethodName)) ∈ wsA := x_in2 196 rfl rfl
theorem kw_437 : (Jvm.Cond.instanceMethod ({ cls := "WideDecimalDesk$Line", name := "codeAt", desc := "(I)I" } : Jvm.MethodName)) ∈ wsA := x_in2 197 rfl rfl
theorem kw_438 : (Jvm.Cond.selects "WideDecimalDesk$Line" ({ cls := "WideDecimalDesk$Line", name := "codeAt", desc := "(I)I" } : Jvm.MethodName) ({ cls := "WideDecimalDesk$Line", name := "codeAt", desc := "(I)I" } : Jvm.MethodName)) ∈ wsA := x_in2 198 rfl rfl
theorem kw_439 : (Jvm.Cond.code ({ cls := "WideDecimalDesk$Line", name := "codeAt", desc := "(I)I" } : Jvm.MethodName) prog_4_method_4_code (2 : Nat) (Option.some Jvm.ClassFile.FieldType.int)) ∈ wsA := x_in2 199 rfl rfl
theorem kw_440 : (Jvm.Cond.methodLink "WideDecimalDeskLaw" (123 : Nat) ({ cls := "WideDecimalDesk", name := "reuse", desc := "()Z" } : Jvm.MethodName)) ∈ wsA := x_in2 200 rfl rfl
theorem kw_441 : (Jvm.Cond.instanceMethod ({ cls := "WideDecimalDesk", name := "reuse", desc := "()Z" } : Jvm.MethodName)) ∈ wsA := x_in2 201 rfl rfl
theorem kw_442 : (Jvm.Cond.selects "WideDecimalDesk" ({ cls := "WideDecimalDesk", name := "reuse", desc := "()Z" } : Jvm.MethodName) ({ cls := "WideDecimalDesk", name := "reuse", desc := "()Z" } : Jvm.MethodName)) ∈ wsA := x_in2 202 rfl rfl
theorem kw_443 : (Jvm.Cond.code ({ cls := "WideDecimalDesk", name := "reuse", desc := "()Z" } : Jvm.MethodName) prog_1_method_18_code (2 : Nat) (Option.some Jvm.ClassFile.FieldType.boolean)) ∈ wsA := x_in2 203 rfl rfl
theorem kw_444 : (Jvm.Cond.methodLink "WideDecimalDeskLaw" (51 : Nat) ({ cls := "WideDecimalDeskLaw", name := "set", desc := "(LWideDecimalDesk;IJIIZ)I" } : Jvm.MethodName)) ∈ wsA := x_in2 204 rfl rfl
theorem kw_445 : (Jvm.Cond.static ({ cls := "WideDecimalDeskLaw", name := "set", desc := "(LWideDecimalDesk;IJIIZ)I" } : Jvm.MethodName)) ∈ wsA := x_in2 205 rfl rfl
theorem kw_446 : (Jvm.Cond.codeWith ({ cls := "WideDecimalDeskLaw", name := "set", desc := "(LWideDecimalDesk;IJIIZ)I" } : Jvm.MethodName) method_3_code (8 : Nat) (Option.some Jvm.ClassFile.FieldType.int) [((0 : Nat), (12 : Nat), (15 : Nat), (13 : Nat))]) ∈ wsA := x_in2 206 rfl rfl
theorem kw_447 : (Jvm.Cond.classLink "WideDecimalDeskLaw" (13 : Nat) "java/lang/IllegalArgumentException") ∈ wsA := x_in2 207 rfl rfl
theorem kw_448 : (Jvm.Cond.methodLink "WideDecimalDeskLaw" (7 : Nat) ({ cls := "WideDecimalDesk", name := "set", desc := "(IJIIZ)V" } : Jvm.MethodName)) ∈ wsA := x_in2 208 rfl rfl
theorem kw_449 : (Jvm.Cond.instanceMethod ({ cls := "WideDecimalDesk", name := "set", desc := "(IJIIZ)V" } : Jvm.MethodName)) ∈ wsA := x_in2 209 rfl rfl
theorem kw_450 : (Jvm.Cond.selects "WideDecimalDesk" ({ cls := "WideDecimalDesk", name := "set", desc := "(IJIIZ)V" } : Jvm.MethodName) ({ cls := "WideDecimalDesk", name := "set", desc := "(IJIIZ)V" } : Jvm.MethodName)) ∈ wsA := x_in2 210 rfl rfl
theorem kw_451 : (Jvm.Cond.code ({ cls := "WideDecimalDesk", name := "set", desc := "(IJIIZ)V" } : Jvm.MethodName) prog_1_method_2_code (7 : Nat) (Option.none : Option Jvm.ClassFile.FieldType)) ∈ wsA := x_in2 211 rfl rfl
theorem kw_452 : (Jvm.Cond.methodLink "WideDecimalDesk" (70 : Nat) ({ cls := "WideDecimalDesk", name := "isScale", desc := "(I)Z" } : Jvm.MethodName)) ∈ wsA := x_in2 212 rfl rfl
theorem kw_453 : (Jvm.Cond.static ({ cls := "WideDecimalDesk", name := "isScale", desc := "(I)Z" } : Jvm.MethodName)) ∈ wsA := x_in2 213 rfl rfl
theorem kw_454 : (Jvm.Cond.code ({ cls := "WideDecimalDesk", name := "isScale", desc := "(I)Z" } : Jvm.MethodName) prog_1_method_20_code (1 : Nat) (Option.some Jvm.ClassFile.FieldType.boolean)) ∈ wsA := x_in2 214 rfl rfl
theorem kw_455 : (Jvm.Cond.classLink "WideDecimalDesk" (73 : Nat) "java/lang/IllegalArgumentException") ∈ wsA := x_in2 215 rfl rfl
theorem kw_456 : (Jvm.Cond.instantiable "java/lang/IllegalArgumentException" (6 : Nat)) ∈ wsA := x_in2 216 rfl rfl
theorem kw_464 : (Jvm.Cond.selects "java/lang/IllegalArgumentException" ({ cls := "java/lang/Throwable", name := "fillInStackTrace", desc := "(I)Ljava/lang/Throwable;" } : Jvm.MethodName) ({ cls := "java/lang/Throwable", name := "fillInStackTrace", desc := "(I)Ljava/lang/Throwable;" } : Jvm.MethodName)) ∈ wsA := x_in2 224 rfl rfl
theorem kw_465 : (Jvm.Cond.selects "java/lang/IllegalArgumentException" ({ cls := "java/lang/Throwable", name := "fillInStackTrace", desc := "()Ljava/lang/Throwable;" } : Jvm.MethodName) ({ cls := "java/lang/Throwable", name := "fillInStackTrace", desc := "()Ljava/lang/Throwable;" } : Jvm.MethodName)) ∈ wsA := x_in2 225 rfl rfl
theorem kw_466 : (Jvm.Cond.lays "java/lang/IllegalArgumentException" "java/lang/Throwable" "cause" "Ljava/lang/Throwable;") ∈ wsA := x_in2 226 rfl rfl
theorem kw_467 : (Jvm.Cond.lays "java/lang/Throwable" "java/lang/Throwable" "cause" "Ljava/lang/Throwable;") ∈ wsA := x_in2 227 rfl rfl
theorem kw_468 : (Jvm.Cond.lays "java/lang/IllegalArgumentException" "java/lang/Throwable" "stackTrace" "[Ljava/lang/StackTraceElement;") ∈ wsA := x_in2 228 rfl rfl
theorem kw_469 : (Jvm.Cond.lays "java/lang/Throwable" "java/lang/Throwable" "stackTrace" "[Ljava/lang/StackTraceElement;") ∈ wsA := x_in2 229 rfl rfl
theorem kw_470 : (Jvm.Cond.lays "java/lang/IllegalArgumentException" "java/lang/Throwable" "suppressedExceptions" "Ljava/util/List;") ∈ wsA := x_in2 230 rfl rfl
theorem kw_471 : (Jvm.Cond.lays "java/lang/Throwable" "java/lang/Throwable" "suppressedExceptions" "Ljava/util/List;") ∈ wsA := x_in2 231 rfl rfl
theorem kw_472 : (Jvm.Cond.lays "java/lang/IllegalArgumentException" "java/lang/Throwable" "detailMessage" "Ljava/lang/String;") ∈ wsA := x_in2 232 rfl rfl
theorem kw_473 : (Jvm.Cond.lays "java/lang/Throwable" "java/lang/Throwable" "detailMessage" "Ljava/lang/String;") ∈ wsA := x_in2 233 rfl rfl
theorem kw_474 : (Jvm.Cond.lays "java/lang/IllegalArgumentException" "java/lang/Throwable" "backtrace" "Ljava/lang/Object;") ∈ wsA := x_in2 234 rfl rfl
theorem kw_475 : (Jvm.Cond.lays "java/lang/Throwable" "java/lang/Throwable" "backtrace" "Ljava/lang/Object;") ∈ wsA := x_in2 235 rfl rfl
theorem kw_476 : (Jvm.Cond.fieldLink "java/lang/Throwable" (198 : Nat) "java/lang/Throwable" "backtrace" "Ljava/lang/Object;") ∈ wsA := x_in2 236 rfl rfl
theorem kw_478 : (Jvm.Cond.instanceMethod ({ cls := "java/lang/Throwable", name := "<init>", desc := "()V" } : Jvm.MethodName)) ∈ wsA := x_in2 238 rfl rfl
theorem kw_479 : (Jvm.Cond.code ({ cls := "java/lang/Throwable", name := "<init>", desc := "()V" } : Jvm.MethodName) prog_18_method_1_code (1 : Nat) (Option.none : Option Jvm.ClassFile.FieldType)) ∈ wsA := x_in2 239 rfl rfl
theorem kw_480 : (Jvm.Cond.methodLink "java/lang/Throwable" (1 : Nat) ({ cls := "java/lang/Object", name := "<init>", desc := "()V" } : Jvm.MethodName)) ∈ wsA := x_in3 0 rfl rfl
theorem kw_481 : (Jvm.Cond.fieldLink "java/lang/Throwable" (13 : Nat) "java/lang/Throwable" "UNASSIGNED_STACK" "[Ljava/lang/StackTraceElement;") ∈ wsA := x_in3 1 rfl rfl
theorem kw_483 : (Jvm.Cond.fieldLink "java/lang/Throwable" (20 : Nat) "java/lang/Throwable" "SUPPRESSED_SENTINEL" "Ljava/util/List;") ∈ wsA := x_in3 3 rfl rfl
theorem kw_485 : (Jvm.Cond.methodLink "java/lang/Throwable" (27 : Nat) ({ cls := "java/lang/Throwable", name := "fillInStackTrace", desc := "()Ljava/lang/Throwable;" } : Jvm.MethodName)) ∈ wsA := x_in3 5 rfl rfl
theorem kw_486 : (Jvm.Cond.instanceMethod ({ cls := "java/lang/Throwable", name := "fillInStackTrace", desc := "()Ljava/lang/Throwable;" } : Jvm.MethodName)) ∈ wsA := x_in3 6 rfl rfl
theorem kw_488 : (Jvm.Cond.selects "java/lang/ArithmeticException" ({ cls := "java/lang/Throwable", name := "fillInStackTrace", desc := "()Ljava/lang/Throwable;" } : Jvm.MethodName) ({ cls := "java/lang/Throwable", name := "fillInStackTrace", desc := "()Ljava/lang/Throwable;" } : Jvm.MethodName)) ∈ wsA := x_in3 8 rfl rfl
theorem kw_489 : (Jvm.Cond.selects "java/lang/IllegalStateException" ({ cls := "java/lang/Throwable", name := "fillInStackTrace", desc := "()Ljava/lang/Throwable;" } : Jvm.MethodName) ({ cls := "java/lang/Throwable", name := "fillInStackTrace", desc := "()Ljava/lang/Throwable;" } : Jvm.MethodName)) ∈ wsA := x_in3 9 rfl rfl
theorem kw_491 : (Jvm.Cond.methodLink "java/lang/Throwable" (202 : Nat) ({ cls := "java/lang/Throwable", name := "fillInStackTrace", desc := "(I)Ljava/lang/Throwable;" } : Jvm.MethodName)) ∈ wsA := x_in3 11 rfl rfl
theorem kw_493 : (Jvm.Cond.instanceMethod ({ cls := "java/lang/Throwable", name := "fillInStackTrace", desc := "(I)Ljava/lang/Throwable;" } : Jvm.MethodName)) ∈ wsA := x_in3 13 rfl rfl
theorem kw_494 : (Jvm.Cond.instantiable "java/lang/Throwable" (6 : Nat)) ∈ wsA := x_in3 14 rfl rfl
theorem kn_496 : (Jvm.Cond.stringRef "WideDecimalDesk" (75 : Nat) "register must be 0 .. 5 and scale 0 .. 28") ∈ wsN := x_nn3 16 rfl rfl
theorem kw_497 : (Jvm.Cond.methodLink "WideDecimalDesk" (77 : Nat) ({ cls := "java/lang/IllegalArgumentException", name := "<init>", desc := "(Ljava/lang/String;)V" } : Jvm.MethodName)) ∈ wsA := x_in3 17 rfl rfl
theorem kw_498 : (Jvm.Cond.instanceMethod ({ cls := "java/lang/IllegalArgumentException", name := "<init>", desc := "(Ljava/lang/String;)V" } : Jvm.MethodName)) ∈ wsA := x_in3 18 rfl rfl
theorem kw_499 : (Jvm.Cond.code ({ cls := "java/lang/IllegalArgumentException", name := "<init>", desc := "(Ljava/lang/String;)V" } : Jvm.MethodName) prog_13_method_2_code (2 : Nat) (Option.none : Option Jvm.ClassFile.FieldType)) ∈ wsA := x_in3 19 rfl rfl
theorem kw_500 : (Jvm.Cond.methodLink "java/lang/IllegalArgumentException" (7 : Nat) ({ cls := "java/lang/RuntimeException", name := "<init>", desc := "(Ljava/lang/String;)V" } : Jvm.MethodName)) ∈ wsA := x_in3 20 rfl rfl
theorem kw_501 : (Jvm.Cond.instanceMethod ({ cls := "java/lang/RuntimeException", name := "<init>", desc := "(Ljava/lang/String;)V" } : Jvm.MethodName)) ∈ wsA := x_in3 21 rfl rfl
theorem kw_502 : (Jvm.Cond.code ({ cls := "java/lang/RuntimeException", name := "<init>", desc := "(Ljava/lang/String;)V" } : Jvm.MethodName) prog_16_method_2_code (2 : Nat) (Option.none : Option Jvm.ClassFile.FieldType)) ∈ wsA := x_in3 22 rfl rfl
theorem kw_503 : (Jvm.Cond.methodLink "java/lang/RuntimeException" (7 : Nat) ({ cls := "java/lang/Exception", name := "<init>", desc := "(Ljava/lang/String;)V" } : Jvm.MethodName)) ∈ wsA := x_in3 23 rfl rfl
theorem kw_504 : (Jvm.Cond.instanceMethod ({ cls := "java/lang/Exception", name := "<init>", desc := "(Ljava/lang/String;)V" } : Jvm.MethodName)) ∈ wsA := x_in3 24 rfl rfl
theorem kw_505 : (Jvm.Cond.code ({ cls := "java/lang/Exception", name := "<init>", desc := "(Ljava/lang/String;)V" } : Jvm.MethodName) prog_12_method_2_code (2 : Nat) (Option.none : Option Jvm.ClassFile.FieldType)) ∈ wsA := x_in3 25 rfl rfl
theorem kw_506 : (Jvm.Cond.methodLink "java/lang/Exception" (7 : Nat) ({ cls := "java/lang/Throwable", name := "<init>", desc := "(Ljava/lang/String;)V" } : Jvm.MethodName)) ∈ wsA := x_in3 26 rfl rfl
theorem kw_507 : (Jvm.Cond.instanceMethod ({ cls := "java/lang/Throwable", name := "<init>", desc := "(Ljava/lang/String;)V" } : Jvm.MethodName)) ∈ wsA := x_in3 27 rfl rfl
theorem kw_508 : (Jvm.Cond.code ({ cls := "java/lang/Throwable", name := "<init>", desc := "(Ljava/lang/String;)V" } : Jvm.MethodName) prog_18_method_2_code (2 : Nat) (Option.none : Option Jvm.ClassFile.FieldType)) ∈ wsA := x_in3 28 rfl rfl
theorem kw_509 : (Jvm.Cond.fieldLink "java/lang/Throwable" (198 : Nat) "java/lang/Throwable" "backtrace" "Ljava/lang/Object;") ∈ wsA := x_in3 29 rfl rfl
theorem kw_510 : (Jvm.Cond.fieldLink "java/lang/Throwable" (31 : Nat) "java/lang/Throwable" "detailMessage" "Ljava/lang/String;") ∈ wsA := x_in3 30 rfl rfl
theorem kw_511 : (Jvm.Cond.fieldLink "java/lang/Throwable" (7 : Nat) "java/lang/Throwable" "cause" "Ljava/lang/Throwable;") ∈ wsA := x_in3 31 rfl rfl
theorem kw_512 : (Jvm.Cond.fieldLink "java/lang/Throwable" (17 : Nat) "java/lang/Throwable" "stackTrace" "[Ljava/lang/StackTraceElement;") ∈ wsA := x_in3 32 rfl rfl
theorem kw_513 : (Jvm.Cond.fieldLink "java/lang/Throwable" (24 : Nat) "java/lang/Throwable" "suppressedExceptions" "Ljava/util/List;") ∈ wsA := x_in3 33 rfl rfl
theorem kw_518 : (Jvm.Cond.lays "java/lang/IllegalArgumentException" "java/lang/Throwable" "depth" "I") ∈ wsA := x_in3 38 rfl rfl
theorem kw_522 : (Jvm.Cond.methodLink "WideDecimalDesk" (80 : Nat) ({ cls := "WideDecimalDesk$Register", name := "take", desc := "(JIIZ)V" } : Jvm.MethodName)) ∈ wsA := x_in3 42 rfl rfl
theorem kw_523 : (Jvm.Cond.methodLink "WideDecimalDeskLaw" (79 : Nat) ({ cls := "WideDecimalDeskLaw", name := "compute", desc := "(LWideDecimalDesk;IIII)I" } : Jvm.MethodName)) ∈ wsA := x_in3 43 rfl rfl
theorem kw_524 : (Jvm.Cond.static ({ cls := "WideDecimalDeskLaw", name := "compute", desc := "(LWideDecimalDesk;IIII)I" } : Jvm.MethodName)) ∈ wsA := x_in3 44 rfl rfl
theorem kw_525 : (Jvm.Cond.codeWith ({ cls := "WideDecimalDeskLaw", name := "compute", desc := "(LWideDecimalDesk;IIII)I" } : Jvm.MethodName) method_4_code (6 : Nat) (Option.some Jvm.ClassFile.FieldType.int) [((0 : Nat), (9 : Nat), (12 : Nat), (13 : Nat)), ((0 : Nat), (9 : Nat), (16 : Nat), (19 : Nat))]) ∈ wsA := x_in3 45 rfl rfl
theorem kw_526 : (Jvm.Cond.classLink "WideDecimalDeskLaw" (19 : Nat) "java/lang/ArithmeticException") ∈ wsA := x_in3 46 rfl rfl
theorem kw_527 : (Jvm.Cond.methodLink "WideDecimalDeskLaw" (15 : Nat) ({ cls := "WideDecimalDesk", name := "compute", desc := "(IIII)V" } : Jvm.MethodName)) ∈ wsA := x_in3 47 rfl rfl
theorem kw_528 : (Jvm.Cond.instanceMethod ({ cls := "WideDecimalDesk", name := "compute", desc := "(IIII)V" } : Jvm.MethodName)) ∈ wsA := x_in3 48 rfl rfl
theorem kw_529 : (Jvm.Cond.selects "WideDecimalDesk" ({ cls := "WideDecimalDesk", name := "compute", desc := "(IIII)V" } : Jvm.MethodName) ({ cls := "WideDecimalDesk", name := "compute", desc := "(IIII)V" } : Jvm.MethodName)) ∈ wsA := x_in3 49 rfl rfl
theorem kw_530 : (Jvm.Cond.code ({ cls := "WideDecimalDesk", name := "compute", desc := "(IIII)V" } : Jvm.MethodName) prog_1_method_7_code (5 : Nat) (Option.none : Option Jvm.ClassFile.FieldType)) ∈ wsA := x_in3 50 rfl rfl
theorem kn_531 : (Jvm.Cond.stringRef "WideDecimalDesk" (103 : Nat) "operation must be 0 .. 4 and registers 0 .. 5") ∈ wsN := x_nn3 51 rfl rfl
theorem kw_532 : (Jvm.Cond.classLink "WideDecimalDesk" (109 : Nat) "java/lang/ArithmeticException") ∈ wsA := x_in3 52 rfl rfl
theorem kw_533 : (Jvm.Cond.instantiable "java/lang/ArithmeticException" (6 : Nat)) ∈ wsA := x_in3 53 rfl rfl
theorem kw_535 : (Jvm.Cond.selects "java/lang/ArithmeticException" ({ cls := "java/lang/Throwable", name := "fillInStackTrace", desc := "(I)Ljava/lang/Throwable;" } : Jvm.MethodName) ({ cls := "java/lang/Throwable", name := "fillInStackTrace", desc := "(I)Ljava/lang/Throwable;" } : Jvm.MethodName)) ∈ wsA := x_in3 55 rfl rfl
theorem kw_536 : (Jvm.Cond.lays "java/lang/ArithmeticException" "java/lang/Throwable" "cause" "Ljava/lang/Throwable;") ∈ wsA := x_in3 56 rfl rfl
theorem kw_537 : (Jvm.Cond.lays "java/lang/ArithmeticException" "java/lang/Throwable" "stackTrace" "[Ljava/lang/StackTraceElement;") ∈ wsA := x_in3 57 rfl rfl
theorem kw_538 : (Jvm.Cond.lays "java/lang/ArithmeticException" "java/lang/Throwable" "suppressedExceptions" "Ljava/util/List;") ∈ wsA := x_in3 58 rfl rfl
theorem kw_539 : (Jvm.Cond.lays "java/lang/ArithmeticException" "java/lang/Throwable" "detailMessage" "Ljava/lang/String;") ∈ wsA := x_in3 59 rfl rfl
theorem kw_540 : (Jvm.Cond.lays "java/lang/ArithmeticException" "java/lang/Throwable" "backtrace" "Ljava/lang/Object;") ∈ wsA := x_in3 60 rfl rfl
theorem kn_541 : (Jvm.Cond.stringRef "WideDecimalDesk" (111 : Nat) "division by 0, or too large a result") ∈ wsN := x_nn3 61 rfl rfl
theorem kw_542 : (Jvm.Cond.methodLink "WideDecimalDesk" (113 : Nat) ({ cls := "java/lang/ArithmeticException", name := "<init>", desc := "(Ljava/lang/String;)V" } : Jvm.MethodName)) ∈ wsA := x_in3 62 rfl rfl
theorem kw_543 : (Jvm.Cond.instanceMethod ({ cls := "java/lang/ArithmeticException", name := "<init>", desc := "(Ljava/lang/String;)V" } : Jvm.MethodName)) ∈ wsA := x_in3 63 rfl rfl
theorem kw_544 : (Jvm.Cond.code ({ cls := "java/lang/ArithmeticException", name := "<init>", desc := "(Ljava/lang/String;)V" } : Jvm.MethodName) prog_11_method_2_code (2 : Nat) (Option.none : Option Jvm.ClassFile.FieldType)) ∈ wsA := x_in3 64 rfl rfl
theorem kw_545 : (Jvm.Cond.methodLink "java/lang/ArithmeticException" (7 : Nat) ({ cls := "java/lang/RuntimeException", name := "<init>", desc := "(Ljava/lang/String;)V" } : Jvm.MethodName)) ∈ wsA := x_in3 65 rfl rfl
theorem kw_546 : (Jvm.Cond.lays "java/lang/ArithmeticException" "java/lang/Throwable" "depth" "I") ∈ wsA := x_in3 66 rfl rfl
theorem kw_548 : (Jvm.Cond.methodLink "WideDecimalDeskLaw" (88 : Nat) ({ cls := "WideDecimalDeskLaw", name := "round", desc := "(LWideDecimalDesk;IIII)I" } : Jvm.MethodName)) ∈ wsA := x_in3 68 rfl rfl
theorem kw_549 : (Jvm.Cond.static ({ cls := "WideDecimalDeskLaw", name := "round", desc := "(LWideDecimalDesk;IIII)I" } : Jvm.MethodName)) ∈ wsA := x_in3 69 rfl rfl
theorem kw_550 : (Jvm.Cond.codeWith ({ cls := "WideDecimalDeskLaw", name := "round", desc := "(LWideDecimalDesk;IIII)I" } : Jvm.MethodName) method_5_code (6 : Nat) (Option.some Jvm.ClassFile.FieldType.int) [((0 : Nat), (9 : Nat), (12 : Nat), (13 : Nat))]) ∈ wsA := x_in3 70 rfl rfl
theorem kw_551 : (Jvm.Cond.methodLink "WideDecimalDeskLaw" (21 : Nat) ({ cls := "WideDecimalDesk", name := "round", desc := "(IIII)V" } : Jvm.MethodName)) ∈ wsA := x_in3 71 rfl rfl
theorem kw_552 : (Jvm.Cond.instanceMethod ({ cls := "WideDecimalDesk", name := "round", desc := "(IIII)V" } : Jvm.MethodName)) ∈ wsA := x_in3 72 rfl rfl
theorem kw_553 : (Jvm.Cond.selects "WideDecimalDesk" ({ cls := "WideDecimalDesk", name := "round", desc := "(IIII)V" } : Jvm.MethodName) ({ cls := "WideDecimalDesk", name := "round", desc := "(IIII)V" } : Jvm.MethodName)) ∈ wsA := x_in3 73 rfl rfl
theorem kw_554 : (Jvm.Cond.code ({ cls := "WideDecimalDesk", name := "round", desc := "(IIII)V" } : Jvm.MethodName) prog_1_method_9_code (5 : Nat) (Option.none : Option Jvm.ClassFile.FieldType)) ∈ wsA := x_in3 74 rfl rfl
theorem kw_555 : (Jvm.Cond.methodLink "WideDecimalDesk" (118 : Nat) ({ cls := "WideDecimalDesk", name := "isMode", desc := "(I)Z" } : Jvm.MethodName)) ∈ wsA := x_in3 75 rfl rfl
theorem kw_556 : (Jvm.Cond.static ({ cls := "WideDecimalDesk", name := "isMode", desc := "(I)Z" } : Jvm.MethodName)) ∈ wsA := x_in3 76 rfl rfl
theorem kw_557 : (Jvm.Cond.code ({ cls := "WideDecimalDesk", name := "isMode", desc := "(I)Z" } : Jvm.MethodName) prog_1_method_21_code (1 : Nat) (Option.some Jvm.ClassFile.FieldType.boolean)) ∈ wsA := x_in3 77 rfl rfl
theorem kn_558 : (Jvm.Cond.stringRef "WideDecimalDesk" (121 : Nat) "registers must be 0 .. 5, digits 0 .. 28 and mode 0 .. 4") ∈ wsN := x_nn3 78 rfl rfl
theorem kw_559 : (Jvm.Cond.methodLink "WideDecimalDesk" (126 : Nat) ({ cls := "WideDecimalDesk$Draft", name := "shortenTo", desc := "(II)V" } : Jvm.MethodName)) ∈ wsA := x_in3 79 rfl rfl
theorem kw_560 : (Jvm.Cond.instanceMethod ({ cls := "WideDecimalDesk$Draft", name := "shortenTo", desc := "(II)V" } : Jvm.MethodName)) ∈ wsA := x_in3 80 rfl rfl
theorem kw_561 : (Jvm.Cond.selects "WideDecimalDesk$Draft" ({ cls := "WideDecimalDesk$Draft", name := "shortenTo", desc := "(II)V" } : Jvm.MethodName) ({ cls := "WideDecimalDesk$Draft", name := "shortenTo", desc := "(II)V" } : Jvm.MethodName)) ∈ wsA := x_in3 81 rfl rfl
theorem kw_562 : (Jvm.Cond.code ({ cls := "WideDecimalDesk$Draft", name := "shortenTo", desc := "(II)V" } : Jvm.MethodName) prog_3_method_11_code (3 : Nat) (Option.none : Option Jvm.ClassFile.FieldType)) ∈ wsA := x_in3 82 rfl rfl
theorem kw_563 : (Jvm.Cond.methodLink "WideDecimalDeskLaw" (91 : Nat) ({ cls := "WideDecimalDeskLaw", name := "trim", desc := "(LWideDecimalDesk;II)I" } : Jvm.MethodName)) ∈ wsA := x_in3 83 rfl rfl
theorem kw_564 : (Jvm.Cond.static ({ cls := "WideDecimalDeskLaw", name := "trim", desc := "(LWideDecimalDesk;II)I" } : Jvm.MethodName)) ∈ wsA := x_in3 84 rfl rfl
theorem kw_565 : (Jvm.Cond.codeWith ({ cls := "WideDecimalDeskLaw", name := "trim", desc := "(LWideDecimalDesk;II)I" } : Jvm.MethodName) method_6_code (4 : Nat) (Option.some Jvm.ClassFile.FieldType.int) [((0 : Nat), (6 : Nat), (9 : Nat), (13 : Nat))]) ∈ wsA := x_in3 85 rfl rfl
theorem kw_566 : (Jvm.Cond.methodLink "WideDecimalDeskLaw" (24 : Nat) ({ cls := "WideDecimalDesk", name := "trim", desc := "(II)V" } : Jvm.MethodName)) ∈ wsA := x_in3 86 rfl rfl
theorem kw_567 : (Jvm.Cond.instanceMethod ({ cls := "WideDecimalDesk", name := "trim", desc := "(II)V" } : Jvm.MethodName)) ∈ wsA := x_in3 87 rfl rfl
theorem kw_568 : (Jvm.Cond.selects "WideDecimalDesk" ({ cls := "WideDecimalDesk", name := "trim", desc := "(II)V" } : Jvm.MethodName) ({ cls := "WideDecimalDesk", name := "trim", desc := "(II)V" } : Jvm.MethodName)) ∈ wsA := x_in3 88 rfl rfl
theorem kw_569 : (Jvm.Cond.code ({ cls := "WideDecimalDesk", name := "trim", desc := "(II)V" } : Jvm.MethodName) prog_1_method_10_code (3 : Nat) (Option.none : Option Jvm.ClassFile.FieldType)) ∈ wsA := x_in3 89 rfl rfl
theorem kn_570 : (Jvm.Cond.stringRef "WideDecimalDesk" (130 : Nat) "registers must be 0 .. 5") ∈ wsN := x_nn3 90 rfl rfl
theorem kw_571 : (Jvm.Cond.methodLink "WideDecimalDesk" (132 : Nat) ({ cls := "WideDecimalDesk$Draft", name := "dropZeros", desc := "()V" } : Jvm.MethodName)) ∈ wsA := x_in3 91 rfl rfl
theorem kw_572 : (Jvm.Cond.instanceMethod ({ cls := "WideDecimalDesk$Draft", name := "dropZeros", desc := "()V" } : Jvm.MethodName)) ∈ wsA := x_in3 92 rfl rfl
theorem kw_573 : (Jvm.Cond.selects "WideDecimalDesk$Draft" ({ cls := "WideDecimalDesk$Draft", name := "dropZeros", desc := "()V" } : Jvm.MethodName) ({ cls := "WideDecimalDesk$Draft", name := "dropZeros", desc := "()V" } : Jvm.MethodName)) ∈ wsA := x_in3 93 rfl rfl
theorem kw_574 : (Jvm.Cond.code ({ cls := "WideDecimalDesk$Draft", name := "dropZeros", desc := "()V" } : Jvm.MethodName) prog_3_method_12_code (2 : Nat) (Option.none : Option Jvm.ClassFile.FieldType)) ∈ wsA := x_in3 94 rfl rfl
theorem kw_575 : (Jvm.Cond.methodLink "WideDecimalDeskLaw" (95 : Nat) ({ cls := "WideDecimalDeskLaw", name := "compare", desc := "(LWideDecimalDesk;II[J)I" } : Jvm.MethodName)) ∈ wsA := x_in3 95 rfl rfl
theorem kw_576 : (Jvm.Cond.static ({ cls := "WideDecimalDeskLaw", name := "compare", desc := "(LWideDecimalDesk;II[J)I" } : Jvm.MethodName)) ∈ wsA := x_in3 96 rfl rfl
theorem kw_577 : (Jvm.Cond.codeWith ({ cls := "WideDecimalDeskLaw", name := "compare", desc := "(LWideDecimalDesk;II[J)I" } : Jvm.MethodName) method_7_code (5 : Nat) (Option.some Jvm.ClassFile.FieldType.int) [((0 : Nat), (10 : Nat), (13 : Nat), (13 : Nat))]) ∈ wsA := x_in3 97 rfl rfl
theorem kw_578 : (Jvm.Cond.methodLink "WideDecimalDeskLaw" (28 : Nat) ({ cls := "WideDecimalDesk", name := "compare", desc := "(II)I" } : Jvm.MethodName)) ∈ wsA := x_in3 98 rfl rfl
theorem kw_579 : (Jvm.Cond.instanceMethod ({ cls := "WideDecimalDesk", name := "compare", desc := "(II)I" } : Jvm.MethodName)) ∈ wsA := x_in3 99 rfl rfl
theorem kw_580 : (Jvm.Cond.selects "WideDecimalDesk" ({ cls := "WideDecimalDesk", name := "compare", desc := "(II)I" } : Jvm.MethodName) ({ cls := "WideDecimalDesk", name := "compare", desc := "(II)I" } : Jvm.MethodName)) ∈ wsA := x_in3 100 rfl rfl
theorem kw_581 : (Jvm.Cond.code ({ cls := "WideDecimalDesk", name := "compare", desc := "(II)I" } : Jvm.MethodName) prog_1_method_11_code (3 : Nat) (Option.some Jvm.ClassFile.FieldType.int)) ∈ wsA := x_in3 101 rfl rfl
theorem kw_582 : (Jvm.Cond.methodLink "WideDecimalDesk" (139 : Nat) ({ cls := "WideDecimalDesk$Draft", name := "against", desc := "(LWideDecimalDesk$Draft;)I" } : Jvm.MethodName)) ∈ wsA := x_in3 102 rfl rfl
theorem kw_583 : (Jvm.Cond.instanceMethod ({ cls := "WideDecimalDesk$Draft", name := "against", desc := "(LWideDecimalDesk$Draft;)I" } : Jvm.MethodName)) ∈ wsA := x_in3 103 rfl rfl
theorem kw_584 : (Jvm.Cond.selects "WideDecimalDesk$Draft" ({ cls := "WideDecimalDesk$Draft", name := "against", desc := "(LWideDecimalDesk$Draft;)I" } : Jvm.MethodName) ({ cls := "WideDecimalDesk$Draft", name := "against", desc := "(LWideDecimalDesk$Draft;)I" } : Jvm.MethodName)) ∈ wsA := x_in3 104 rfl rfl
theorem kw_585 : (Jvm.Cond.code ({ cls := "WideDecimalDesk$Draft", name := "against", desc := "(LWideDecimalDesk$Draft;)I" } : Jvm.MethodName) prog_3_method_8_code (2 : Nat) (Option.some Jvm.ClassFile.FieldType.int)) ∈ wsA := x_in3 105 rfl rfl
theorem kw_586 : (Jvm.Cond.methodLink "WideDecimalDeskLaw" (108 : Nat) ({ cls := "WideDecimalDeskLaw", name := "parse", desc := "(LWideDecimalDesk;I)I" } : Jvm.MethodName)) ∈ wsA := x_in3 106 rfl rfl
theorem kw_587 : (Jvm.Cond.static ({ cls := "WideDecimalDeskLaw", name := "parse", desc := "(LWideDecimalDesk;I)I" } : Jvm.MethodName)) ∈ wsA := x_in3 107 rfl rfl
theorem kw_588 : (Jvm.Cond.codeWith ({ cls := "WideDecimalDeskLaw", name := "parse", desc := "(LWideDecimalDesk;I)I" } : Jvm.MethodName) method_8_code (3 : Nat) (Option.some Jvm.ClassFile.FieldType.int) [((0 : Nat), (5 : Nat), (8 : Nat), (13 : Nat)), ((0 : Nat), (5 : Nat), (11 : Nat), (36 : Nat)), ((0 : Nat), (5 : Nat), (14 : Nat), (19 : Nat))]) ∈ wsA := x_in3 108 rfl rfl
theorem kw_589 : (Jvm.Cond.classLink "WideDecimalDeskLaw" (36 : Nat) "java/lang/IllegalStateException") ∈ wsA := x_in3 109 rfl rfl
theorem kw_590 : (Jvm.Cond.methodLink "WideDecimalDeskLaw" (32 : Nat) ({ cls := "WideDecimalDesk", name := "parse", desc := "(I)V" } : Jvm.MethodName)) ∈ wsA := x_in3 110 rfl rfl
theorem kw_591 : (Jvm.Cond.instanceMethod ({ cls := "WideDecimalDesk", name := "parse", desc := "(I)V" } : Jvm.MethodName)) ∈ wsA := x_in3 111 rfl rfl
theorem kw_592 : (Jvm.Cond.selects "WideDecimalDesk" ({ cls := "WideDecimalDesk", name := "parse", desc := "(I)V" } : Jvm.MethodName) ({ cls := "WideDecimalDesk", name := "parse", desc := "(I)V" } : Jvm.MethodName)) ∈ wsA := x_in3 112 rfl rfl
theorem kw_593 : (Jvm.Cond.code ({ cls := "WideDecimalDesk", name := "parse", desc := "(I)V" } : Jvm.MethodName) prog_1_method_14_code (2 : Nat) (Option.none : Option Jvm.ClassFile.FieldType)) ∈ wsA := x_in3 113 rfl rfl
theorem kn_594 : (Jvm.Cond.stringRef "WideDecimalDesk" (150 : Nat) "register must be 0 .. 5") ∈ wsN := x_nn3 114 rfl rfl
theorem kw_595 : (Jvm.Cond.methodLink "WideDecimalDesk" (152 : Nat) ({ cls := "WideDecimalDesk$Draft", name := "read", desc := "(LWideDecimalDesk$Line;)Z" } : Jvm.MethodName)) ∈ wsA := x_in3 115 rfl rfl
theorem kw_596 : (Jvm.Cond.instanceMethod ({ cls := "WideDecimalDesk$Draft", name := "read", desc := "(LWideDecimalDesk$Line;)Z" } : Jvm.MethodName)) ∈ wsA := x_in3 116 rfl rfl
theorem kw_597 : (Jvm.Cond.selects "WideDecimalDesk$Draft" ({ cls := "WideDecimalDesk$Draft", name := "read", desc := "(LWideDecimalDesk$Line;)Z" } : Jvm.MethodName) ({ cls := "WideDecimalDesk$Draft", name := "read", desc := "(LWideDecimalDesk$Line;)Z" } : Jvm.MethodName)) ∈ wsA := x_in3 117 rfl rfl
theorem kw_598 : (Jvm.Cond.code ({ cls := "WideDecimalDesk$Draft", name := "read", desc := "(LWideDecimalDesk$Line;)Z" } : Jvm.MethodName) prog_3_method_5_code (7 : Nat) (Option.some Jvm.ClassFile.FieldType.boolean)) ∈ wsA := x_in3 118 rfl rfl
theorem kw_599 : (Jvm.Cond.methodLink "WideDecimalDesk$Draft" (61 : Nat) ({ cls := "WideDecimalDesk$Line", name := "codeAt", desc := "(I)I" } : Jvm.MethodName)) ∈ wsA := x_in3 119 rfl rfl
theorem kw_600 : (Jvm.Cond.classLink "WideDecimalDesk" (156 : Nat) "java/lang/IllegalStateException") ∈ wsA := x_in3 120 rfl rfl
theorem kw_601 : (Jvm.Cond.instantiable "java/lang/IllegalStateException" (6 : Nat)) ∈ wsA := x_in3 121 rfl rfl
theorem kw_603 : (Jvm.Cond.selects "java/lang/IllegalStateException" ({ cls := "java/lang/Throwable", name := "fillInStackTrace", desc := "(I)Ljava/lang/Throwable;" } : Jvm.MethodName) ({ cls := "java/lang/Throwable", name := "fillInStackTrace", desc := "(I)Ljava/lang/Throwable;" } : Jvm.MethodName)) ∈ wsA := x_in3 123 rfl rfl
theorem kw_604 : (Jvm.Cond.lays "java/lang/IllegalStateException" "java/lang/Throwable" "cause" "Ljava/lang/Throwable;") ∈ wsA := x_in3 124 rfl rfl
theorem kw_605 : (Jvm.Cond.lays "java/lang/IllegalStateException" "java/lang/Throwable" "stackTrace" "[Ljava/lang/StackTraceElement;") ∈ wsA := x_in3 125 rfl rfl
theorem kw_606 : (Jvm.Cond.lays "java/lang/IllegalStateException" "java/lang/Throwable" "suppressedExceptions" "Ljava/util/List;") ∈ wsA := x_in3 126 rfl rfl
theorem kw_607 : (Jvm.Cond.lays "java/lang/IllegalStateException" "java/lang/Throwable" "detailMessage" "Ljava/lang/String;") ∈ wsA := x_in3 127 rfl rfl
theorem kw_608 : (Jvm.Cond.lays "java/lang/IllegalStateException" "java/lang/Throwable" "backtrace" "Ljava/lang/Object;") ∈ wsA := x_in3 128 rfl rfl
theorem kn_609 : (Jvm.Cond.stringRef "WideDecimalDesk" (158 : Nat) "the text is no number") ∈ wsN := x_nn3 129 rfl rfl
theorem kw_610 : (Jvm.Cond.methodLink "WideDecimalDesk" (160 : Nat) ({ cls := "java/lang/IllegalStateException", name := "<init>", desc := "(Ljava/lang/String;)V" } : Jvm.MethodName)) ∈ wsA := x_in3 130 rfl rfl
theorem kw_611 : (Jvm.Cond.instanceMethod ({ cls := "java/lang/IllegalStateException", name := "<init>", desc := "(Ljava/lang/String;)V" } : Jvm.MethodName)) ∈ wsA := x_in3 131 rfl rfl
theorem kw_612 : (Jvm.Cond.code ({ cls := "java/lang/IllegalStateException", name := "<init>", desc := "(Ljava/lang/String;)V" } : Jvm.MethodName) prog_14_method_2_code (2 : Nat) (Option.none : Option Jvm.ClassFile.FieldType)) ∈ wsA := x_in3 132 rfl rfl
theorem kw_613 : (Jvm.Cond.methodLink "java/lang/IllegalStateException" (7 : Nat) ({ cls := "java/lang/RuntimeException", name := "<init>", desc := "(Ljava/lang/String;)V" } : Jvm.MethodName)) ∈ wsA := x_in3 133 rfl rfl
theorem kw_614 : (Jvm.Cond.lays "java/lang/IllegalStateException" "java/lang/Throwable" "depth" "I") ∈ wsA := x_in3 134 rfl rfl
theorem kn_616 : (Jvm.Cond.stringRef "WideDecimalDesk" (165 : Nat) "too large a number") ∈ wsN := x_nn3 136 rfl rfl
theorem kw_617 : (Jvm.Cond.methodLink "WideDecimalDeskLaw" (112 : Nat) ({ cls := "WideDecimalDeskLaw", name := "show", desc := "(LWideDecimalDesk;I[J)I" } : Jvm.MethodName)) ∈ wsA := x_in3 137 rfl rfl
theorem kw_618 : (Jvm.Cond.static ({ cls := "WideDecimalDeskLaw", name := "show", desc := "(LWideDecimalDesk;I[J)I" } : Jvm.MethodName)) ∈ wsA := x_in3 138 rfl rfl
theorem kw_619 : (Jvm.Cond.codeWith ({ cls := "WideDecimalDeskLaw", name := "show", desc := "(LWideDecimalDesk;I[J)I" } : Jvm.MethodName) method_9_code (4 : Nat) (Option.some Jvm.ClassFile.FieldType.int) [((0 : Nat), (9 : Nat), (12 : Nat), (13 : Nat))]) ∈ wsA := x_in3 139 rfl rfl
theorem kw_620 : (Jvm.Cond.methodLink "WideDecimalDeskLaw" (38 : Nat) ({ cls := "WideDecimalDesk", name := "show", desc := "(I)I" } : Jvm.MethodName)) ∈ wsA := x_in3 140 rfl rfl
theorem kw_621 : (Jvm.Cond.instanceMethod ({ cls := "WideDecimalDesk", name := "show", desc := "(I)I" } : Jvm.MethodName)) ∈ wsA := x_in3 141 rfl rfl
theorem kw_622 : (Jvm.Cond.selects "WideDecimalDesk" ({ cls := "WideDecimalDesk", name := "show", desc := "(I)I" } : Jvm.MethodName) ({ cls := "WideDecimalDesk", name := "show", desc := "(I)I" } : Jvm.MethodName)) ∈ wsA := x_in3 142 rfl rfl
theorem kw_623 : (Jvm.Cond.code ({ cls := "WideDecimalDesk", name := "show", desc := "(I)I" } : Jvm.MethodName) prog_1_method_15_code (2 : Nat) (Option.some Jvm.ClassFile.FieldType.int)) ∈ wsA := x_in3 143 rfl rfl
theorem kw_624 : (Jvm.Cond.methodLink "WideDecimalDesk" (167 : Nat) ({ cls := "WideDecimalDesk", name := "writePlainly", desc := "()V" } : Jvm.MethodName)) ∈ wsA := x_in3 144 rfl rfl
theorem kw_626 : (Jvm.Cond.instanceMethod ({ cls := "WideDecimalDesk", name := "writePlainly", desc := "()V" } : Jvm.MethodName)) ∈ wsA := x_in3 146 rfl rfl
theorem kw_627 : (Jvm.Cond.code ({ cls := "WideDecimalDesk", name := "writePlainly", desc := "()V" } : Jvm.MethodName) prog_1_method_30_code (2 : Nat) (Option.none : Option Jvm.ClassFile.FieldType)) ∈ wsA := x_in3 147 rfl rfl
theorem kw_628 : (Jvm.Cond.methodLink "WideDecimalDesk" (258 : Nat) ({ cls := "WideDecimalDesk", name := "writeSign", desc := "()V" } : Jvm.MethodName)) ∈ wsA := x_in3 148 rfl rfl
theorem kw_630 : (Jvm.Cond.instanceMethod ({ cls := "WideDecimalDesk", name := "writeSign", desc := "()V" } : Jvm.MethodName)) ∈ wsA := x_in3 150 rfl rfl
theorem kw_631 : (Jvm.Cond.code ({ cls := "WideDecimalDesk", name := "writeSign", desc := "()V" } : Jvm.MethodName) prog_1_method_32_code (1 : Nat) (Option.none : Option Jvm.ClassFile.FieldType)) ∈ wsA := x_in3 151 rfl rfl
theorem kw_632 : (Jvm.Cond.methodLink "WideDecimalDesk" (290 : Nat) ({ cls := "WideDecimalDesk$Whole", name := "isZero", desc := "()Z" } : Jvm.MethodName)) ∈ wsA := x_in3 152 rfl rfl
theorem kw_633 : (Jvm.Cond.methodLink "WideDecimalDesk" (265 : Nat) ({ cls := "WideDecimalDesk", name := "writeBeforePoint", desc := "(IIZ)V" } : Jvm.MethodName)) ∈ wsA := x_in3 153 rfl rfl
theorem kw_635 : (Jvm.Cond.instanceMethod ({ cls := "WideDecimalDesk", name := "writeBeforePoint", desc := "(IIZ)V" } : Jvm.MethodName)) ∈ wsA := x_in3 155 rfl rfl
theorem kw_636 : (Jvm.Cond.code ({ cls := "WideDecimalDesk", name := "writeBeforePoint", desc := "(IIZ)V" } : Jvm.MethodName) prog_1_method_33_code (5 : Nat) (Option.none : Option Jvm.ClassFile.FieldType)) ∈ wsA := x_in3 156 rfl rfl
theorem kw_637 : (Jvm.Cond.methodLink "WideDecimalDesk" (291 : Nat) ({ cls := "WideDecimalDesk$Digits", name := "mark", desc := "(I)C" } : Jvm.MethodName)) ∈ wsA := x_in3 157 rfl rfl
theorem kw_638 : (Jvm.Cond.instanceMethod ({ cls := "WideDecimalDesk$Digits", name := "mark", desc := "(I)C" } : Jvm.MethodName)) ∈ wsA := x_in3 158 rfl rfl
theorem kw_639 : (Jvm.Cond.selects "WideDecimalDesk$Digits" ({ cls := "WideDecimalDesk$Digits", name := "mark", desc := "(I)C" } : Jvm.MethodName) ({ cls := "WideDecimalDesk$Digits", name := "mark", desc := "(I)C" } : Jvm.MethodName)) ∈ wsA := x_in3 159 rfl rfl
theorem kw_640 : (Jvm.Cond.code ({ cls := "WideDecimalDesk$Digits", name := "mark", desc := "(I)C" } : Jvm.MethodName) prog_2_method_4_code (2 : Nat) (Option.some Jvm.ClassFile.FieldType.char)) ∈ wsA := x_in3 160 rfl rfl
theorem kw_641 : (Jvm.Cond.methodLink "WideDecimalDesk$Digits" (27 : Nat) ({ cls := "WideDecimalDesk$Digits", name := "digit", desc := "(I)I" } : Jvm.MethodName)) ∈ wsA := x_in3 161 rfl rfl
theorem kw_642 : (Jvm.Cond.methodLink "WideDecimalDesk" (269 : Nat) ({ cls := "WideDecimalDesk", name := "writeBehindPoint", desc := "(II)V" } : Jvm.MethodName)) ∈ wsA := x_in3 162 rfl rfl
theorem kw_644 : (Jvm.Cond.instanceMethod ({ cls := "WideDecimalDesk", name := "writeBehindPoint", desc := "(II)V" } : Jvm.MethodName)) ∈ wsA := x_in3 164 rfl rfl
theorem kw_645 : (Jvm.Cond.code ({ cls := "WideDecimalDesk", name := "writeBehindPoint", desc := "(II)V" } : Jvm.MethodName) prog_1_method_34_code (4 : Nat) (Option.none : Option Jvm.ClassFile.FieldType)) ∈ wsA := x_in3 165 rfl rfl
theorem kw_646 : (Jvm.Cond.methodLink "WideDecimalDeskLaw" (116 : Nat) ({ cls := "WideDecimalDeskLaw", name := "format", desc := "(LWideDecimalDesk;I[J)I" } : Jvm.MethodName)) ∈ wsA := x_in3 166 rfl rfl
theorem kw_647 : (Jvm.Cond.static ({ cls := "WideDecimalDeskLaw", name := "format", desc := "(LWideDecimalDesk;I[J)I" } : Jvm.MethodName)) ∈ wsA := x_in3 167 rfl rfl
theorem kw_648 : (Jvm.Cond.codeWith ({ cls := "WideDecimalDeskLaw", name := "format", desc := "(LWideDecimalDesk;I[J)I" } : Jvm.MethodName) method_10_code (4 : Nat) (Option.some Jvm.ClassFile.FieldType.int) [((0 : Nat), (9 : Nat), (12 : Nat), (13 : Nat)), ((0 : Nat), (9 : Nat), (15 : Nat), (36 : Nat))]) ∈ wsA := x_in3 168 rfl rfl
theorem kw_649 : (Jvm.Cond.methodLink "WideDecimalDeskLaw" (42 : Nat) ({ cls := "WideDecimalDesk", name := "format", desc := "(I)I" } : Jvm.MethodName)) ∈ wsA := x_in3 169 rfl rfl
theorem kw_650 : (Jvm.Cond.instanceMethod ({ cls := "WideDecimalDesk", name := "format", desc := "(I)I" } : Jvm.MethodName)) ∈ wsA := x_in3 170 rfl rfl
theorem kw_651 : (Jvm.Cond.selects "WideDecimalDesk" ({ cls := "WideDecimalDesk", name := "format", desc := "(I)I" } : Jvm.MethodName) ({ cls := "WideDecimalDesk", name := "format", desc := "(I)I" } : Jvm.MethodName)) ∈ wsA := x_in3 171 rfl rfl
theorem kw_652 : (Jvm.Cond.code ({ cls := "WideDecimalDesk", name := "format", desc := "(I)I" } : Jvm.MethodName) prog_1_method_16_code (2 : Nat) (Option.some Jvm.ClassFile.FieldType.int)) ∈ wsA := x_in3 172 rfl rfl
theorem kw_653 : (Jvm.Cond.methodLink "WideDecimalDesk" (173 : Nat) ({ cls := "WideDecimalDesk$Pattern", name := "read", desc := "(LWideDecimalDesk$Line;)Z" } : Jvm.MethodName)) ∈ wsA := x_in3 173 rfl rfl
theorem kw_654 : (Jvm.Cond.instanceMethod ({ cls := "WideDecimalDesk$Pattern", name := "read", desc := "(LWideDecimalDesk$Line;)Z" } : Jvm.MethodName)) ∈ wsA := x_in3 174 rfl rfl
theorem kw_655 : (Jvm.Cond.selects "WideDecimalDesk$Pattern" ({ cls := "WideDecimalDesk$Pattern", name := "read", desc := "(LWideDecimalDesk$Line;)Z" } : Jvm.MethodName) ({ cls := "WideDecimalDesk$Pattern", name := "read", desc := "(LWideDecimalDesk$Line;)Z" } : Jvm.MethodName)) ∈ wsA := x_in3 175 rfl rfl
theorem kw_656 : (Jvm.Cond.code ({ cls := "WideDecimalDesk$Pattern", name := "read", desc := "(LWideDecimalDesk$Line;)Z" } : Jvm.MethodName) prog_6_method_2_code (5 : Nat) (Option.some Jvm.ClassFile.FieldType.boolean)) ∈ wsA := x_in3 176 rfl rfl
theorem kw_657 : (Jvm.Cond.methodLink "WideDecimalDesk$Pattern" (7 : Nat) ({ cls := "WideDecimalDesk$Pattern", name := "readFront", desc := "(LWideDecimalDesk$Line;)I" } : Jvm.MethodName)) ∈ wsA := x_in3 177 rfl rfl
theorem kw_659 : (Jvm.Cond.instanceMethod ({ cls := "WideDecimalDesk$Pattern", name := "readFront", desc := "(LWideDecimalDesk$Line;)I" } : Jvm.MethodName)) ∈ wsA := x_in3 179 rfl rfl
theorem kw_660 : (Jvm.Cond.code ({ cls := "WideDecimalDesk$Pattern", name := "readFront", desc := "(LWideDecimalDesk$Line;)I" } : Jvm.MethodName) prog_6_method_3_code (5 : Nat) (Option.some Jvm.ClassFile.FieldType.int)) ∈ wsA := x_in3 180 rfl rfl
theorem kw_661 : (Jvm.Cond.methodLink "WideDecimalDesk$Pattern" (17 : Nat) ({ cls := "WideDecimalDesk$Line", name := "codeAt", desc := "(I)I" } : Jvm.MethodName)) ∈ wsA := x_in3 181 rfl rfl
theorem kw_662 : (Jvm.Cond.methodLink "WideDecimalDesk$Pattern" (43 : Nat) ({ cls := "WideDecimalDesk$Pattern", name := "isFrontMark", desc := "(I)Z" } : Jvm.MethodName)) ∈ wsA := x_in3 182 rfl rfl
theorem kw_663 : (Jvm.Cond.static ({ cls := "WideDecimalDesk$Pattern", name := "isFrontMark", desc := "(I)Z" } : Jvm.MethodName)) ∈ wsA := x_in3 183 rfl rfl
theorem kw_664 : (Jvm.Cond.code ({ cls := "WideDecimalDesk$Pattern", name := "isFrontMark", desc := "(I)Z" } : Jvm.MethodName) prog_6_method_5_code (1 : Nat) (Option.some Jvm.ClassFile.FieldType.boolean)) ∈ wsA := x_in3 184 rfl rfl
theorem kw_665 : (Jvm.Cond.methodLink "WideDecimalDesk$Pattern" (50 : Nat) ({ cls := "WideDecimalDesk$Pattern", name := "isPlace", desc := "(I)Z" } : Jvm.MethodName)) ∈ wsA := x_in3 185 rfl rfl
theorem kw_666 : (Jvm.Cond.static ({ cls := "WideDecimalDesk$Pattern", name := "isPlace", desc := "(I)Z" } : Jvm.MethodName)) ∈ wsA := x_in3 186 rfl rfl
theorem kw_667 : (Jvm.Cond.code ({ cls := "WideDecimalDesk$Pattern", name := "isPlace", desc := "(I)Z" } : Jvm.MethodName) prog_6_method_6_code (1 : Nat) (Option.some Jvm.ClassFile.FieldType.boolean)) ∈ wsA := x_in3 187 rfl rfl
theorem kw_668 : (Jvm.Cond.methodLink "WideDecimalDesk$Pattern" (13 : Nat) ({ cls := "WideDecimalDesk$Pattern", name := "readBack", desc := "(LWideDecimalDesk$Line;I)I" } : Jvm.MethodName)) ∈ wsA := x_in3 188 rfl rfl
theorem kw_670 : (Jvm.Cond.instanceMethod ({ cls := "WideDecimalDesk$Pattern", name := "readBack", desc := "(LWideDecimalDesk$Line;I)I" } : Jvm.MethodName)) ∈ wsA := x_in3 190 rfl rfl
theorem kw_671 : (Jvm.Cond.code ({ cls := "WideDecimalDesk$Pattern", name := "readBack", desc := "(LWideDecimalDesk$Line;I)I" } : Jvm.MethodName) prog_6_method_4_code (4 : Nat) (Option.some Jvm.ClassFile.FieldType.int)) ∈ wsA := x_in3 191 rfl rfl
theorem kn_672 : (Jvm.Cond.stringRef "WideDecimalDesk" (174 : Nat) "the text is no pattern") ∈ wsN := x_nn3 192 rfl rfl
theorem kw_673 : (Jvm.Cond.methodLink "WideDecimalDesk" (176 : Nat) ({ cls := "WideDecimalDesk", name := "writeByPattern", desc := "()V" } : Jvm.MethodName)) ∈ wsA := x_in3 193 rfl rfl
theorem kw_675 : (Jvm.Cond.instanceMethod ({ cls := "WideDecimalDesk", name := "writeByPattern", desc := "()V" } : Jvm.MethodName)) ∈ wsA := x_in3 195 rfl rfl
theorem kw_676 : (Jvm.Cond.code ({ cls := "WideDecimalDesk", name := "writeByPattern", desc := "()V" } : Jvm.MethodName) prog_1_method_31_code (2 : Nat) (Option.none : Option Jvm.ClassFile.FieldType)) ∈ wsA := x_in3 196 rfl rfl
theorem kw_677 : (Jvm.Cond.methodLink "WideDecimalDesk" (275 : Nat) ({ cls := "WideDecimalDesk$Draft", name := "timesHundred", desc := "()V" } : Jvm.MethodName)) ∈ wsA := x_in3 197 rfl rfl
theorem kw_678 : (Jvm.Cond.instanceMethod ({ cls := "WideDecimalDesk$Draft", name := "timesHundred", desc := "()V" } : Jvm.MethodName)) ∈ wsA := x_in3 198 rfl rfl
theorem kw_679 : (Jvm.Cond.selects "WideDecimalDesk$Draft" ({ cls := "WideDecimalDesk$Draft", name := "timesHundred", desc := "()V" } : Jvm.MethodName) ({ cls := "WideDecimalDesk$Draft", name := "timesHundred", desc := "()V" } : Jvm.MethodName)) ∈ wsA := x_in3 199 rfl rfl
theorem kw_680 : (Jvm.Cond.code ({ cls := "WideDecimalDesk$Draft", name := "timesHundred", desc := "()V" } : Jvm.MethodName) prog_3_method_7_code (1 : Nat) (Option.none : Option Jvm.ClassFile.FieldType)) ∈ wsA := x_in3 200 rfl rfl
theorem kw_681 : (Jvm.Cond.methodLink "WideDecimalDesk" (287 : Nat) ({ cls := "WideDecimalDesk", name := "placesBehind", desc := "(I)I" } : Jvm.MethodName)) ∈ wsA := x_in3 201 rfl rfl
theorem kw_683 : (Jvm.Cond.instanceMethod ({ cls := "WideDecimalDesk", name := "placesBehind", desc := "(I)I" } : Jvm.MethodName)) ∈ wsA := x_in3 203 rfl rfl
theorem kw_684 : (Jvm.Cond.code ({ cls := "WideDecimalDesk", name := "placesBehind", desc := "(I)I" } : Jvm.MethodName) prog_1_method_35_code (3 : Nat) (Option.some Jvm.ClassFile.FieldType.int)) ∈ wsA := x_in3 204 rfl rfl
theorem kw_685 : (Jvm.Cond.classLink "WideDecimalDeskLaw" (46 : Nat) "WideDecimalDeskModel") ∈ wsA := x_in3 205 rfl rfl
theorem kw_686 : (Jvm.Cond.instantiable "WideDecimalDeskModel" (21 : Nat)) ∈ wsA := x_in3 206 rfl rfl
theorem kw_687 : (Jvm.Cond.methodLink "WideDecimalDeskLaw" (48 : Nat) ({ cls := "WideDecimalDeskModel", name := "<init>", desc := "()V" } : Jvm.MethodName)) ∈ wsA := x_in3 207 rfl rfl
theorem kw_688 : (Jvm.Cond.instanceMethod ({ cls := "WideDecimalDeskModel", name := "<init>", desc := "()V" } : Jvm.MethodName)) ∈ wsA := x_in3 208 rfl rfl
theorem kw_689 : (Jvm.Cond.code ({ cls := "WideDecimalDeskModel", name := "<init>", desc := "()V" } : Jvm.MethodName) prog_10_method_1_code (2 : Nat) (Option.none : Option Jvm.ClassFile.FieldType)) ∈ wsA := x_in3 209 rfl rfl
theorem kw_690 : (Jvm.Cond.methodLink "WideDecimalDeskModel" (1 : Nat) ({ cls := "java/lang/Object", name := "<init>", desc := "()V" } : Jvm.MethodName)) ∈ wsA := x_in3 210 rfl rfl
theorem kw_691 : (Jvm.Cond.methodLink "WideDecimalDeskModel" (48 : Nat) ({ cls := "WideDecimalDeskModel", name := "twice", desc := "([I)V" } : Jvm.MethodName)) ∈ wsA := x_in3 211 rfl rfl
theorem kw_692 : (Jvm.Cond.static ({ cls := "WideDecimalDeskModel", name := "twice", desc := "([I)V" } : Jvm.MethodName)) ∈ wsA := x_in3 212 rfl rfl
theorem kw_693 : (Jvm.Cond.code ({ cls := "WideDecimalDeskModel", name := "twice", desc := "([I)V" } : Jvm.MethodName) prog_10_method_9_code (1 : Nat) (Option.none : Option Jvm.ClassFile.FieldType)) ∈ wsA := x_in3 213 rfl rfl
theorem kw_694 : (Jvm.Cond.methodLink "WideDecimalDeskModel" (56 : Nat) ({ cls := "WideDecimalDeskModel", name := "add", desc := "([I[I)V" } : Jvm.MethodName)) ∈ wsA := x_in3 214 rfl rfl
theorem kw_695 : (Jvm.Cond.static ({ cls := "WideDecimalDeskModel", name := "add", desc := "([I[I)V" } : Jvm.MethodName)) ∈ wsA := x_in3 215 rfl rfl
theorem kw_696 : (Jvm.Cond.code ({ cls := "WideDecimalDeskModel", name := "add", desc := "([I[I)V" } : Jvm.MethodName) prog_10_method_7_code (5 : Nat) (Option.none : Option Jvm.ClassFile.FieldType)) ∈ wsA := x_in3 216 rfl rfl
theorem kw_697 : (Jvm.Cond.fieldLink "WideDecimalDeskModel" (52 : Nat) "WideDecimalDeskModel" "thrown" "I") ∈ wsA := x_in3 217 rfl rfl
theorem kw_698 : (Jvm.Cond.fieldLink "WideDecimalDeskModel" (7 : Nat) "WideDecimalDeskModel" "digits" "[I") ∈ wsA := x_in3 218 rfl rfl
theorem kw_699 : (Jvm.Cond.fieldLink "WideDecimalDeskModel" (13 : Nat) "WideDecimalDeskModel" "scales" "[I") ∈ wsA := x_in3 219 rfl rfl
theorem kw_700 : (Jvm.Cond.fieldLink "WideDecimalDeskModel" (16 : Nat) "WideDecimalDeskModel" "below" "[Z") ∈ wsA := x_in3 220 rfl rfl
theorem kw_701 : (Jvm.Cond.fieldLink "WideDecimalDeskModel" (139 : Nat) "WideDecimalDeskModel" "size" "I") ∈ wsA := x_in3 221 rfl rfl
theorem kw_702 : (Jvm.Cond.fieldLink "WideDecimalDeskModel" (20 : Nat) "WideDecimalDeskModel" "text" "[C") ∈ wsA := x_in3 222 rfl rfl
theorem kw_703 : (Jvm.Cond.fieldLink "WideDecimalDeskModel" (146 : Nat) "WideDecimalDeskModel" "length" "I") ∈ wsA := x_in3 223 rfl rfl
theorem kw_704 : (Jvm.Cond.fieldLink "WideDecimalDeskModel" (24 : Nat) "WideDecimalDeskModel" "output" "[C") ∈ wsA := x_in3 224 rfl rfl
theorem kw_705 : (Jvm.Cond.fieldLink "WideDecimalDeskModel" (27 : Nat) "WideDecimalDeskModel" "limit" "[I") ∈ wsA := x_in3 225 rfl rfl
theorem kw_706 : (Jvm.Cond.fieldLink "WideDecimalDeskModel" (30 : Nat) "WideDecimalDeskModel" "num" "[I") ∈ wsA := x_in3 226 rfl rfl
theorem kw_707 : (Jvm.Cond.fieldLink "WideDecimalDeskModel" (33 : Nat) "WideDecimalDeskModel" "den" "[I") ∈ wsA := x_in3 227 rfl rfl
theorem kw_708 : (Jvm.Cond.fieldLink "WideDecimalDeskModel" (36 : Nat) "WideDecimalDeskModel" "top" "[I") ∈ wsA := x_in3 228 rfl rfl
theorem kw_709 : (Jvm.Cond.fieldLink "WideDecimalDeskModel" (39 : Nat) "WideDecimalDeskModel" "quo" "[I") ∈ wsA := x_in3 229 rfl rfl
theorem kw_710 : (Jvm.Cond.fieldLink "WideDecimalDeskModel" (42 : Nat) "WideDecimalDeskModel" "rem" "[I") ∈ wsA := x_in3 230 rfl rfl
theorem kw_711 : (Jvm.Cond.fieldLink "WideDecimalDeskModel" (45 : Nat) "WideDecimalDeskModel" "tmp" "[I") ∈ wsA := x_in3 231 rfl rfl
theorem kw_712 : (Jvm.Cond.fieldLink "WideDecimalDeskModel" (107 : Nat) "WideDecimalDeskModel" "placed" "I") ∈ wsA := x_in3 232 rfl rfl
theorem kw_713 : (Jvm.Cond.fieldLink "WideDecimalDeskModel" (177 : Nat) "WideDecimalDeskModel" "frontDigits" "I") ∈ wsA := x_in3 233 rfl rfl
theorem kw_714 : (Jvm.Cond.fieldLink "WideDecimalDeskModel" (180 : Nat) "WideDecimalDeskModel" "grouped" "Z") ∈ wsA := x_in3 234 rfl rfl
theorem kw_715 : (Jvm.Cond.fieldLink "WideDecimalDeskModel" (159 : Nat) "WideDecimalDeskModel" "back" "I") ∈ wsA := x_in3 235 rfl rfl
theorem kw_716 : (Jvm.Cond.fieldLink "WideDecimalDeskModel" (166 : Nat) "WideDecimalDeskModel" "keep" "I") ∈ wsA := x_in3 236 rfl rfl
theorem kw_717 : (Jvm.Cond.fieldLink "WideDecimalDeskModel" (162 : Nat) "WideDecimalDeskModel" "percent" "Z") ∈ wsA := x_in3 237 rfl rfl
theorem kw_718 : (Jvm.Cond.lays "WideDecimalDeskModel" "WideDecimalDeskModel" "thrown" "I") ∈ wsA := x_in3 238 rfl rfl
theorem kw_720 : (Jvm.Cond.laysFinal "WideDecimalDeskModel" "WideDecimalDeskModel" "digits" "[I") ∈ wsA := x_in4 0 rfl rfl
theorem kw_722 : (Jvm.Cond.laysFinal "WideDecimalDeskModel" "WideDecimalDeskModel" "scales" "[I") ∈ wsA := x_in4 2 rfl rfl
theorem kw_724 : (Jvm.Cond.laysFinal "WideDecimalDeskModel" "WideDecimalDeskModel" "below" "[Z") ∈ wsA := x_in4 4 rfl rfl
theorem kw_726 : (Jvm.Cond.lays "WideDecimalDeskModel" "WideDecimalDeskModel" "size" "I") ∈ wsA := x_in4 6 rfl rfl
theorem kw_728 : (Jvm.Cond.laysFinal "WideDecimalDeskModel" "WideDecimalDeskModel" "text" "[C") ∈ wsA := x_in4 8 rfl rfl
theorem kw_730 : (Jvm.Cond.lays "WideDecimalDeskModel" "WideDecimalDeskModel" "length" "I") ∈ wsA := x_in4 10 rfl rfl
theorem kw_732 : (Jvm.Cond.laysFinal "WideDecimalDeskModel" "WideDecimalDeskModel" "output" "[C") ∈ wsA := x_in4 12 rfl rfl
theorem kw_734 : (Jvm.Cond.laysFinal "WideDecimalDeskModel" "WideDecimalDeskModel" "limit" "[I") ∈ wsA := x_in4 14 rfl rfl
theorem kw_736 : (Jvm.Cond.laysFinal "WideDecimalDeskModel" "WideDecimalDeskModel" "num" "[I") ∈ wsA := x_in4 16 rfl rfl
theorem kw_738 : (Jvm.Cond.laysFinal "WideDecimalDeskModel" "WideDecimalDeskModel" "den" "[I") ∈ wsA := x_in4 18 rfl rfl
theorem kw_740 : (Jvm.Cond.laysFinal "WideDecimalDeskModel" "WideDecimalDeskModel" "top" "[I") ∈ wsA := x_in4 20 rfl rfl
theorem kw_742 : (Jvm.Cond.laysFinal "WideDecimalDeskModel" "WideDecimalDeskModel" "quo" "[I") ∈ wsA := x_in4 22 rfl rfl
theorem kw_744 : (Jvm.Cond.laysFinal "WideDecimalDeskModel" "WideDecimalDeskModel" "rem" "[I") ∈ wsA := x_in4 24 rfl rfl
theorem kw_746 : (Jvm.Cond.laysFinal "WideDecimalDeskModel" "WideDecimalDeskModel" "tmp" "[I") ∈ wsA := x_in4 26 rfl rfl
theorem kw_748 : (Jvm.Cond.lays "WideDecimalDeskModel" "WideDecimalDeskModel" "placed" "I") ∈ wsA := x_in4 28 rfl rfl
theorem kw_750 : (Jvm.Cond.lays "WideDecimalDeskModel" "WideDecimalDeskModel" "frontDigits" "I") ∈ wsA := x_in4 30 rfl rfl
theorem kw_752 : (Jvm.Cond.lays "WideDecimalDeskModel" "WideDecimalDeskModel" "grouped" "Z") ∈ wsA := x_in4 32 rfl rfl
theorem kw_754 : (Jvm.Cond.lays "WideDecimalDeskModel" "WideDecimalDeskModel" "back" "I") ∈ wsA := x_in4 34 rfl rfl
theorem kw_756 : (Jvm.Cond.lays "WideDecimalDeskModel" "WideDecimalDeskModel" "keep" "I") ∈ wsA := x_in4 36 rfl rfl
theorem kw_758 : (Jvm.Cond.lays "WideDecimalDeskModel" "WideDecimalDeskModel" "percent" "Z") ∈ wsA := x_in4 38 rfl rfl
theorem kw_761 : (Jvm.Cond.arrayClass Jvm.ClassFile.FieldType.int) ∈ wsA := x_in4 41 rfl rfl
theorem kw_762 : (Jvm.Cond.arrayClass Jvm.ClassFile.FieldType.boolean) ∈ wsA := x_in4 42 rfl rfl
theorem kw_763 : (Jvm.Cond.methodLink "WideDecimalDeskLaw" (57 : Nat) ({ cls := "WideDecimalDeskModel", name := "thrown", desc := "()I" } : Jvm.MethodName)) ∈ wsA := x_in4 43 rfl rfl
theorem kw_764 : (Jvm.Cond.instanceMethod ({ cls := "WideDecimalDeskModel", name := "thrown", desc := "()I" } : Jvm.MethodName)) ∈ wsA := x_in4 44 rfl rfl
theorem kw_765 : (Jvm.Cond.selects "WideDecimalDeskModel" ({ cls := "WideDecimalDeskModel", name := "thrown", desc := "()I" } : Jvm.MethodName) ({ cls := "WideDecimalDeskModel", name := "thrown", desc := "()I" } : Jvm.MethodName)) ∈ wsA := x_in4 45 rfl rfl
theorem kw_766 : (Jvm.Cond.code ({ cls := "WideDecimalDeskModel", name := "thrown", desc := "()I" } : Jvm.MethodName) prog_10_method_2_code (1 : Nat) (Option.some Jvm.ClassFile.FieldType.int)) ∈ wsA := x_in4 46 rfl rfl
theorem kw_767 : (Jvm.Cond.methodLink "WideDecimalDeskLaw" (56 : Nat) ({ cls := "WideDecimalDeskModel", name := "set", desc := "(IJIIZ)V" } : Jvm.MethodName)) ∈ wsA := x_in4 47 rfl rfl
theorem kw_768 : (Jvm.Cond.instanceMethod ({ cls := "WideDecimalDeskModel", name := "set", desc := "(IJIIZ)V" } : Jvm.MethodName)) ∈ wsA := x_in4 48 rfl rfl
theorem kw_769 : (Jvm.Cond.selects "WideDecimalDeskModel" ({ cls := "WideDecimalDeskModel", name := "set", desc := "(IJIIZ)V" } : Jvm.MethodName) ({ cls := "WideDecimalDeskModel", name := "set", desc := "(IJIIZ)V" } : Jvm.MethodName)) ∈ wsA := x_in4 49 rfl rfl
theorem kw_770 : (Jvm.Cond.code ({ cls := "WideDecimalDeskModel", name := "set", desc := "(IJIIZ)V" } : Jvm.MethodName) prog_10_method_17_code (10 : Nat) (Option.none : Option Jvm.ClassFile.FieldType)) ∈ wsA := x_in4 50 rfl rfl
theorem kw_771 : (Jvm.Cond.methodLink "WideDecimalDeskModel" (81 : Nat) ({ cls := "WideDecimalDeskModel", name := "register", desc := "(I)Z" } : Jvm.MethodName)) ∈ wsA := x_in4 51 rfl rfl
theorem kw_772 : (Jvm.Cond.static ({ cls := "WideDecimalDeskModel", name := "register", desc := "(I)Z" } : Jvm.MethodName)) ∈ wsA := x_in4 52 rfl rfl
theorem kw_773 : (Jvm.Cond.code ({ cls := "WideDecimalDeskModel", name := "register", desc := "(I)Z" } : Jvm.MethodName) prog_10_method_14_code (1 : Nat) (Option.some Jvm.ClassFile.FieldType.boolean)) ∈ wsA := x_in4 53 rfl rfl
theorem kw_774 : (Jvm.Cond.methodLink "WideDecimalDeskModel" (60 : Nat) ({ cls := "WideDecimalDeskModel", name := "zero", desc := "([I)V" } : Jvm.MethodName)) ∈ wsA := x_in4 54 rfl rfl
theorem kw_775 : (Jvm.Cond.static ({ cls := "WideDecimalDeskModel", name := "zero", desc := "([I)V" } : Jvm.MethodName)) ∈ wsA := x_in4 55 rfl rfl
theorem kw_776 : (Jvm.Cond.code ({ cls := "WideDecimalDeskModel", name := "zero", desc := "([I)V" } : Jvm.MethodName) prog_10_method_3_code (2 : Nat) (Option.none : Option Jvm.ClassFile.FieldType)) ∈ wsA := x_in4 56 rfl rfl
theorem kw_777 : (Jvm.Cond.methodLink "WideDecimalDeskModel" (85 : Nat) ({ cls := "WideDecimalDeskModel", name := "store", desc := "(I[IIZ)V" } : Jvm.MethodName)) ∈ wsA := x_in4 57 rfl rfl
theorem kw_779 : (Jvm.Cond.instanceMethod ({ cls := "WideDecimalDeskModel", name := "store", desc := "(I[IIZ)V" } : Jvm.MethodName)) ∈ wsA := x_in4 59 rfl rfl
theorem kw_780 : (Jvm.Cond.code ({ cls := "WideDecimalDeskModel", name := "store", desc := "(I[IIZ)V" } : Jvm.MethodName) prog_10_method_16_code (6 : Nat) (Option.none : Option Jvm.ClassFile.FieldType)) ∈ wsA := x_in4 60 rfl rfl
theorem kw_781 : (Jvm.Cond.methodLink "WideDecimalDeskModel" (77 : Nat) ({ cls := "WideDecimalDeskModel", name := "isZero", desc := "([I)Z" } : Jvm.MethodName)) ∈ wsA := x_in4 61 rfl rfl
theorem kw_782 : (Jvm.Cond.static ({ cls := "WideDecimalDeskModel", name := "isZero", desc := "([I)Z" } : Jvm.MethodName)) ∈ wsA := x_in4 62 rfl rfl
theorem kw_783 : (Jvm.Cond.code ({ cls := "WideDecimalDeskModel", name := "isZero", desc := "([I)Z" } : Jvm.MethodName) prog_10_method_5_code (3 : Nat) (Option.some Jvm.ClassFile.FieldType.boolean)) ∈ wsA := x_in4 63 rfl rfl
theorem kw_784 : (Jvm.Cond.methodLink "WideDecimalDeskLaw" (65 : Nat) ({ cls := "WideDecimalDeskModel", name := "low", desc := "(I)J" } : Jvm.MethodName)) ∈ wsA := x_in4 64 rfl rfl
theorem kw_785 : (Jvm.Cond.instanceMethod ({ cls := "WideDecimalDeskModel", name := "low", desc := "(I)J" } : Jvm.MethodName)) ∈ wsA := x_in4 65 rfl rfl
theorem kw_786 : (Jvm.Cond.selects "WideDecimalDeskModel" ({ cls := "WideDecimalDeskModel", name := "low", desc := "(I)J" } : Jvm.MethodName) ({ cls := "WideDecimalDeskModel", name := "low", desc := "(I)J" } : Jvm.MethodName)) ∈ wsA := x_in4 66 rfl rfl
theorem kw_787 : (Jvm.Cond.code ({ cls := "WideDecimalDeskModel", name := "low", desc := "(I)J" } : Jvm.MethodName) prog_10_method_19_code (2 : Nat) (Option.some Jvm.ClassFile.FieldType.long)) ∈ wsA := x_in4 67 rfl rfl
theorem kw_788 : (Jvm.Cond.methodLink "WideDecimalDeskModel" (93 : Nat) ({ cls := "WideDecimalDeskModel", name := "bits", desc := "(III)J" } : Jvm.MethodName)) ∈ wsA := x_in4 68 rfl rfl
theorem kw_790 : (Jvm.Cond.instanceMethod ({ cls := "WideDecimalDeskModel", name := "bits", desc := "(III)J" } : Jvm.MethodName)) ∈ wsA := x_in4 70 rfl rfl
theorem kw_791 : (Jvm.Cond.code ({ cls := "WideDecimalDeskModel", name := "bits", desc := "(III)J" } : Jvm.MethodName) prog_10_method_18_code (12 : Nat) (Option.some Jvm.ClassFile.FieldType.long)) ∈ wsA := x_in4 71 rfl rfl
theorem kw_792 : (Jvm.Cond.methodLink "WideDecimalDeskModel" (89 : Nat) ({ cls := "WideDecimalDeskModel", name := "load", desc := "(I[I)V" } : Jvm.MethodName)) ∈ wsA := x_in4 72 rfl rfl
theorem kw_794 : (Jvm.Cond.instanceMethod ({ cls := "WideDecimalDeskModel", name := "load", desc := "(I[I)V" } : Jvm.MethodName)) ∈ wsA := x_in4 74 rfl rfl
theorem kw_795 : (Jvm.Cond.code ({ cls := "WideDecimalDeskModel", name := "load", desc := "(I[I)V" } : Jvm.MethodName) prog_10_method_15_code (4 : Nat) (Option.none : Option Jvm.ClassFile.FieldType)) ∈ wsA := x_in4 75 rfl rfl
theorem kw_796 : (Jvm.Cond.methodLink "WideDecimalDeskLaw" (69 : Nat) ({ cls := "WideDecimalDeskModel", name := "high", desc := "(I)I" } : Jvm.MethodName)) ∈ wsA := x_in4 76 rfl rfl
theorem kw_797 : (Jvm.Cond.instanceMethod ({ cls := "WideDecimalDeskModel", name := "high", desc := "(I)I" } : Jvm.MethodName)) ∈ wsA := x_in4 77 rfl rfl
theorem kw_798 : (Jvm.Cond.selects "WideDecimalDeskModel" ({ cls := "WideDecimalDeskModel", name := "high", desc := "(I)I" } : Jvm.MethodName) ({ cls := "WideDecimalDeskModel", name := "high", desc := "(I)I" } : Jvm.MethodName)) ∈ wsA := x_in4 78 rfl rfl
theorem kw_799 : (Jvm.Cond.code ({ cls := "WideDecimalDeskModel", name := "high", desc := "(I)I" } : Jvm.MethodName) prog_10_method_20_code (2 : Nat) (Option.some Jvm.ClassFile.FieldType.int)) ∈ wsA := x_in4 79 rfl rfl
theorem kw_800 : (Jvm.Cond.methodLink "WideDecimalDeskLaw" (73 : Nat) ({ cls := "WideDecimalDeskModel", name := "scale", desc := "(I)I" } : Jvm.MethodName)) ∈ wsA := x_in4 80 rfl rfl
theorem kw_801 : (Jvm.Cond.instanceMethod ({ cls := "WideDecimalDeskModel", name := "scale", desc := "(I)I" } : Jvm.MethodName)) ∈ wsA := x_in4 81 rfl rfl
theorem kw_802 : (Jvm.Cond.selects "WideDecimalDeskModel" ({ cls := "WideDecimalDeskModel", name := "scale", desc := "(I)I" } : Jvm.MethodName) ({ cls := "WideDecimalDeskModel", name := "scale", desc := "(I)I" } : Jvm.MethodName)) ∈ wsA := x_in4 82 rfl rfl
theorem kw_803 : (Jvm.Cond.code ({ cls := "WideDecimalDeskModel", name := "scale", desc := "(I)I" } : Jvm.MethodName) prog_10_method_21_code (2 : Nat) (Option.some Jvm.ClassFile.FieldType.int)) ∈ wsA := x_in4 83 rfl rfl
theorem kw_804 : (Jvm.Cond.methodLink "WideDecimalDeskLaw" (78 : Nat) ({ cls := "WideDecimalDeskModel", name := "negative", desc := "(I)Z" } : Jvm.MethodName)) ∈ wsA := x_in4 84 rfl rfl
theorem kw_805 : (Jvm.Cond.instanceMethod ({ cls := "WideDecimalDeskModel", name := "negative", desc := "(I)Z" } : Jvm.MethodName)) ∈ wsA := x_in4 85 rfl rfl
theorem kw_806 : (Jvm.Cond.selects "WideDecimalDeskModel" ({ cls := "WideDecimalDeskModel", name := "negative", desc := "(I)Z" } : Jvm.MethodName) ({ cls := "WideDecimalDeskModel", name := "negative", desc := "(I)Z" } : Jvm.MethodName)) ∈ wsA := x_in4 86 rfl rfl
theorem kw_807 : (Jvm.Cond.code ({ cls := "WideDecimalDeskModel", name := "negative", desc := "(I)Z" } : Jvm.MethodName) prog_10_method_22_code (2 : Nat) (Option.some Jvm.ClassFile.FieldType.boolean)) ∈ wsA := x_in4 87 rfl rfl
theorem kw_808 : (Jvm.Cond.methodLink "WideDecimalDeskLaw" (82 : Nat) ({ cls := "WideDecimalDeskModel", name := "compute", desc := "(IIII)V" } : Jvm.MethodName)) ∈ wsA := x_in4 88 rfl rfl
theorem kw_809 : (Jvm.Cond.instanceMethod ({ cls := "WideDecimalDeskModel", name := "compute", desc := "(IIII)V" } : Jvm.MethodName)) ∈ wsA := x_in4 89 rfl rfl
theorem kw_810 : (Jvm.Cond.selects "WideDecimalDeskModel" ({ cls := "WideDecimalDeskModel", name := "compute", desc := "(IIII)V" } : Jvm.MethodName) ({ cls := "WideDecimalDeskModel", name := "compute", desc := "(IIII)V" } : Jvm.MethodName)) ∈ wsA := x_in4 90 rfl rfl
theorem kw_811 : (Jvm.Cond.code ({ cls := "WideDecimalDeskModel", name := "compute", desc := "(IIII)V" } : Jvm.MethodName) prog_10_method_30_code (6 : Nat) (Option.none : Option Jvm.ClassFile.FieldType)) ∈ wsA := x_in4 91 rfl rfl
theorem kw_812 : (Jvm.Cond.methodLink "WideDecimalDeskModel" (127 : Nat) ({ cls := "WideDecimalDeskModel", name := "wrong", desc := "(IIII)Z" } : Jvm.MethodName)) ∈ wsA := x_in4 92 rfl rfl
theorem kw_813 : (Jvm.Cond.static ({ cls := "WideDecimalDeskModel", name := "wrong", desc := "(IIII)Z" } : Jvm.MethodName)) ∈ wsA := x_in4 93 rfl rfl
theorem kw_814 : (Jvm.Cond.code ({ cls := "WideDecimalDeskModel", name := "wrong", desc := "(IIII)Z" } : Jvm.MethodName) prog_10_method_29_code (4 : Nat) (Option.some Jvm.ClassFile.FieldType.boolean)) ∈ wsA := x_in4 94 rfl rfl
theorem kw_815 : (Jvm.Cond.methodLink "WideDecimalDeskModel" (131 : Nat) ({ cls := "WideDecimalDeskModel", name := "result", desc := "(III)I" } : Jvm.MethodName)) ∈ wsA := x_in4 95 rfl rfl
theorem kw_817 : (Jvm.Cond.instanceMethod ({ cls := "WideDecimalDeskModel", name := "result", desc := "(III)I" } : Jvm.MethodName)) ∈ wsA := x_in4 97 rfl rfl
theorem kw_818 : (Jvm.Cond.code ({ cls := "WideDecimalDeskModel", name := "result", desc := "(III)I" } : Jvm.MethodName) prog_10_method_28_code (8 : Nat) (Option.some Jvm.ClassFile.FieldType.int)) ∈ wsA := x_in4 98 rfl rfl
theorem kw_819 : (Jvm.Cond.methodLink "WideDecimalDeskModel" (113 : Nat) ({ cls := "WideDecimalDeskModel", name := "join", desc := "(IIZI)Z" } : Jvm.MethodName)) ∈ wsA := x_in4 99 rfl rfl
theorem kw_821 : (Jvm.Cond.instanceMethod ({ cls := "WideDecimalDeskModel", name := "join", desc := "(IIZI)Z" } : Jvm.MethodName)) ∈ wsA := x_in4 101 rfl rfl
theorem kw_822 : (Jvm.Cond.code ({ cls := "WideDecimalDeskModel", name := "join", desc := "(IIZI)Z" } : Jvm.MethodName) prog_10_method_25_code (7 : Nat) (Option.some Jvm.ClassFile.FieldType.boolean)) ∈ wsA := x_in4 102 rfl rfl
theorem kw_823 : (Jvm.Cond.methodLink "WideDecimalDeskModel" (63 : Nat) ({ cls := "WideDecimalDeskModel", name := "shift", desc := "([II)V" } : Jvm.MethodName)) ∈ wsA := x_in4 103 rfl rfl
theorem kw_824 : (Jvm.Cond.static ({ cls := "WideDecimalDeskModel", name := "shift", desc := "([II)V" } : Jvm.MethodName)) ∈ wsA := x_in4 104 rfl rfl
theorem kw_825 : (Jvm.Cond.code ({ cls := "WideDecimalDeskModel", name := "shift", desc := "([II)V" } : Jvm.MethodName) prog_10_method_11_code (3 : Nat) (Option.none : Option Jvm.ClassFile.FieldType)) ∈ wsA := x_in4 105 rfl rfl
theorem kw_826 : (Jvm.Cond.methodLink "WideDecimalDeskModel" (110 : Nat) ({ cls := "WideDecimalDeskModel", name := "power", desc := "([II)V" } : Jvm.MethodName)) ∈ wsA := x_in4 106 rfl rfl
theorem kw_828 : (Jvm.Cond.instanceMethod ({ cls := "WideDecimalDeskModel", name := "power", desc := "([II)V" } : Jvm.MethodName)) ∈ wsA := x_in4 108 rfl rfl
theorem kw_829 : (Jvm.Cond.code ({ cls := "WideDecimalDeskModel", name := "power", desc := "([II)V" } : Jvm.MethodName) prog_10_method_24_code (3 : Nat) (Option.none : Option Jvm.ClassFile.FieldType)) ∈ wsA := x_in4 109 rfl rfl
theorem kw_830 : (Jvm.Cond.methodLink "WideDecimalDeskModel" (67 : Nat) ({ cls := "WideDecimalDeskModel", name := "order", desc := "([I[I)I" } : Jvm.MethodName)) ∈ wsA := x_in4 110 rfl rfl
theorem kw_831 : (Jvm.Cond.static ({ cls := "WideDecimalDeskModel", name := "order", desc := "([I[I)I" } : Jvm.MethodName)) ∈ wsA := x_in4 111 rfl rfl
theorem kw_832 : (Jvm.Cond.code ({ cls := "WideDecimalDeskModel", name := "order", desc := "([I[I)I" } : Jvm.MethodName) prog_10_method_6_code (3 : Nat) (Option.some Jvm.ClassFile.FieldType.int)) ∈ wsA := x_in4 112 rfl rfl
theorem kw_833 : (Jvm.Cond.methodLink "WideDecimalDeskModel" (71 : Nat) ({ cls := "WideDecimalDeskModel", name := "subtract", desc := "([I[I)V" } : Jvm.MethodName)) ∈ wsA := x_in4 113 rfl rfl
theorem kw_834 : (Jvm.Cond.static ({ cls := "WideDecimalDeskModel", name := "subtract", desc := "([I[I)V" } : Jvm.MethodName)) ∈ wsA := x_in4 114 rfl rfl
theorem kw_835 : (Jvm.Cond.code ({ cls := "WideDecimalDeskModel", name := "subtract", desc := "([I[I)V" } : Jvm.MethodName) prog_10_method_8_code (5 : Nat) (Option.none : Option Jvm.ClassFile.FieldType)) ∈ wsA := x_in4 115 rfl rfl
theorem kw_836 : (Jvm.Cond.methodLink "WideDecimalDeskModel" (74 : Nat) ({ cls := "WideDecimalDeskModel", name := "copy", desc := "([I[I)V" } : Jvm.MethodName)) ∈ wsA := x_in4 116 rfl rfl
theorem kw_837 : (Jvm.Cond.static ({ cls := "WideDecimalDeskModel", name := "copy", desc := "([I[I)V" } : Jvm.MethodName)) ∈ wsA := x_in4 117 rfl rfl
theorem kw_838 : (Jvm.Cond.code ({ cls := "WideDecimalDeskModel", name := "copy", desc := "([I[I)V" } : Jvm.MethodName) prog_10_method_4_code (3 : Nat) (Option.none : Option Jvm.ClassFile.FieldType)) ∈ wsA := x_in4 118 rfl rfl
theorem kw_839 : (Jvm.Cond.methodLink "WideDecimalDeskModel" (117 : Nat) ({ cls := "WideDecimalDeskModel", name := "place", desc := "(I)Z" } : Jvm.MethodName)) ∈ wsA := x_in4 119 rfl rfl
theorem kw_841 : (Jvm.Cond.instanceMethod ({ cls := "WideDecimalDeskModel", name := "place", desc := "(I)Z" } : Jvm.MethodName)) ∈ wsA := x_in4 121 rfl rfl
theorem kw_842 : (Jvm.Cond.code ({ cls := "WideDecimalDeskModel", name := "place", desc := "(I)Z" } : Jvm.MethodName) prog_10_method_23_code (4 : Nat) (Option.some Jvm.ClassFile.FieldType.boolean)) ∈ wsA := x_in4 122 rfl rfl
theorem kw_843 : (Jvm.Cond.methodLink "WideDecimalDeskModel" (97 : Nat) ({ cls := "WideDecimalDeskModel", name := "divide", desc := "()V" } : Jvm.MethodName)) ∈ wsA := x_in4 123 rfl rfl
theorem kw_845 : (Jvm.Cond.instanceMethod ({ cls := "WideDecimalDeskModel", name := "divide", desc := "()V" } : Jvm.MethodName)) ∈ wsA := x_in4 125 rfl rfl
theorem kw_846 : (Jvm.Cond.code ({ cls := "WideDecimalDeskModel", name := "divide", desc := "()V" } : Jvm.MethodName) prog_10_method_12_code (2 : Nat) (Option.none : Option Jvm.ClassFile.FieldType)) ∈ wsA := x_in4 126 rfl rfl
theorem kw_847 : (Jvm.Cond.methodLink "WideDecimalDeskModel" (100 : Nat) ({ cls := "WideDecimalDeskModel", name := "half", desc := "()I" } : Jvm.MethodName)) ∈ wsA := x_in4 127 rfl rfl
theorem kw_849 : (Jvm.Cond.instanceMethod ({ cls := "WideDecimalDeskModel", name := "half", desc := "()I" } : Jvm.MethodName)) ∈ wsA := x_in4 129 rfl rfl
theorem kw_850 : (Jvm.Cond.code ({ cls := "WideDecimalDeskModel", name := "half", desc := "()I" } : Jvm.MethodName) prog_10_method_13_code (1 : Nat) (Option.some Jvm.ClassFile.FieldType.int)) ∈ wsA := x_in4 130 rfl rfl
theorem kw_851 : (Jvm.Cond.methodLink "WideDecimalDeskModel" (104 : Nat) ({ cls := "WideDecimalDeskModel", name := "more", desc := "([I)V" } : Jvm.MethodName)) ∈ wsA := x_in4 131 rfl rfl
theorem kw_852 : (Jvm.Cond.static ({ cls := "WideDecimalDeskModel", name := "more", desc := "([I)V" } : Jvm.MethodName)) ∈ wsA := x_in4 132 rfl rfl
theorem kw_853 : (Jvm.Cond.code ({ cls := "WideDecimalDeskModel", name := "more", desc := "([I)V" } : Jvm.MethodName) prog_10_method_10_code (2 : Nat) (Option.none : Option Jvm.ClassFile.FieldType)) ∈ wsA := x_in4 133 rfl rfl
theorem kw_854 : (Jvm.Cond.methodLink "WideDecimalDeskModel" (120 : Nat) ({ cls := "WideDecimalDeskModel", name := "multiply", desc := "(II)V" } : Jvm.MethodName)) ∈ wsA := x_in4 134 rfl rfl
theorem kw_856 : (Jvm.Cond.instanceMethod ({ cls := "WideDecimalDeskModel", name := "multiply", desc := "(II)V" } : Jvm.MethodName)) ∈ wsA := x_in4 136 rfl rfl
theorem kw_857 : (Jvm.Cond.code ({ cls := "WideDecimalDeskModel", name := "multiply", desc := "(II)V" } : Jvm.MethodName) prog_10_method_26_code (5 : Nat) (Option.none : Option Jvm.ClassFile.FieldType)) ∈ wsA := x_in4 137 rfl rfl
theorem kw_858 : (Jvm.Cond.methodLink "WideDecimalDeskModel" (124 : Nat) ({ cls := "WideDecimalDeskModel", name := "exact", desc := "(I)Z" } : Jvm.MethodName)) ∈ wsA := x_in4 138 rfl rfl
theorem kw_860 : (Jvm.Cond.instanceMethod ({ cls := "WideDecimalDeskModel", name := "exact", desc := "(I)Z" } : Jvm.MethodName)) ∈ wsA := x_in4 140 rfl rfl
theorem kw_861 : (Jvm.Cond.code ({ cls := "WideDecimalDeskModel", name := "exact", desc := "(I)Z" } : Jvm.MethodName) prog_10_method_27_code (3 : Nat) (Option.some Jvm.ClassFile.FieldType.boolean)) ∈ wsA := x_in4 141 rfl rfl
theorem kw_862 : (Jvm.Cond.methodLink "WideDecimalDeskLaw" (87 : Nat) ({ cls := "WideDecimalDeskModel", name := "attempt", desc := "(IIII)Z" } : Jvm.MethodName)) ∈ wsA := x_in4 142 rfl rfl
theorem kw_863 : (Jvm.Cond.instanceMethod ({ cls := "WideDecimalDeskModel", name := "attempt", desc := "(IIII)Z" } : Jvm.MethodName)) ∈ wsA := x_in4 143 rfl rfl
theorem kw_864 : (Jvm.Cond.selects "WideDecimalDeskModel" ({ cls := "WideDecimalDeskModel", name := "attempt", desc := "(IIII)Z" } : Jvm.MethodName) ({ cls := "WideDecimalDeskModel", name := "attempt", desc := "(IIII)Z" } : Jvm.MethodName)) ∈ wsA := x_in4 144 rfl rfl
theorem kw_865 : (Jvm.Cond.code ({ cls := "WideDecimalDeskModel", name := "attempt", desc := "(IIII)Z" } : Jvm.MethodName) prog_10_method_31_code (6 : Nat) (Option.some Jvm.ClassFile.FieldType.boolean)) ∈ wsA := x_in4 145 rfl rfl
theorem kw_866 : (Jvm.Cond.methodLink "WideDecimalDeskModel" (135 : Nat) ({ cls := "WideDecimalDeskModel", name := "compute", desc := "(IIII)V" } : Jvm.MethodName)) ∈ wsA := x_in4 146 rfl rfl
theorem kw_867 : (Jvm.Cond.methodLink "WideDecimalDeskLaw" (90 : Nat) ({ cls := "WideDecimalDeskModel", name := "round", desc := "(IIII)V" } : Jvm.MethodName)) ∈ wsA := x_in4 147 rfl rfl
theorem kw_868 : (Jvm.Cond.instanceMethod ({ cls := "WideDecimalDeskModel", name := "round", desc := "(IIII)V" } : Jvm.MethodName)) ∈ wsA := x_in4 148 rfl rfl
theorem kw_869 : (Jvm.Cond.selects "WideDecimalDeskModel" ({ cls := "WideDecimalDeskModel", name := "round", desc := "(IIII)V" } : Jvm.MethodName) ({ cls := "WideDecimalDeskModel", name := "round", desc := "(IIII)V" } : Jvm.MethodName)) ∈ wsA := x_in4 149 rfl rfl
theorem kw_870 : (Jvm.Cond.code ({ cls := "WideDecimalDeskModel", name := "round", desc := "(IIII)V" } : Jvm.MethodName) prog_10_method_32_code (9 : Nat) (Option.none : Option Jvm.ClassFile.FieldType)) ∈ wsA := x_in4 150 rfl rfl
theorem kw_871 : (Jvm.Cond.methodLink "WideDecimalDeskLaw" (94 : Nat) ({ cls := "WideDecimalDeskModel", name := "trim", desc := "(II)V" } : Jvm.MethodName)) ∈ wsA := x_in4 151 rfl rfl
theorem kw_872 : (Jvm.Cond.instanceMethod ({ cls := "WideDecimalDeskModel", name := "trim", desc := "(II)V" } : Jvm.MethodName)) ∈ wsA := x_in4 152 rfl rfl
theorem kw_873 : (Jvm.Cond.selects "WideDecimalDeskModel" ({ cls := "WideDecimalDeskModel", name := "trim", desc := "(II)V" } : Jvm.MethodName) ({ cls := "WideDecimalDeskModel", name := "trim", desc := "(II)V" } : Jvm.MethodName)) ∈ wsA := x_in4 153 rfl rfl
theorem kw_874 : (Jvm.Cond.code ({ cls := "WideDecimalDeskModel", name := "trim", desc := "(II)V" } : Jvm.MethodName) prog_10_method_33_code (6 : Nat) (Option.none : Option Jvm.ClassFile.FieldType)) ∈ wsA := x_in4 154 rfl rfl
theorem kw_875 : (Jvm.Cond.methodLink "WideDecimalDeskLaw" (98 : Nat) ({ cls := "WideDecimalDeskModel", name := "compare", desc := "(II)I" } : Jvm.MethodName)) ∈ wsA := x_in4 155 rfl rfl
theorem kw_876 : (Jvm.Cond.instanceMethod ({ cls := "WideDecimalDeskModel", name := "compare", desc := "(II)I" } : Jvm.MethodName)) ∈ wsA := x_in4 156 rfl rfl
theorem kw_877 : (Jvm.Cond.selects "WideDecimalDeskModel" ({ cls := "WideDecimalDeskModel", name := "compare", desc := "(II)I" } : Jvm.MethodName) ({ cls := "WideDecimalDeskModel", name := "compare", desc := "(II)I" } : Jvm.MethodName)) ∈ wsA := x_in4 157 rfl rfl
theorem kw_878 : (Jvm.Cond.code ({ cls := "WideDecimalDeskModel", name := "compare", desc := "(II)I" } : Jvm.MethodName) prog_10_method_34_code (5 : Nat) (Option.some Jvm.ClassFile.FieldType.int)) ∈ wsA := x_in4 158 rfl rfl
theorem kw_879 : (Jvm.Cond.methodLink "WideDecimalDeskLaw" (103 : Nat) ({ cls := "WideDecimalDeskModel", name := "type", desc := "(C)Z" } : Jvm.MethodName)) ∈ wsA := x_in4 159 rfl rfl
theorem kw_880 : (Jvm.Cond.instanceMethod ({ cls := "WideDecimalDeskModel", name := "type", desc := "(C)Z" } : Jvm.MethodName)) ∈ wsA := x_in4 160 rfl rfl
theorem kw_881 : (Jvm.Cond.selects "WideDecimalDeskModel" ({ cls := "WideDecimalDeskModel", name := "type", desc := "(C)Z" } : Jvm.MethodName) ({ cls := "WideDecimalDeskModel", name := "type", desc := "(C)Z" } : Jvm.MethodName)) ∈ wsA := x_in4 161 rfl rfl
theorem kw_882 : (Jvm.Cond.code ({ cls := "WideDecimalDeskModel", name := "type", desc := "(C)Z" } : Jvm.MethodName) prog_10_method_35_code (2 : Nat) (Option.some Jvm.ClassFile.FieldType.boolean)) ∈ wsA := x_in4 162 rfl rfl
theorem kw_883 : (Jvm.Cond.methodLink "WideDecimalDeskLaw" (107 : Nat) ({ cls := "WideDecimalDeskModel", name := "clear", desc := "()V" } : Jvm.MethodName)) ∈ wsA := x_in4 163 rfl rfl
theorem kw_884 : (Jvm.Cond.instanceMethod ({ cls := "WideDecimalDeskModel", name := "clear", desc := "()V" } : Jvm.MethodName)) ∈ wsA := x_in4 164 rfl rfl
theorem kw_885 : (Jvm.Cond.selects "WideDecimalDeskModel" ({ cls := "WideDecimalDeskModel", name := "clear", desc := "()V" } : Jvm.MethodName) ({ cls := "WideDecimalDeskModel", name := "clear", desc := "()V" } : Jvm.MethodName)) ∈ wsA := x_in4 165 rfl rfl
theorem kw_886 : (Jvm.Cond.code ({ cls := "WideDecimalDeskModel", name := "clear", desc := "()V" } : Jvm.MethodName) prog_10_method_36_code (1 : Nat) (Option.none : Option Jvm.ClassFile.FieldType)) ∈ wsA := x_in4 166 rfl rfl
theorem kw_887 : (Jvm.Cond.methodLink "WideDecimalDeskLaw" (111 : Nat) ({ cls := "WideDecimalDeskModel", name := "parse", desc := "(I)V" } : Jvm.MethodName)) ∈ wsA := x_in4 167 rfl rfl
theorem kw_888 : (Jvm.Cond.instanceMethod ({ cls := "WideDecimalDeskModel", name := "parse", desc := "(I)V" } : Jvm.MethodName)) ∈ wsA := x_in4 168 rfl rfl
theorem kw_889 : (Jvm.Cond.selects "WideDecimalDeskModel" ({ cls := "WideDecimalDeskModel", name := "parse", desc := "(I)V" } : Jvm.MethodName) ({ cls := "WideDecimalDeskModel", name := "parse", desc := "(I)V" } : Jvm.MethodName)) ∈ wsA := x_in4 169 rfl rfl
theorem kw_890 : (Jvm.Cond.code ({ cls := "WideDecimalDeskModel", name := "parse", desc := "(I)V" } : Jvm.MethodName) prog_10_method_38_code (8 : Nat) (Option.none : Option Jvm.ClassFile.FieldType)) ∈ wsA := x_in4 170 rfl rfl
theorem kw_891 : (Jvm.Cond.methodLink "WideDecimalDeskModel" (142 : Nat) ({ cls := "WideDecimalDeskModel", name := "isDigit", desc := "(C)Z" } : Jvm.MethodName)) ∈ wsA := x_in4 171 rfl rfl
theorem kw_892 : (Jvm.Cond.static ({ cls := "WideDecimalDeskModel", name := "isDigit", desc := "(C)Z" } : Jvm.MethodName)) ∈ wsA := x_in4 172 rfl rfl
theorem kw_893 : (Jvm.Cond.code ({ cls := "WideDecimalDeskModel", name := "isDigit", desc := "(C)Z" } : Jvm.MethodName) prog_10_method_37_code (1 : Nat) (Option.some Jvm.ClassFile.FieldType.boolean)) ∈ wsA := x_in4 173 rfl rfl
theorem kw_894 : (Jvm.Cond.methodLink "WideDecimalDeskLaw" (115 : Nat) ({ cls := "WideDecimalDeskModel", name := "show", desc := "(I)I" } : Jvm.MethodName)) ∈ wsA := x_in4 174 rfl rfl
theorem kw_895 : (Jvm.Cond.instanceMethod ({ cls := "WideDecimalDeskModel", name := "show", desc := "(I)I" } : Jvm.MethodName)) ∈ wsA := x_in4 175 rfl rfl
theorem kw_896 : (Jvm.Cond.selects "WideDecimalDeskModel" ({ cls := "WideDecimalDeskModel", name := "show", desc := "(I)I" } : Jvm.MethodName) ({ cls := "WideDecimalDeskModel", name := "show", desc := "(I)I" } : Jvm.MethodName)) ∈ wsA := x_in4 176 rfl rfl
theorem kw_897 : (Jvm.Cond.code ({ cls := "WideDecimalDeskModel", name := "show", desc := "(I)I" } : Jvm.MethodName) prog_10_method_40_code (5 : Nat) (Option.some Jvm.ClassFile.FieldType.int)) ∈ wsA := x_in4 177 rfl rfl
theorem kw_898 : (Jvm.Cond.methodLink "WideDecimalDeskModel" (149 : Nat) ({ cls := "WideDecimalDeskModel", name := "write", desc := "(C)V" } : Jvm.MethodName)) ∈ wsA := x_in4 178 rfl rfl
theorem kw_900 : (Jvm.Cond.instanceMethod ({ cls := "WideDecimalDeskModel", name := "write", desc := "(C)V" } : Jvm.MethodName)) ∈ wsA := x_in4 180 rfl rfl
theorem kw_901 : (Jvm.Cond.code ({ cls := "WideDecimalDeskModel", name := "write", desc := "(C)V" } : Jvm.MethodName) prog_10_method_39_code (2 : Nat) (Option.none : Option Jvm.ClassFile.FieldType)) ∈ wsA := x_in4 181 rfl rfl
theorem kw_902 : (Jvm.Cond.methodLink "WideDecimalDeskLaw" (118 : Nat) ({ cls := "WideDecimalDeskModel", name := "format", desc := "(I)I" } : Jvm.MethodName)) ∈ wsA := x_in4 182 rfl rfl
theorem kw_903 : (Jvm.Cond.instanceMethod ({ cls := "WideDecimalDeskModel", name := "format", desc := "(I)I" } : Jvm.MethodName)) ∈ wsA := x_in4 183 rfl rfl
theorem kw_904 : (Jvm.Cond.selects "WideDecimalDeskModel" ({ cls := "WideDecimalDeskModel", name := "format", desc := "(I)I" } : Jvm.MethodName) ({ cls := "WideDecimalDeskModel", name := "format", desc := "(I)I" } : Jvm.MethodName)) ∈ wsA := x_in4 184 rfl rfl
theorem kw_905 : (Jvm.Cond.code ({ cls := "WideDecimalDeskModel", name := "format", desc := "(I)I" } : Jvm.MethodName) prog_10_method_46_code (7 : Nat) (Option.some Jvm.ClassFile.FieldType.int)) ∈ wsA := x_in4 185 rfl rfl
theorem kw_906 : (Jvm.Cond.methodLink "WideDecimalDeskModel" (183 : Nat) ({ cls := "WideDecimalDeskModel", name := "pattern", desc := "()Z" } : Jvm.MethodName)) ∈ wsA := x_in4 186 rfl rfl
theorem kw_908 : (Jvm.Cond.instanceMethod ({ cls := "WideDecimalDeskModel", name := "pattern", desc := "()Z" } : Jvm.MethodName)) ∈ wsA := x_in4 188 rfl rfl
theorem kw_909 : (Jvm.Cond.code ({ cls := "WideDecimalDeskModel", name := "pattern", desc := "()Z" } : Jvm.MethodName) prog_10_method_42_code (5 : Nat) (Option.some Jvm.ClassFile.FieldType.boolean)) ∈ wsA := x_in4 189 rfl rfl
theorem kw_910 : (Jvm.Cond.methodLink "WideDecimalDeskModel" (153 : Nat) ({ cls := "WideDecimalDeskModel", name := "slot", desc := "(C)Z" } : Jvm.MethodName)) ∈ wsA := x_in4 190 rfl rfl
theorem kw_911 : (Jvm.Cond.static ({ cls := "WideDecimalDeskModel", name := "slot", desc := "(C)Z" } : Jvm.MethodName)) ∈ wsA := x_in4 191 rfl rfl
theorem kw_912 : (Jvm.Cond.code ({ cls := "WideDecimalDeskModel", name := "slot", desc := "(C)Z" } : Jvm.MethodName) prog_10_method_41_code (1 : Nat) (Option.some Jvm.ClassFile.FieldType.boolean)) ∈ wsA := x_in4 192 rfl rfl
theorem kw_913 : (Jvm.Cond.methodLink "WideDecimalDeskModel" (156 : Nat) ({ cls := "WideDecimalDeskModel", name := "text", desc := "(I)C" } : Jvm.MethodName)) ∈ wsA := x_in4 193 rfl rfl
theorem kw_915 : (Jvm.Cond.instanceMethod ({ cls := "WideDecimalDeskModel", name := "text", desc := "(I)C" } : Jvm.MethodName)) ∈ wsA := x_in4 195 rfl rfl
theorem kw_916 : (Jvm.Cond.code ({ cls := "WideDecimalDeskModel", name := "text", desc := "(I)C" } : Jvm.MethodName) prog_10_method_43_code (2 : Nat) (Option.some Jvm.ClassFile.FieldType.char)) ∈ wsA := x_in4 196 rfl rfl
theorem kw_917 : (Jvm.Cond.methodLink "WideDecimalDeskModel" (169 : Nat) ({ cls := "WideDecimalDeskModel", name := "front", desc := "(I)V" } : Jvm.MethodName)) ∈ wsA := x_in4 197 rfl rfl
theorem kw_919 : (Jvm.Cond.instanceMethod ({ cls := "WideDecimalDeskModel", name := "front", desc := "(I)V" } : Jvm.MethodName)) ∈ wsA := x_in4 199 rfl rfl
theorem kw_920 : (Jvm.Cond.code ({ cls := "WideDecimalDeskModel", name := "front", desc := "(I)V" } : Jvm.MethodName) prog_10_method_45_code (6 : Nat) (Option.none : Option Jvm.ClassFile.FieldType)) ∈ wsA := x_in4 200 rfl rfl
theorem kw_921 : (Jvm.Cond.methodLink "WideDecimalDeskModel" (173 : Nat) ({ cls := "WideDecimalDeskModel", name := "any", desc := "(I)I" } : Jvm.MethodName)) ∈ wsA := x_in4 201 rfl rfl
theorem kw_923 : (Jvm.Cond.instanceMethod ({ cls := "WideDecimalDeskModel", name := "any", desc := "(I)I" } : Jvm.MethodName)) ∈ wsA := x_in4 203 rfl rfl
theorem kw_924 : (Jvm.Cond.code ({ cls := "WideDecimalDeskModel", name := "any", desc := "(I)I" } : Jvm.MethodName) prog_10_method_44_code (4 : Nat) (Option.some Jvm.ClassFile.FieldType.int)) ∈ wsA := x_in4 204 rfl rfl
theorem kw_925 : (Jvm.Cond.methodLink "WideDecimalDeskLaw" (122 : Nat) ({ cls := "WideDecimalDeskModel", name := "at", desc := "(I)I" } : Jvm.MethodName)) ∈ wsA := x_in4 205 rfl rfl
theorem kw_926 : (Jvm.Cond.instanceMethod ({ cls := "WideDecimalDeskModel", name := "at", desc := "(I)I" } : Jvm.MethodName)) ∈ wsA := x_in4 206 rfl rfl
theorem kw_927 : (Jvm.Cond.selects "WideDecimalDeskModel" ({ cls := "WideDecimalDeskModel", name := "at", desc := "(I)I" } : Jvm.MethodName) ({ cls := "WideDecimalDeskModel", name := "at", desc := "(I)I" } : Jvm.MethodName)) ∈ wsA := x_in4 207 rfl rfl
theorem kw_928 : (Jvm.Cond.code ({ cls := "WideDecimalDeskModel", name := "at", desc := "(I)I" } : Jvm.MethodName) prog_10_method_47_code (2 : Nat) (Option.some Jvm.ClassFile.FieldType.int)) ∈ wsA := x_in4 208 rfl rfl
theorem kw_929 : (Jvm.Cond.methodLink "WideDecimalDeskLaw" (127 : Nat) ({ cls := "WideDecimalDeskModel", name := "reuse", desc := "()Z" } : Jvm.MethodName)) ∈ wsA := x_in4 209 rfl rfl
theorem kw_930 : (Jvm.Cond.instanceMethod ({ cls := "WideDecimalDeskModel", name := "reuse", desc := "()Z" } : Jvm.MethodName)) ∈ wsA := x_in4 210 rfl rfl
theorem kw_931 : (Jvm.Cond.selects "WideDecimalDeskModel" ({ cls := "WideDecimalDeskModel", name := "reuse", desc := "()Z" } : Jvm.MethodName) ({ cls := "WideDecimalDeskModel", name := "reuse", desc := "()Z" } : Jvm.MethodName)) ∈ wsA := x_in4 211 rfl rfl
theorem kw_932 : (Jvm.Cond.code ({ cls := "WideDecimalDeskModel", name := "reuse", desc := "()Z" } : Jvm.MethodName) prog_10_method_48_code (2 : Nat) (Option.some Jvm.ClassFile.FieldType.boolean)) ∈ wsA := x_in4 212 rfl rfl
theorem kw_933 : (Jvm.Cond.constantLong "WideDecimalDeskLaw" (49 : Nat) (4294967295 : Int64)) ∈ wsA := x_in4 213 rfl rfl
theorem kp_0 : Cond.selects "WideDecimalDesk" ⟨"WideDecimalDesk", "carryOut", "(ILWideDecimalDesk$Register;LWideDecimalDesk$Register;)Z"⟩ ⟨"WideDecimalDesk", "carryOut", "(ILWideDecimalDesk$Register;LWideDecimalDesk$Register;)Z"⟩ ∈ wsA := x_inP 0 (q := (⟨"WideDecimalDesk", "carryOut", "(ILWideDecimalDesk$Register;LWideDecimalDesk$Register;)Z"⟩, 9)) rfl
theorem kp_1 : Cond.selects "WideDecimalDesk" ⟨"WideDecimalDesk", "addUp", "(LWideDecimalDesk$Register;LWideDecimalDesk$Register;Z)Z"⟩ ⟨"WideDecimalDesk", "addUp", "(LWideDecimalDesk$Register;LWideDecimalDesk$Register;Z)Z"⟩ ∈ wsA := x_inP 1 (q := (⟨"WideDecimalDesk", "addUp", "(LWideDecimalDesk$Register;LWideDecimalDesk$Register;Z)Z"⟩, 9)) rfl
theorem kp_2 : Cond.selects "WideDecimalDesk" ⟨"WideDecimalDesk", "loadAlike", "(LWideDecimalDesk$Register;LWideDecimalDesk$Register;)V"⟩ ⟨"WideDecimalDesk", "loadAlike", "(LWideDecimalDesk$Register;LWideDecimalDesk$Register;)V"⟩ ∈ wsA := x_inP 2 (q := (⟨"WideDecimalDesk", "loadAlike", "(LWideDecimalDesk$Register;LWideDecimalDesk$Register;)V"⟩, 9)) rfl
theorem kp_3 : Cond.selects "WideDecimalDesk$Draft" ⟨"WideDecimalDesk$Draft", "fits", "()Z"⟩ ⟨"WideDecimalDesk$Draft", "fits", "()Z"⟩ ∈ wsA := x_inP 3 (q := (⟨"WideDecimalDesk$Draft", "fits", "()Z"⟩, 4)) rfl
theorem kp_4 : Cond.selects "WideDecimalDesk$Draft" ⟨"WideDecimalDesk$Draft", "goesAway", "(I)Z"⟩ ⟨"WideDecimalDesk$Draft", "goesAway", "(I)Z"⟩ ∈ wsA := x_inP 4 (q := (⟨"WideDecimalDesk$Draft", "goesAway", "(I)Z"⟩, 4)) rfl
theorem kp_5 : Cond.selects "WideDecimalDesk$Draft" ⟨"WideDecimalDesk$Draft", "cutDigit", "()V"⟩ ⟨"WideDecimalDesk$Draft", "cutDigit", "()V"⟩ ∈ wsA := x_inP 5 (q := (⟨"WideDecimalDesk$Draft", "cutDigit", "()V"⟩, 4)) rfl
theorem kp_6 : Cond.selects "WideDecimalDesk$Draft" ⟨"WideDecimalDesk$Draft", "settle", "(I)V"⟩ ⟨"WideDecimalDesk$Draft", "settle", "(I)V"⟩ ∈ wsA := x_inP 6 (q := (⟨"WideDecimalDesk$Draft", "settle", "(I)V"⟩, 4)) rfl
theorem kp_7 : Cond.selects "WideDecimalDesk" ⟨"WideDecimalDesk", "multiply", "(LWideDecimalDesk$Register;LWideDecimalDesk$Register;)Z"⟩ ⟨"WideDecimalDesk", "multiply", "(LWideDecimalDesk$Register;LWideDecimalDesk$Register;)Z"⟩ ∈ wsA := x_inP 7 (q := (⟨"WideDecimalDesk", "multiply", "(LWideDecimalDesk$Register;LWideDecimalDesk$Register;)Z"⟩, 9)) rfl
theorem kp_8 : Cond.selects "WideDecimalDesk" ⟨"WideDecimalDesk", "divide", "(LWideDecimalDesk$Register;LWideDecimalDesk$Register;)Z"⟩ ⟨"WideDecimalDesk", "divide", "(LWideDecimalDesk$Register;LWideDecimalDesk$Register;)Z"⟩ ∈ wsA := x_inP 8 (q := (⟨"WideDecimalDesk", "divide", "(LWideDecimalDesk$Register;LWideDecimalDesk$Register;)Z"⟩, 9)) rfl
theorem kp_9 : Cond.selects "WideDecimalDesk" ⟨"WideDecimalDesk", "divideCoefficient", "(LWideDecimalDesk$Register;)V"⟩ ⟨"WideDecimalDesk", "divideCoefficient", "(LWideDecimalDesk$Register;)V"⟩ ∈ wsA := x_inP 9 (q := (⟨"WideDecimalDesk", "divideCoefficient", "(LWideDecimalDesk$Register;)V"⟩, 9)) rfl
theorem kp_10 : Cond.selects "WideDecimalDesk" ⟨"WideDecimalDesk", "divideForRest", "(LWideDecimalDesk$Register;LWideDecimalDesk$Register;)Z"⟩ ⟨"WideDecimalDesk", "divideForRest", "(LWideDecimalDesk$Register;LWideDecimalDesk$Register;)Z"⟩ ∈ wsA := x_inP 10 (q := (⟨"WideDecimalDesk", "divideForRest", "(LWideDecimalDesk$Register;LWideDecimalDesk$Register;)Z"⟩, 9)) rfl
theorem kp_12 : Cond.selects "WideDecimalDesk" ⟨"WideDecimalDesk", "writePlainly", "()V"⟩ ⟨"WideDecimalDesk", "writePlainly", "()V"⟩ ∈ wsA := x_inP 12 (q := (⟨"WideDecimalDesk", "writePlainly", "()V"⟩, 9)) rfl
theorem kp_13 : Cond.selects "WideDecimalDesk" ⟨"WideDecimalDesk", "writeSign", "()V"⟩ ⟨"WideDecimalDesk", "writeSign", "()V"⟩ ∈ wsA := x_inP 13 (q := (⟨"WideDecimalDesk", "writeSign", "()V"⟩, 9)) rfl
theorem kp_14 : Cond.selects "WideDecimalDesk" ⟨"WideDecimalDesk", "writeBeforePoint", "(IIZ)V"⟩ ⟨"WideDecimalDesk", "writeBeforePoint", "(IIZ)V"⟩ ∈ wsA := x_inP 14 (q := (⟨"WideDecimalDesk", "writeBeforePoint", "(IIZ)V"⟩, 9)) rfl
theorem kp_15 : Cond.selects "WideDecimalDesk" ⟨"WideDecimalDesk", "writeBehindPoint", "(II)V"⟩ ⟨"WideDecimalDesk", "writeBehindPoint", "(II)V"⟩ ∈ wsA := x_inP 15 (q := (⟨"WideDecimalDesk", "writeBehindPoint", "(II)V"⟩, 9)) rfl
theorem kp_16 : Cond.selects "WideDecimalDesk$Pattern" ⟨"WideDecimalDesk$Pattern", "readFront", "(LWideDecimalDesk$Line;)I"⟩ ⟨"WideDecimalDesk$Pattern", "readFront", "(LWideDecimalDesk$Line;)I"⟩ ∈ wsA := x_inP 16 (q := (⟨"WideDecimalDesk$Pattern", "readFront", "(LWideDecimalDesk$Line;)I"⟩, 6)) rfl
theorem kp_17 : Cond.selects "WideDecimalDesk$Pattern" ⟨"WideDecimalDesk$Pattern", "readBack", "(LWideDecimalDesk$Line;I)I"⟩ ⟨"WideDecimalDesk$Pattern", "readBack", "(LWideDecimalDesk$Line;I)I"⟩ ∈ wsA := x_inP 17 (q := (⟨"WideDecimalDesk$Pattern", "readBack", "(LWideDecimalDesk$Line;I)I"⟩, 6)) rfl
theorem kp_18 : Cond.selects "WideDecimalDesk" ⟨"WideDecimalDesk", "writeByPattern", "()V"⟩ ⟨"WideDecimalDesk", "writeByPattern", "()V"⟩ ∈ wsA := x_inP 18 (q := (⟨"WideDecimalDesk", "writeByPattern", "()V"⟩, 9)) rfl
theorem kp_19 : Cond.selects "WideDecimalDesk" ⟨"WideDecimalDesk", "placesBehind", "(I)I"⟩ ⟨"WideDecimalDesk", "placesBehind", "(I)I"⟩ ∈ wsA := x_inP 19 (q := (⟨"WideDecimalDesk", "placesBehind", "(I)I"⟩, 9)) rfl
theorem kp_20 : Cond.selects "WideDecimalDeskModel" ⟨"WideDecimalDeskModel", "store", "(I[IIZ)V"⟩ ⟨"WideDecimalDeskModel", "store", "(I[IIZ)V"⟩ ∈ wsA := x_inP 20 (q := (⟨"WideDecimalDeskModel", "store", "(I[IIZ)V"⟩, 21)) rfl
theorem kp_21 : Cond.selects "WideDecimalDeskModel" ⟨"WideDecimalDeskModel", "bits", "(III)J"⟩ ⟨"WideDecimalDeskModel", "bits", "(III)J"⟩ ∈ wsA := x_inP 21 (q := (⟨"WideDecimalDeskModel", "bits", "(III)J"⟩, 21)) rfl
theorem kp_22 : Cond.selects "WideDecimalDeskModel" ⟨"WideDecimalDeskModel", "load", "(I[I)V"⟩ ⟨"WideDecimalDeskModel", "load", "(I[I)V"⟩ ∈ wsA := x_inP 22 (q := (⟨"WideDecimalDeskModel", "load", "(I[I)V"⟩, 21)) rfl
theorem kp_23 : Cond.selects "WideDecimalDeskModel" ⟨"WideDecimalDeskModel", "result", "(III)I"⟩ ⟨"WideDecimalDeskModel", "result", "(III)I"⟩ ∈ wsA := x_inP 23 (q := (⟨"WideDecimalDeskModel", "result", "(III)I"⟩, 21)) rfl
theorem kp_24 : Cond.selects "WideDecimalDeskModel" ⟨"WideDecimalDeskModel", "join", "(IIZI)Z"⟩ ⟨"WideDecimalDeskModel", "join", "(IIZI)Z"⟩ ∈ wsA := x_inP 24 (q := (⟨"WideDecimalDeskModel", "join", "(IIZI)Z"⟩, 21)) rfl
theorem kp_25 : Cond.selects "WideDecimalDeskModel" ⟨"WideDecimalDeskModel", "power", "([II)V"⟩ ⟨"WideDecimalDeskModel", "power", "([II)V"⟩ ∈ wsA := x_inP 25 (q := (⟨"WideDecimalDeskModel", "power", "([II)V"⟩, 21)) rfl
theorem kp_26 : Cond.selects "WideDecimalDeskModel" ⟨"WideDecimalDeskModel", "place", "(I)Z"⟩ ⟨"WideDecimalDeskModel", "place", "(I)Z"⟩ ∈ wsA := x_inP 26 (q := (⟨"WideDecimalDeskModel", "place", "(I)Z"⟩, 21)) rfl
theorem kp_27 : Cond.selects "WideDecimalDeskModel" ⟨"WideDecimalDeskModel", "divide", "()V"⟩ ⟨"WideDecimalDeskModel", "divide", "()V"⟩ ∈ wsA := x_inP 27 (q := (⟨"WideDecimalDeskModel", "divide", "()V"⟩, 21)) rfl
theorem kp_28 : Cond.selects "WideDecimalDeskModel" ⟨"WideDecimalDeskModel", "half", "()I"⟩ ⟨"WideDecimalDeskModel", "half", "()I"⟩ ∈ wsA := x_inP 28 (q := (⟨"WideDecimalDeskModel", "half", "()I"⟩, 21)) rfl
theorem kp_29 : Cond.selects "WideDecimalDeskModel" ⟨"WideDecimalDeskModel", "multiply", "(II)V"⟩ ⟨"WideDecimalDeskModel", "multiply", "(II)V"⟩ ∈ wsA := x_inP 29 (q := (⟨"WideDecimalDeskModel", "multiply", "(II)V"⟩, 21)) rfl
theorem kp_30 : Cond.selects "WideDecimalDeskModel" ⟨"WideDecimalDeskModel", "exact", "(I)Z"⟩ ⟨"WideDecimalDeskModel", "exact", "(I)Z"⟩ ∈ wsA := x_inP 30 (q := (⟨"WideDecimalDeskModel", "exact", "(I)Z"⟩, 21)) rfl
theorem kp_31 : Cond.selects "WideDecimalDeskModel" ⟨"WideDecimalDeskModel", "write", "(C)V"⟩ ⟨"WideDecimalDeskModel", "write", "(C)V"⟩ ∈ wsA := x_inP 31 (q := (⟨"WideDecimalDeskModel", "write", "(C)V"⟩, 21)) rfl
theorem kp_32 : Cond.selects "WideDecimalDeskModel" ⟨"WideDecimalDeskModel", "pattern", "()Z"⟩ ⟨"WideDecimalDeskModel", "pattern", "()Z"⟩ ∈ wsA := x_inP 32 (q := (⟨"WideDecimalDeskModel", "pattern", "()Z"⟩, 21)) rfl
theorem kp_33 : Cond.selects "WideDecimalDeskModel" ⟨"WideDecimalDeskModel", "text", "(I)C"⟩ ⟨"WideDecimalDeskModel", "text", "(I)C"⟩ ∈ wsA := x_inP 33 (q := (⟨"WideDecimalDeskModel", "text", "(I)C"⟩, 21)) rfl
theorem kp_34 : Cond.selects "WideDecimalDeskModel" ⟨"WideDecimalDeskModel", "front", "(I)V"⟩ ⟨"WideDecimalDeskModel", "front", "(I)V"⟩ ∈ wsA := x_inP 34 (q := (⟨"WideDecimalDeskModel", "front", "(I)V"⟩, 21)) rfl
theorem kp_35 : Cond.selects "WideDecimalDeskModel" ⟨"WideDecimalDeskModel", "any", "(I)I"⟩ ⟨"WideDecimalDeskModel", "any", "(I)I"⟩ ∈ wsA := x_inP 35 (q := (⟨"WideDecimalDeskModel", "any", "(I)I"⟩, 21)) rfl
theorem in_X0 : ∀ w ∈ u_ws RX0 TX0 2, w ∈ wsA := fun w h => by
  obtain ⟨k, hk, rfl⟩ := List.mem_map.mp h
  have hk := List.mem_range.mp hk
  match k, hk with
  | 0, _ => exact kw_137
  | 1, _ => exact kw_139
  | k + 2, hk => omega
theorem in_X1 : ∀ w ∈ u_ws RX1 TX1 4, w ∈ wsA := fun w h => by
  obtain ⟨k, hk, rfl⟩ := List.mem_map.mp h
  have hk := List.mem_range.mp hk
  match k, hk with
  | 0, _ => exact kw_94
  | 1, _ => exact kw_96
  | 2, _ => exact kw_98
  | 3, _ => exact kw_100
  | k + 4, hk => omega
theorem in_X2 : ∀ w ∈ u_ws RX2 TX2 2, w ∈ wsA := fun w h => by
  obtain ⟨k, hk, rfl⟩ := List.mem_map.mp h
  have hk := List.mem_range.mp hk
  match k, hk with
  | 0, _ => exact kw_64
  | 1, _ => exact kw_66
  | k + 2, hk => omega
theorem in_X3 : ∀ w ∈ u_ws RX3 TX3 3, w ∈ wsA := fun w h => by
  obtain ⟨k, hk, rfl⟩ := List.mem_map.mp h
  have hk := List.mem_range.mp hk
  match k, hk with
  | 0, _ => exact kw_120
  | 1, _ => exact kw_122
  | 2, _ => exact kw_124
  | k + 3, hk => omega
theorem in_X4 : ∀ w ∈ u_ws RX4 TX4 6, w ∈ wsA := fun w h => by
  obtain ⟨k, hk, rfl⟩ := List.mem_map.mp h
  have hk := List.mem_range.mp hk
  match k, hk with
  | 0, _ => exact kw_160
  | 1, _ => exact kw_162
  | 2, _ => exact kw_164
  | 3, _ => exact kw_166
  | 4, _ => exact kw_168
  | 5, _ => exact kw_170
  | k + 6, hk => omega
theorem in_X5 : ∀ w ∈ u_ws RX5 TX5 4, w ∈ wsA := fun w h => by
  obtain ⟨k, hk, rfl⟩ := List.mem_map.mp h
  have hk := List.mem_range.mp hk
  match k, hk with
  | 0, _ => exact kw_44
  | 1, _ => exact kw_46
  | 2, _ => exact kw_48
  | 3, _ => exact kw_50
  | k + 4, hk => omega
theorem in_X6 : ∀ w ∈ u_ws RX6 TX6 1, w ∈ wsA := fun w h => by
  obtain ⟨k, hk, rfl⟩ := List.mem_map.mp h
  have hk := List.mem_range.mp hk
  match k, hk with
  | 0, _ => exact kw_83
  | k + 1, hk => omega
theorem in_X7 : ∀ w ∈ u_ws RX7 TX7 9, w ∈ wsA := fun w h => by
  obtain ⟨k, hk, rfl⟩ := List.mem_map.mp h
  have hk := List.mem_range.mp hk
  match k, hk with
  | 0, _ => exact kw_182
  | 1, _ => exact kw_184
  | 2, _ => exact kw_186
  | 3, _ => exact kw_188
  | 4, _ => exact kw_190
  | 5, _ => exact kw_192
  | 6, _ => exact kw_194
  | 7, _ => exact kw_196
  | 8, _ => exact kw_198
  | k + 9, hk => omega
theorem in_X8 : ∀ w ∈ u_ws RX8 TX8 21, w ∈ wsA := fun w h => by
  obtain ⟨k, hk, rfl⟩ := List.mem_map.mp h
  have hk := List.mem_range.mp hk
  match k, hk with
  | 0, _ => exact kw_718
  | 1, _ => exact kw_720
  | 2, _ => exact kw_722
  | 3, _ => exact kw_724
  | 4, _ => exact kw_726
  | 5, _ => exact kw_728
  | 6, _ => exact kw_730
  | 7, _ => exact kw_732
  | 8, _ => exact kw_734
  | 9, _ => exact kw_736
  | 10, _ => exact kw_738
  | 11, _ => exact kw_740
  | 12, _ => exact kw_742
  | 13, _ => exact kw_744
  | 14, _ => exact kw_746
  | 15, _ => exact kw_748
  | 16, _ => exact kw_750
  | 17, _ => exact kw_752
  | 18, _ => exact kw_754
  | 19, _ => exact kw_756
  | 20, _ => exact kw_758
  | k + 21, hk => omega
