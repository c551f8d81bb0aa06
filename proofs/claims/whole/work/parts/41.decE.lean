abbrev bX3_init : ByteArray := prog_5_method_1_code
def yX3_init : MethodName := ⟨"WideDecimalDesk$LongDivision", "<init>", "()V"⟩
def wsX3_init : List Cond := Cond.code yX3_init bX3_init 1 none :: wsA
theorem dc_X3_init : yX3_init.cls ≠ "java/lang/invoke/MethodHandle" ∧ yX3_init.cls ≠ "java/lang/invoke/VarHandle" ∧ (parseMethodDescriptor yX3_init.desc).map (fun d => d.parameters.length) = some 0 := by decide +kernel
theorem dX3_init_0 : decode bX3_init 0 = .ok (.aload_n 0, 1) := by decide +kernel
theorem dX3_init_1 : decode bX3_init 1 = .ok (.invokespecial 1, 3) := by decide +kernel
theorem dX3_init_4 : decode bX3_init 4 = .ok (.aload_n 0, 1) := by decide +kernel
theorem dX3_init_5 : decode bX3_init 5 = .ok (.new 7, 3) := by decide +kernel
theorem dX3_init_8 : decode bX3_init 8 = .ok (.dup, 1) := by decide +kernel
theorem dX3_init_9 : decode bX3_init 9 = .ok (.invokespecial 9, 3) := by decide +kernel
theorem dX3_init_12 : decode bX3_init 12 = .ok (.putfield 10, 3) := by decide +kernel
theorem dX3_init_15 : decode bX3_init 15 = .ok (.aload_n 0, 1) := by decide +kernel
theorem dX3_init_16 : decode bX3_init 16 = .ok (.new 7, 3) := by decide +kernel
theorem dX3_init_19 : decode bX3_init 19 = .ok (.dup, 1) := by decide +kernel
theorem dX3_init_20 : decode bX3_init 20 = .ok (.invokespecial 9, 3) := by decide +kernel
theorem dX3_init_23 : decode bX3_init 23 = .ok (.putfield 16, 3) := by decide +kernel
theorem dX3_init_26 : decode bX3_init 26 = .ok (.aload_n 0, 1) := by decide +kernel
theorem dX3_init_27 : decode bX3_init 27 = .ok (.new 7, 3) := by decide +kernel
theorem dX3_init_30 : decode bX3_init 30 = .ok (.dup, 1) := by decide +kernel
theorem dX3_init_31 : decode bX3_init 31 = .ok (.invokespecial 9, 3) := by decide +kernel
theorem dX3_init_34 : decode bX3_init 34 = .ok (.putfield 19, 3) := by decide +kernel
theorem dX3_init_37 : decode bX3_init 37 = .ok (.return_, 1) := by decide +kernel
abbrev bX3_begin : ByteArray := prog_5_method_2_code
def yX3_begin : MethodName := ⟨"WideDecimalDesk$LongDivision", "begin", "(LWideDecimalDesk$Whole;)V"⟩
def wsX3_begin : List Cond := Cond.code yX3_begin bX3_begin 2 none :: wsA
theorem dc_X3_begin : yX3_begin.cls ≠ "java/lang/invoke/MethodHandle" ∧ yX3_begin.cls ≠ "java/lang/invoke/VarHandle" ∧ (parseMethodDescriptor yX3_begin.desc).map (fun d => d.parameters.length) = some 1 := by decide +kernel
theorem dX3_begin_0 : decode bX3_begin 0 = .ok (.aload_n 0, 1) := by decide +kernel
theorem dX3_begin_1 : decode bX3_begin 1 = .ok (.getfield 10, 3) := by decide +kernel
theorem dX3_begin_4 : decode bX3_begin 4 = .ok (.aload_n 1, 1) := by decide +kernel
theorem dX3_begin_5 : decode bX3_begin 5 = .ok (.invokevirtual 22, 3) := by decide +kernel
theorem dX3_begin_8 : decode bX3_begin 8 = .ok (.aload_n 0, 1) := by decide +kernel
theorem dX3_begin_9 : decode bX3_begin 9 = .ok (.getfield 16, 3) := by decide +kernel
theorem dX3_begin_12 : decode bX3_begin 12 = .ok (.invokevirtual 26, 3) := by decide +kernel
theorem dX3_begin_15 : decode bX3_begin 15 = .ok (.aload_n 0, 1) := by decide +kernel
theorem dX3_begin_16 : decode bX3_begin 16 = .ok (.getfield 19, 3) := by decide +kernel
theorem dX3_begin_19 : decode bX3_begin 19 = .ok (.invokevirtual 26, 3) := by decide +kernel
theorem dX3_begin_22 : decode bX3_begin 22 = .ok (.return_, 1) := by decide +kernel
abbrev bX3_bringDownAll : ByteArray := prog_5_method_3_code
def yX3_bringDownAll : MethodName := ⟨"WideDecimalDesk$LongDivision", "bringDownAll", "(LWideDecimalDesk$Digits;)V"⟩
def wsX3_bringDownAll : List Cond := Cond.code yX3_bringDownAll bX3_bringDownAll 3 none :: wsA
theorem dc_X3_bringDownAll : yX3_bringDownAll.cls ≠ "java/lang/invoke/MethodHandle" ∧ yX3_bringDownAll.cls ≠ "java/lang/invoke/VarHandle" ∧ (parseMethodDescriptor yX3_bringDownAll.desc).map (fun d => d.parameters.length) = some 1 := by decide +kernel
theorem dX3_bringDownAll_0 : decode bX3_bringDownAll 0 = .ok (.aload_n 1, 1) := by decide +kernel
theorem dX3_bringDownAll_1 : decode bX3_bringDownAll 1 = .ok (.getfield 29, 3) := by decide +kernel
theorem dX3_bringDownAll_4 : decode bX3_bringDownAll 4 = .ok (.iconst 1, 1) := by decide +kernel
theorem dX3_bringDownAll_5 : decode bX3_bringDownAll 5 = .ok (.isub, 1) := by decide +kernel
theorem dX3_bringDownAll_6 : decode bX3_bringDownAll 6 = .ok (.istore_n 2, 1) := by decide +kernel
theorem dX3_bringDownAll_7 : decode bX3_bringDownAll 7 = .ok (.iload_n 2, 1) := by decide +kernel
theorem dX3_bringDownAll_8 : decode bX3_bringDownAll 8 = .ok (.ifCond .lt 18, 3) := by decide +kernel
theorem dX3_bringDownAll_11 : decode bX3_bringDownAll 11 = .ok (.aload_n 0, 1) := by decide +kernel
theorem dX3_bringDownAll_12 : decode bX3_bringDownAll 12 = .ok (.aload_n 1, 1) := by decide +kernel
theorem dX3_bringDownAll_13 : decode bX3_bringDownAll 13 = .ok (.iload_n 2, 1) := by decide +kernel
theorem dX3_bringDownAll_14 : decode bX3_bringDownAll 14 = .ok (.invokevirtual 35, 3) := by decide +kernel
theorem dX3_bringDownAll_17 : decode bX3_bringDownAll 17 = .ok (.invokevirtual 39, 3) := by decide +kernel
theorem dX3_bringDownAll_20 : decode bX3_bringDownAll 20 = .ok (.iinc 2 (-1), 3) := by decide +kernel
theorem dX3_bringDownAll_23 : decode bX3_bringDownAll 23 = .ok (.goto (-16), 3) := by decide +kernel
theorem dX3_bringDownAll_26 : decode bX3_bringDownAll 26 = .ok (.return_, 1) := by decide +kernel
abbrev bX3_bringDown : ByteArray := prog_5_method_4_code
def yX3_bringDown : MethodName := ⟨"WideDecimalDesk$LongDivision", "bringDown", "(I)V"⟩
def wsX3_bringDown : List Cond := Cond.code yX3_bringDown bX3_bringDown 3 none :: wsA
theorem dc_X3_bringDown : yX3_bringDown.cls ≠ "java/lang/invoke/MethodHandle" ∧ yX3_bringDown.cls ≠ "java/lang/invoke/VarHandle" ∧ (parseMethodDescriptor yX3_bringDown.desc).map (fun d => d.parameters.length) = some 1 := by decide +kernel
theorem dX3_bringDown_0 : decode bX3_bringDown 0 = .ok (.aload_n 0, 1) := by decide +kernel
theorem dX3_bringDown_1 : decode bX3_bringDown 1 = .ok (.getfield 19, 3) := by decide +kernel
theorem dX3_bringDown_4 : decode bX3_bringDown 4 = .ok (.iload_n 1, 1) := by decide +kernel
theorem dX3_bringDown_5 : decode bX3_bringDown 5 = .ok (.invokevirtual 43, 3) := by decide +kernel
theorem dX3_bringDown_8 : decode bX3_bringDown 8 = .ok (.iconst 0, 1) := by decide +kernel
theorem dX3_bringDown_9 : decode bX3_bringDown 9 = .ok (.istore_n 2, 1) := by decide +kernel
theorem dX3_bringDown_10 : decode bX3_bringDown 10 = .ok (.iload_n 2, 1) := by decide +kernel
theorem dX3_bringDown_11 : decode bX3_bringDown 11 = .ok (.bipush 9, 2) := by decide +kernel
theorem dX3_bringDown_13 : decode bX3_bringDown 13 = .ok (.if_icmp .ge 38, 3) := by decide +kernel
theorem dX3_bringDown_16 : decode bX3_bringDown 16 = .ok (.aload_n 0, 1) := by decide +kernel
theorem dX3_bringDown_17 : decode bX3_bringDown 17 = .ok (.getfield 19, 3) := by decide +kernel
theorem dX3_bringDown_20 : decode bX3_bringDown 20 = .ok (.aload_n 0, 1) := by decide +kernel
theorem dX3_bringDown_21 : decode bX3_bringDown 21 = .ok (.getfield 10, 3) := by decide +kernel
theorem dX3_bringDown_24 : decode bX3_bringDown 24 = .ok (.invokevirtual 46, 3) := by decide +kernel
theorem dX3_bringDown_27 : decode bX3_bringDown 27 = .ok (.ifCond .lt 24, 3) := by decide +kernel
theorem dX3_bringDown_30 : decode bX3_bringDown 30 = .ok (.aload_n 0, 1) := by decide +kernel
theorem dX3_bringDown_31 : decode bX3_bringDown 31 = .ok (.getfield 19, 3) := by decide +kernel
theorem dX3_bringDown_34 : decode bX3_bringDown 34 = .ok (.aload_n 0, 1) := by decide +kernel
theorem dX3_bringDown_35 : decode bX3_bringDown 35 = .ok (.getfield 19, 3) := by decide +kernel
theorem dX3_bringDown_38 : decode bX3_bringDown 38 = .ok (.aload_n 0, 1) := by decide +kernel
theorem dX3_bringDown_39 : decode bX3_bringDown 39 = .ok (.getfield 10, 3) := by decide +kernel
theorem dX3_bringDown_42 : decode bX3_bringDown 42 = .ok (.invokevirtual 50, 3) := by decide +kernel
theorem dX3_bringDown_45 : decode bX3_bringDown 45 = .ok (.iinc 2 1, 3) := by decide +kernel
theorem dX3_bringDown_48 : decode bX3_bringDown 48 = .ok (.goto (-38), 3) := by decide +kernel
theorem dX3_bringDown_51 : decode bX3_bringDown 51 = .ok (.aload_n 0, 1) := by decide +kernel
theorem dX3_bringDown_52 : decode bX3_bringDown 52 = .ok (.getfield 16, 3) := by decide +kernel
theorem dX3_bringDown_55 : decode bX3_bringDown 55 = .ok (.iload_n 2, 1) := by decide +kernel
theorem dX3_bringDown_56 : decode bX3_bringDown 56 = .ok (.invokevirtual 43, 3) := by decide +kernel
theorem dX3_bringDown_59 : decode bX3_bringDown 59 = .ok (.return_, 1) := by decide +kernel
abbrev bX3_isUnfinished : ByteArray := prog_5_method_5_code
def yX3_isUnfinished : MethodName := ⟨"WideDecimalDesk$LongDivision", "isUnfinished", "()Z"⟩
def wsX3_isUnfinished : List Cond := Cond.code yX3_isUnfinished bX3_isUnfinished 1 (some .boolean) :: wsA
theorem dc_X3_isUnfinished : yX3_isUnfinished.cls ≠ "java/lang/invoke/MethodHandle" ∧ yX3_isUnfinished.cls ≠ "java/lang/invoke/VarHandle" ∧ (parseMethodDescriptor yX3_isUnfinished.desc).map (fun d => d.parameters.length) = some 0 := by decide +kernel
theorem dX3_isUnfinished_0 : decode bX3_isUnfinished 0 = .ok (.aload_n 0, 1) := by decide +kernel
theorem dX3_isUnfinished_1 : decode bX3_isUnfinished 1 = .ok (.getfield 19, 3) := by decide +kernel
theorem dX3_isUnfinished_4 : decode bX3_isUnfinished 4 = .ok (.invokevirtual 54, 3) := by decide +kernel
theorem dX3_isUnfinished_7 : decode bX3_isUnfinished 7 = .ok (.ifCond .ne 17, 3) := by decide +kernel
theorem dX3_isUnfinished_10 : decode bX3_isUnfinished 10 = .ok (.aload_n 0, 1) := by decide +kernel
theorem dX3_isUnfinished_11 : decode bX3_isUnfinished 11 = .ok (.getfield 16, 3) := by decide +kernel
theorem dX3_isUnfinished_14 : decode bX3_isUnfinished 14 = .ok (.invokevirtual 58, 3) := by decide +kernel
theorem dX3_isUnfinished_17 : decode bX3_isUnfinished 17 = .ok (.ifCond .eq 7, 3) := by decide +kernel
theorem dX3_isUnfinished_20 : decode bX3_isUnfinished 20 = .ok (.iconst 1, 1) := by decide +kernel
theorem dX3_isUnfinished_21 : decode bX3_isUnfinished 21 = .ok (.goto 4, 3) := by decide +kernel
theorem dX3_isUnfinished_24 : decode bX3_isUnfinished 24 = .ok (.iconst 0, 1) := by decide +kernel
theorem dX3_isUnfinished_25 : decode bX3_isUnfinished 25 = .ok (.ireturn, 1) := by decide +kernel
abbrev bX0_init : ByteArray := prog_2_method_1_code
def yX0_init : MethodName := ⟨"WideDecimalDesk$Digits", "<init>", "()V"⟩
def wsX0_init : List Cond := Cond.code yX0_init bX0_init 1 none :: wsA
theorem dc_X0_init : yX0_init.cls ≠ "java/lang/invoke/MethodHandle" ∧ yX0_init.cls ≠ "java/lang/invoke/VarHandle" ∧ (parseMethodDescriptor yX0_init.desc).map (fun d => d.parameters.length) = some 0 := by decide +kernel
theorem dX0_init_0 : decode bX0_init 0 = .ok (.aload_n 0, 1) := by decide +kernel
theorem dX0_init_1 : decode bX0_init 1 = .ok (.invokespecial 1, 3) := by decide +kernel
theorem dX0_init_4 : decode bX0_init 4 = .ok (.aload_n 0, 1) := by decide +kernel
theorem dX0_init_5 : decode bX0_init 5 = .ok (.bipush 31, 2) := by decide +kernel
theorem dX0_init_7 : decode bX0_init 7 = .ok (.newarray .byte, 2) := by decide +kernel
theorem dX0_init_9 : decode bX0_init 9 = .ok (.putfield 9, 3) := by decide +kernel
theorem dX0_init_12 : decode bX0_init 12 = .ok (.return_, 1) := by decide +kernel
abbrev bX0_takeFrom : ByteArray := prog_2_method_2_code
def yX0_takeFrom : MethodName := ⟨"WideDecimalDesk$Digits", "takeFrom", "(LWideDecimalDesk$Whole;)V"⟩
def wsX0_takeFrom : List Cond := Cond.code yX0_takeFrom bX0_takeFrom 2 none :: wsA
theorem dc_X0_takeFrom : yX0_takeFrom.cls ≠ "java/lang/invoke/MethodHandle" ∧ yX0_takeFrom.cls ≠ "java/lang/invoke/VarHandle" ∧ (parseMethodDescriptor yX0_takeFrom.desc).map (fun d => d.parameters.length) = some 1 := by decide +kernel
theorem dX0_takeFrom_0 : decode bX0_takeFrom 0 = .ok (.aload_n 0, 1) := by decide +kernel
theorem dX0_takeFrom_1 : decode bX0_takeFrom 1 = .ok (.iconst 0, 1) := by decide +kernel
theorem dX0_takeFrom_2 : decode bX0_takeFrom 2 = .ok (.putfield 13, 3) := by decide +kernel
theorem dX0_takeFrom_5 : decode bX0_takeFrom 5 = .ok (.aload_n 0, 1) := by decide +kernel
theorem dX0_takeFrom_6 : decode bX0_takeFrom 6 = .ok (.getfield 13, 3) := by decide +kernel
theorem dX0_takeFrom_9 : decode bX0_takeFrom 9 = .ok (.bipush 31, 2) := by decide +kernel
theorem dX0_takeFrom_11 : decode bX0_takeFrom 11 = .ok (.if_icmp .ge 37, 3) := by decide +kernel
theorem dX0_takeFrom_14 : decode bX0_takeFrom 14 = .ok (.aload_n 1, 1) := by decide +kernel
theorem dX0_takeFrom_15 : decode bX0_takeFrom 15 = .ok (.invokevirtual 17, 3) := by decide +kernel
theorem dX0_takeFrom_18 : decode bX0_takeFrom 18 = .ok (.ifCond .ne 30, 3) := by decide +kernel
theorem dX0_takeFrom_21 : decode bX0_takeFrom 21 = .ok (.aload_n 0, 1) := by decide +kernel
theorem dX0_takeFrom_22 : decode bX0_takeFrom 22 = .ok (.getfield 9, 3) := by decide +kernel
theorem dX0_takeFrom_25 : decode bX0_takeFrom 25 = .ok (.aload_n 0, 1) := by decide +kernel
theorem dX0_takeFrom_26 : decode bX0_takeFrom 26 = .ok (.getfield 13, 3) := by decide +kernel
theorem dX0_takeFrom_29 : decode bX0_takeFrom 29 = .ok (.aload_n 1, 1) := by decide +kernel
theorem dX0_takeFrom_30 : decode bX0_takeFrom 30 = .ok (.invokevirtual 23, 3) := by decide +kernel
theorem dX0_takeFrom_33 : decode bX0_takeFrom 33 = .ok (.i2b, 1) := by decide +kernel
theorem dX0_takeFrom_34 : decode bX0_takeFrom 34 = .ok (.bastore, 1) := by decide +kernel
theorem dX0_takeFrom_35 : decode bX0_takeFrom 35 = .ok (.aload_n 0, 1) := by decide +kernel
theorem dX0_takeFrom_36 : decode bX0_takeFrom 36 = .ok (.dup, 1) := by decide +kernel
theorem dX0_takeFrom_37 : decode bX0_takeFrom 37 = .ok (.getfield 13, 3) := by decide +kernel
theorem dX0_takeFrom_40 : decode bX0_takeFrom 40 = .ok (.iconst 1, 1) := by decide +kernel
theorem dX0_takeFrom_41 : decode bX0_takeFrom 41 = .ok (.iadd, 1) := by decide +kernel
theorem dX0_takeFrom_42 : decode bX0_takeFrom 42 = .ok (.putfield 13, 3) := by decide +kernel
theorem dX0_takeFrom_45 : decode bX0_takeFrom 45 = .ok (.goto (-40), 3) := by decide +kernel
theorem dX0_takeFrom_48 : decode bX0_takeFrom 48 = .ok (.return_, 1) := by decide +kernel
abbrev bX0_digit : ByteArray := prog_2_method_3_code
def yX0_digit : MethodName := ⟨"WideDecimalDesk$Digits", "digit", "(I)I"⟩
def wsX0_digit : List Cond := Cond.code yX0_digit bX0_digit 2 (some .int) :: wsA
theorem dc_X0_digit : yX0_digit.cls ≠ "java/lang/invoke/MethodHandle" ∧ yX0_digit.cls ≠ "java/lang/invoke/VarHandle" ∧ (parseMethodDescriptor yX0_digit.desc).map (fun d => d.parameters.length) = some 1 := by decide +kernel
theorem dX0_digit_0 : decode bX0_digit 0 = .ok (.iload_n 1, 1) := by decide +kernel
theorem dX0_digit_1 : decode bX0_digit 1 = .ok (.ifCond .lt 20, 3) := by decide +kernel
theorem dX0_digit_4 : decode bX0_digit 4 = .ok (.iload_n 1, 1) := by decide +kernel
theorem dX0_digit_5 : decode bX0_digit 5 = .ok (.aload_n 0, 1) := by decide +kernel
theorem dX0_digit_6 : decode bX0_digit 6 = .ok (.getfield 13, 3) := by decide +kernel
theorem dX0_digit_9 : decode bX0_digit 9 = .ok (.if_icmp .ge 12, 3) := by decide +kernel
theorem dX0_digit_12 : decode bX0_digit 12 = .ok (.aload_n 0, 1) := by decide +kernel
theorem dX0_digit_13 : decode bX0_digit 13 = .ok (.getfield 9, 3) := by decide +kernel
theorem dX0_digit_16 : decode bX0_digit 16 = .ok (.iload_n 1, 1) := by decide +kernel
theorem dX0_digit_17 : decode bX0_digit 17 = .ok (.baload, 1) := by decide +kernel
theorem dX0_digit_18 : decode bX0_digit 18 = .ok (.goto 4, 3) := by decide +kernel
theorem dX0_digit_21 : decode bX0_digit 21 = .ok (.iconst 0, 1) := by decide +kernel
theorem dX0_digit_22 : decode bX0_digit 22 = .ok (.ireturn, 1) := by decide +kernel
abbrev bX0_mark : ByteArray := prog_2_method_4_code
def yX0_mark : MethodName := ⟨"WideDecimalDesk$Digits", "mark", "(I)C"⟩
def wsX0_mark : List Cond := Cond.code yX0_mark bX0_mark 2 (some .char) :: wsA
theorem dc_X0_mark : yX0_mark.cls ≠ "java/lang/invoke/MethodHandle" ∧ yX0_mark.cls ≠ "java/lang/invoke/VarHandle" ∧ (parseMethodDescriptor yX0_mark.desc).map (fun d => d.parameters.length) = some 1 := by decide +kernel
theorem dX0_mark_0 : decode bX0_mark 0 = .ok (.bipush 48, 2) := by decide +kernel
theorem dX0_mark_2 : decode bX0_mark 2 = .ok (.aload_n 0, 1) := by decide +kernel
theorem dX0_mark_3 : decode bX0_mark 3 = .ok (.iload_n 1, 1) := by decide +kernel
theorem dX0_mark_4 : decode bX0_mark 4 = .ok (.invokevirtual 27, 3) := by decide +kernel
theorem dX0_mark_7 : decode bX0_mark 7 = .ok (.iadd, 1) := by decide +kernel
theorem dX0_mark_8 : decode bX0_mark 8 = .ok (.i2c, 1) := by decide +kernel
theorem dX0_mark_9 : decode bX0_mark 9 = .ok (.ireturn, 1) := by decide +kernel
