abbrev bX6_init : ByteArray := prog_8_method_1_code
def yX6_init : MethodName := ⟨"WideDecimalDesk$Whole", "<init>", "()V"⟩
def wsX6_init : List Cond := Cond.code yX6_init bX6_init 1 none :: wsA
theorem dc_X6_init : yX6_init.cls ≠ "java/lang/invoke/MethodHandle" ∧ yX6_init.cls ≠ "java/lang/invoke/VarHandle" ∧ (parseMethodDescriptor yX6_init.desc).map (fun d => d.parameters.length) = some 0 := by decide +kernel
theorem dX6_init_0 : decode bX6_init 0 = .ok (.aload_n 0, 1) := by decide +kernel
theorem dX6_init_1 : decode bX6_init 1 = .ok (.invokespecial 1, 3) := by decide +kernel
theorem dX6_init_4 : decode bX6_init 4 = .ok (.aload_n 0, 1) := by decide +kernel
theorem dX6_init_5 : decode bX6_init 5 = .ok (.bipush 6, 2) := by decide +kernel
theorem dX6_init_7 : decode bX6_init 7 = .ok (.newarray .long, 2) := by decide +kernel
theorem dX6_init_9 : decode bX6_init 9 = .ok (.putfield 9, 3) := by decide +kernel
theorem dX6_init_12 : decode bX6_init 12 = .ok (.return_, 1) := by decide +kernel
abbrev bX6_becomeZero : ByteArray := prog_8_method_2_code
def yX6_becomeZero : MethodName := ⟨"WideDecimalDesk$Whole", "becomeZero", "()V"⟩
def wsX6_becomeZero : List Cond := Cond.code yX6_becomeZero bX6_becomeZero 2 none :: wsA
theorem dc_X6_becomeZero : yX6_becomeZero.cls ≠ "java/lang/invoke/MethodHandle" ∧ yX6_becomeZero.cls ≠ "java/lang/invoke/VarHandle" ∧ (parseMethodDescriptor yX6_becomeZero.desc).map (fun d => d.parameters.length) = some 0 := by decide +kernel
theorem dX6_becomeZero_0 : decode bX6_becomeZero 0 = .ok (.iconst 0, 1) := by decide +kernel
theorem dX6_becomeZero_1 : decode bX6_becomeZero 1 = .ok (.istore_n 1, 1) := by decide +kernel
theorem dX6_becomeZero_2 : decode bX6_becomeZero 2 = .ok (.iload_n 1, 1) := by decide +kernel
theorem dX6_becomeZero_3 : decode bX6_becomeZero 3 = .ok (.bipush 6, 2) := by decide +kernel
theorem dX6_becomeZero_5 : decode bX6_becomeZero 5 = .ok (.if_icmp .ge 16, 3) := by decide +kernel
theorem dX6_becomeZero_8 : decode bX6_becomeZero 8 = .ok (.aload_n 0, 1) := by decide +kernel
theorem dX6_becomeZero_9 : decode bX6_becomeZero 9 = .ok (.getfield 9, 3) := by decide +kernel
theorem dX6_becomeZero_12 : decode bX6_becomeZero 12 = .ok (.iload_n 1, 1) := by decide +kernel
theorem dX6_becomeZero_13 : decode bX6_becomeZero 13 = .ok (.lconst 0, 1) := by decide +kernel
theorem dX6_becomeZero_14 : decode bX6_becomeZero 14 = .ok (.lastore, 1) := by decide +kernel
theorem dX6_becomeZero_15 : decode bX6_becomeZero 15 = .ok (.iinc 1 1, 3) := by decide +kernel
theorem dX6_becomeZero_18 : decode bX6_becomeZero 18 = .ok (.goto (-16), 3) := by decide +kernel
theorem dX6_becomeZero_21 : decode bX6_becomeZero 21 = .ok (.return_, 1) := by decide +kernel
abbrev bX6_copy : ByteArray := prog_8_method_3_code
def yX6_copy : MethodName := ⟨"WideDecimalDesk$Whole", "copy", "(LWideDecimalDesk$Whole;)V"⟩
def wsX6_copy : List Cond := Cond.code yX6_copy bX6_copy 3 none :: wsA
theorem dc_X6_copy : yX6_copy.cls ≠ "java/lang/invoke/MethodHandle" ∧ yX6_copy.cls ≠ "java/lang/invoke/VarHandle" ∧ (parseMethodDescriptor yX6_copy.desc).map (fun d => d.parameters.length) = some 1 := by decide +kernel
theorem dX6_copy_0 : decode bX6_copy 0 = .ok (.iconst 0, 1) := by decide +kernel
theorem dX6_copy_1 : decode bX6_copy 1 = .ok (.istore_n 2, 1) := by decide +kernel
theorem dX6_copy_2 : decode bX6_copy 2 = .ok (.iload_n 2, 1) := by decide +kernel
theorem dX6_copy_3 : decode bX6_copy 3 = .ok (.bipush 6, 2) := by decide +kernel
theorem dX6_copy_5 : decode bX6_copy 5 = .ok (.if_icmp .ge 21, 3) := by decide +kernel
theorem dX6_copy_8 : decode bX6_copy 8 = .ok (.aload_n 0, 1) := by decide +kernel
theorem dX6_copy_9 : decode bX6_copy 9 = .ok (.getfield 9, 3) := by decide +kernel
theorem dX6_copy_12 : decode bX6_copy 12 = .ok (.iload_n 2, 1) := by decide +kernel
theorem dX6_copy_13 : decode bX6_copy 13 = .ok (.aload_n 1, 1) := by decide +kernel
theorem dX6_copy_14 : decode bX6_copy 14 = .ok (.getfield 9, 3) := by decide +kernel
theorem dX6_copy_17 : decode bX6_copy 17 = .ok (.iload_n 2, 1) := by decide +kernel
theorem dX6_copy_18 : decode bX6_copy 18 = .ok (.laload, 1) := by decide +kernel
theorem dX6_copy_19 : decode bX6_copy 19 = .ok (.lastore, 1) := by decide +kernel
theorem dX6_copy_20 : decode bX6_copy 20 = .ok (.iinc 2 1, 3) := by decide +kernel
theorem dX6_copy_23 : decode bX6_copy 23 = .ok (.goto (-21), 3) := by decide +kernel
theorem dX6_copy_26 : decode bX6_copy 26 = .ok (.return_, 1) := by decide +kernel
abbrev bX6_takeBits : ByteArray := prog_8_method_4_code
def yX6_takeBits : MethodName := ⟨"WideDecimalDesk$Whole", "takeBits", "(JI)V"⟩
def wsX6_takeBits : List Cond := Cond.code yX6_takeBits bX6_takeBits 4 none :: wsA
theorem dc_X6_takeBits : yX6_takeBits.cls ≠ "java/lang/invoke/MethodHandle" ∧ yX6_takeBits.cls ≠ "java/lang/invoke/VarHandle" ∧ (parseMethodDescriptor yX6_takeBits.desc).map (fun d => d.parameters.length) = some 2 := by decide +kernel
theorem dX6_takeBits_0 : decode bX6_takeBits 0 = .ok (.aload_n 0, 1) := by decide +kernel
theorem dX6_takeBits_1 : decode bX6_takeBits 1 = .ok (.invokevirtual 13, 3) := by decide +kernel
theorem dX6_takeBits_4 : decode bX6_takeBits 4 = .ok (.aload_n 0, 1) := by decide +kernel
theorem dX6_takeBits_5 : decode bX6_takeBits 5 = .ok (.getfield 9, 3) := by decide +kernel
theorem dX6_takeBits_8 : decode bX6_takeBits 8 = .ok (.iconst 0, 1) := by decide +kernel
theorem dX6_takeBits_9 : decode bX6_takeBits 9 = .ok (.lload_n 1, 1) := by decide +kernel
theorem dX6_takeBits_10 : decode bX6_takeBits 10 = .ok (.ldc2_w 16, 3) := by decide +kernel
theorem dX6_takeBits_13 : decode bX6_takeBits 13 = .ok (.land, 1) := by decide +kernel
theorem dX6_takeBits_14 : decode bX6_takeBits 14 = .ok (.lastore, 1) := by decide +kernel
theorem dX6_takeBits_15 : decode bX6_takeBits 15 = .ok (.aload_n 0, 1) := by decide +kernel
theorem dX6_takeBits_16 : decode bX6_takeBits 16 = .ok (.getfield 9, 3) := by decide +kernel
theorem dX6_takeBits_19 : decode bX6_takeBits 19 = .ok (.iconst 1, 1) := by decide +kernel
theorem dX6_takeBits_20 : decode bX6_takeBits 20 = .ok (.lload_n 1, 1) := by decide +kernel
theorem dX6_takeBits_21 : decode bX6_takeBits 21 = .ok (.bipush 32, 2) := by decide +kernel
theorem dX6_takeBits_23 : decode bX6_takeBits 23 = .ok (.lushr, 1) := by decide +kernel
theorem dX6_takeBits_24 : decode bX6_takeBits 24 = .ok (.lastore, 1) := by decide +kernel
theorem dX6_takeBits_25 : decode bX6_takeBits 25 = .ok (.aload_n 0, 1) := by decide +kernel
theorem dX6_takeBits_26 : decode bX6_takeBits 26 = .ok (.getfield 9, 3) := by decide +kernel
theorem dX6_takeBits_29 : decode bX6_takeBits 29 = .ok (.iconst 2, 1) := by decide +kernel
theorem dX6_takeBits_30 : decode bX6_takeBits 30 = .ok (.iload_n 3, 1) := by decide +kernel
theorem dX6_takeBits_31 : decode bX6_takeBits 31 = .ok (.i2l, 1) := by decide +kernel
theorem dX6_takeBits_32 : decode bX6_takeBits 32 = .ok (.ldc2_w 16, 3) := by decide +kernel
theorem dX6_takeBits_35 : decode bX6_takeBits 35 = .ok (.land, 1) := by decide +kernel
theorem dX6_takeBits_36 : decode bX6_takeBits 36 = .ok (.lastore, 1) := by decide +kernel
theorem dX6_takeBits_37 : decode bX6_takeBits 37 = .ok (.return_, 1) := by decide +kernel
abbrev bX6_lowBits : ByteArray := prog_8_method_5_code
def yX6_lowBits : MethodName := ⟨"WideDecimalDesk$Whole", "lowBits", "()J"⟩
def wsX6_lowBits : List Cond := Cond.code yX6_lowBits bX6_lowBits 1 (some .long) :: wsA
theorem dc_X6_lowBits : yX6_lowBits.cls ≠ "java/lang/invoke/MethodHandle" ∧ yX6_lowBits.cls ≠ "java/lang/invoke/VarHandle" ∧ (parseMethodDescriptor yX6_lowBits.desc).map (fun d => d.parameters.length) = some 0 := by decide +kernel
theorem dX6_lowBits_0 : decode bX6_lowBits 0 = .ok (.aload_n 0, 1) := by decide +kernel
theorem dX6_lowBits_1 : decode bX6_lowBits 1 = .ok (.getfield 9, 3) := by decide +kernel
theorem dX6_lowBits_4 : decode bX6_lowBits 4 = .ok (.iconst 0, 1) := by decide +kernel
theorem dX6_lowBits_5 : decode bX6_lowBits 5 = .ok (.laload, 1) := by decide +kernel
theorem dX6_lowBits_6 : decode bX6_lowBits 6 = .ok (.aload_n 0, 1) := by decide +kernel
theorem dX6_lowBits_7 : decode bX6_lowBits 7 = .ok (.getfield 9, 3) := by decide +kernel
theorem dX6_lowBits_10 : decode bX6_lowBits 10 = .ok (.iconst 1, 1) := by decide +kernel
theorem dX6_lowBits_11 : decode bX6_lowBits 11 = .ok (.laload, 1) := by decide +kernel
theorem dX6_lowBits_12 : decode bX6_lowBits 12 = .ok (.bipush 32, 2) := by decide +kernel
theorem dX6_lowBits_14 : decode bX6_lowBits 14 = .ok (.lshl, 1) := by decide +kernel
theorem dX6_lowBits_15 : decode bX6_lowBits 15 = .ok (.lor, 1) := by decide +kernel
theorem dX6_lowBits_16 : decode bX6_lowBits 16 = .ok (.lreturn, 1) := by decide +kernel
abbrev bX6_highBits : ByteArray := prog_8_method_6_code
def yX6_highBits : MethodName := ⟨"WideDecimalDesk$Whole", "highBits", "()I"⟩
def wsX6_highBits : List Cond := Cond.code yX6_highBits bX6_highBits 1 (some .int) :: wsA
theorem dc_X6_highBits : yX6_highBits.cls ≠ "java/lang/invoke/MethodHandle" ∧ yX6_highBits.cls ≠ "java/lang/invoke/VarHandle" ∧ (parseMethodDescriptor yX6_highBits.desc).map (fun d => d.parameters.length) = some 0 := by decide +kernel
theorem dX6_highBits_0 : decode bX6_highBits 0 = .ok (.aload_n 0, 1) := by decide +kernel
theorem dX6_highBits_1 : decode bX6_highBits 1 = .ok (.getfield 9, 3) := by decide +kernel
theorem dX6_highBits_4 : decode bX6_highBits 4 = .ok (.iconst 2, 1) := by decide +kernel
theorem dX6_highBits_5 : decode bX6_highBits 5 = .ok (.laload, 1) := by decide +kernel
theorem dX6_highBits_6 : decode bX6_highBits 6 = .ok (.l2i, 1) := by decide +kernel
theorem dX6_highBits_7 : decode bX6_highBits 7 = .ok (.ireturn, 1) := by decide +kernel
abbrev bX6_isZero : ByteArray := prog_8_method_7_code
def yX6_isZero : MethodName := ⟨"WideDecimalDesk$Whole", "isZero", "()Z"⟩
def wsX6_isZero : List Cond := Cond.code yX6_isZero bX6_isZero 1 (some .boolean) :: wsA
theorem dc_X6_isZero : yX6_isZero.cls ≠ "java/lang/invoke/MethodHandle" ∧ yX6_isZero.cls ≠ "java/lang/invoke/VarHandle" ∧ (parseMethodDescriptor yX6_isZero.desc).map (fun d => d.parameters.length) = some 0 := by decide +kernel
theorem dX6_isZero_0 : decode bX6_isZero 0 = .ok (.aload_n 0, 1) := by decide +kernel
theorem dX6_isZero_1 : decode bX6_isZero 1 = .ok (.invokevirtual 18, 3) := by decide +kernel
theorem dX6_isZero_4 : decode bX6_isZero 4 = .ok (.ifCond .eq 40, 3) := by decide +kernel
theorem dX6_isZero_7 : decode bX6_isZero 7 = .ok (.aload_n 0, 1) := by decide +kernel
theorem dX6_isZero_8 : decode bX6_isZero 8 = .ok (.getfield 9, 3) := by decide +kernel
theorem dX6_isZero_11 : decode bX6_isZero 11 = .ok (.iconst 0, 1) := by decide +kernel
theorem dX6_isZero_12 : decode bX6_isZero 12 = .ok (.laload, 1) := by decide +kernel
theorem dX6_isZero_13 : decode bX6_isZero 13 = .ok (.lconst 0, 1) := by decide +kernel
theorem dX6_isZero_14 : decode bX6_isZero 14 = .ok (.lcmp, 1) := by decide +kernel
theorem dX6_isZero_15 : decode bX6_isZero 15 = .ok (.ifCond .ne 29, 3) := by decide +kernel
theorem dX6_isZero_18 : decode bX6_isZero 18 = .ok (.aload_n 0, 1) := by decide +kernel
theorem dX6_isZero_19 : decode bX6_isZero 19 = .ok (.getfield 9, 3) := by decide +kernel
theorem dX6_isZero_22 : decode bX6_isZero 22 = .ok (.iconst 1, 1) := by decide +kernel
theorem dX6_isZero_23 : decode bX6_isZero 23 = .ok (.laload, 1) := by decide +kernel
theorem dX6_isZero_24 : decode bX6_isZero 24 = .ok (.lconst 0, 1) := by decide +kernel
theorem dX6_isZero_25 : decode bX6_isZero 25 = .ok (.lcmp, 1) := by decide +kernel
theorem dX6_isZero_26 : decode bX6_isZero 26 = .ok (.ifCond .ne 18, 3) := by decide +kernel
theorem dX6_isZero_29 : decode bX6_isZero 29 = .ok (.aload_n 0, 1) := by decide +kernel
theorem dX6_isZero_30 : decode bX6_isZero 30 = .ok (.getfield 9, 3) := by decide +kernel
theorem dX6_isZero_33 : decode bX6_isZero 33 = .ok (.iconst 2, 1) := by decide +kernel
theorem dX6_isZero_34 : decode bX6_isZero 34 = .ok (.laload, 1) := by decide +kernel
theorem dX6_isZero_35 : decode bX6_isZero 35 = .ok (.lconst 0, 1) := by decide +kernel
theorem dX6_isZero_36 : decode bX6_isZero 36 = .ok (.lcmp, 1) := by decide +kernel
theorem dX6_isZero_37 : decode bX6_isZero 37 = .ok (.ifCond .ne 7, 3) := by decide +kernel
theorem dX6_isZero_40 : decode bX6_isZero 40 = .ok (.iconst 1, 1) := by decide +kernel
theorem dX6_isZero_41 : decode bX6_isZero 41 = .ok (.goto 4, 3) := by decide +kernel
theorem dX6_isZero_44 : decode bX6_isZero 44 = .ok (.iconst 0, 1) := by decide +kernel
theorem dX6_isZero_45 : decode bX6_isZero 45 = .ok (.ireturn, 1) := by decide +kernel
abbrev bX6_isOdd : ByteArray := prog_8_method_8_code
def yX6_isOdd : MethodName := ⟨"WideDecimalDesk$Whole", "isOdd", "()Z"⟩
def wsX6_isOdd : List Cond := Cond.code yX6_isOdd bX6_isOdd 1 (some .boolean) :: wsA
theorem dc_X6_isOdd : yX6_isOdd.cls ≠ "java/lang/invoke/MethodHandle" ∧ yX6_isOdd.cls ≠ "java/lang/invoke/VarHandle" ∧ (parseMethodDescriptor yX6_isOdd.desc).map (fun d => d.parameters.length) = some 0 := by decide +kernel
theorem dX6_isOdd_0 : decode bX6_isOdd 0 = .ok (.aload_n 0, 1) := by decide +kernel
theorem dX6_isOdd_1 : decode bX6_isOdd 1 = .ok (.getfield 9, 3) := by decide +kernel
theorem dX6_isOdd_4 : decode bX6_isOdd 4 = .ok (.iconst 0, 1) := by decide +kernel
theorem dX6_isOdd_5 : decode bX6_isOdd 5 = .ok (.laload, 1) := by decide +kernel
theorem dX6_isOdd_6 : decode bX6_isOdd 6 = .ok (.lconst 1, 1) := by decide +kernel
theorem dX6_isOdd_7 : decode bX6_isOdd 7 = .ok (.land, 1) := by decide +kernel
theorem dX6_isOdd_8 : decode bX6_isOdd 8 = .ok (.lconst 1, 1) := by decide +kernel
theorem dX6_isOdd_9 : decode bX6_isOdd 9 = .ok (.lcmp, 1) := by decide +kernel
theorem dX6_isOdd_10 : decode bX6_isOdd 10 = .ok (.ifCond .ne 7, 3) := by decide +kernel
theorem dX6_isOdd_13 : decode bX6_isOdd 13 = .ok (.iconst 1, 1) := by decide +kernel
theorem dX6_isOdd_14 : decode bX6_isOdd 14 = .ok (.goto 4, 3) := by decide +kernel
theorem dX6_isOdd_17 : decode bX6_isOdd 17 = .ok (.iconst 0, 1) := by decide +kernel
theorem dX6_isOdd_18 : decode bX6_isOdd 18 = .ok (.ireturn, 1) := by decide +kernel
abbrev bX6_isCoefficient : ByteArray := prog_8_method_9_code
def yX6_isCoefficient : MethodName := ⟨"WideDecimalDesk$Whole", "isCoefficient", "()Z"⟩
def wsX6_isCoefficient : List Cond := Cond.code yX6_isCoefficient bX6_isCoefficient 1 (some .boolean) :: wsA
theorem dc_X6_isCoefficient : yX6_isCoefficient.cls ≠ "java/lang/invoke/MethodHandle" ∧ yX6_isCoefficient.cls ≠ "java/lang/invoke/VarHandle" ∧ (parseMethodDescriptor yX6_isCoefficient.desc).map (fun d => d.parameters.length) = some 0 := by decide +kernel
theorem dX6_isCoefficient_0 : decode bX6_isCoefficient 0 = .ok (.aload_n 0, 1) := by decide +kernel
theorem dX6_isCoefficient_1 : decode bX6_isCoefficient 1 = .ok (.getfield 9, 3) := by decide +kernel
theorem dX6_isCoefficient_4 : decode bX6_isCoefficient 4 = .ok (.iconst 3, 1) := by decide +kernel
theorem dX6_isCoefficient_5 : decode bX6_isCoefficient 5 = .ok (.laload, 1) := by decide +kernel
theorem dX6_isCoefficient_6 : decode bX6_isCoefficient 6 = .ok (.lconst 0, 1) := by decide +kernel
theorem dX6_isCoefficient_7 : decode bX6_isCoefficient 7 = .ok (.lcmp, 1) := by decide +kernel
theorem dX6_isCoefficient_8 : decode bX6_isCoefficient 8 = .ok (.ifCond .ne 29, 3) := by decide +kernel
theorem dX6_isCoefficient_11 : decode bX6_isCoefficient 11 = .ok (.aload_n 0, 1) := by decide +kernel
theorem dX6_isCoefficient_12 : decode bX6_isCoefficient 12 = .ok (.getfield 9, 3) := by decide +kernel
theorem dX6_isCoefficient_15 : decode bX6_isCoefficient 15 = .ok (.iconst 4, 1) := by decide +kernel
theorem dX6_isCoefficient_16 : decode bX6_isCoefficient 16 = .ok (.laload, 1) := by decide +kernel
theorem dX6_isCoefficient_17 : decode bX6_isCoefficient 17 = .ok (.lconst 0, 1) := by decide +kernel
theorem dX6_isCoefficient_18 : decode bX6_isCoefficient 18 = .ok (.lcmp, 1) := by decide +kernel
theorem dX6_isCoefficient_19 : decode bX6_isCoefficient 19 = .ok (.ifCond .ne 18, 3) := by decide +kernel
theorem dX6_isCoefficient_22 : decode bX6_isCoefficient 22 = .ok (.aload_n 0, 1) := by decide +kernel
theorem dX6_isCoefficient_23 : decode bX6_isCoefficient 23 = .ok (.getfield 9, 3) := by decide +kernel
theorem dX6_isCoefficient_26 : decode bX6_isCoefficient 26 = .ok (.iconst 5, 1) := by decide +kernel
theorem dX6_isCoefficient_27 : decode bX6_isCoefficient 27 = .ok (.laload, 1) := by decide +kernel
theorem dX6_isCoefficient_28 : decode bX6_isCoefficient 28 = .ok (.lconst 0, 1) := by decide +kernel
theorem dX6_isCoefficient_29 : decode bX6_isCoefficient 29 = .ok (.lcmp, 1) := by decide +kernel
theorem dX6_isCoefficient_30 : decode bX6_isCoefficient 30 = .ok (.ifCond .ne 7, 3) := by decide +kernel
theorem dX6_isCoefficient_33 : decode bX6_isCoefficient 33 = .ok (.iconst 1, 1) := by decide +kernel
theorem dX6_isCoefficient_34 : decode bX6_isCoefficient 34 = .ok (.goto 4, 3) := by decide +kernel
theorem dX6_isCoefficient_37 : decode bX6_isCoefficient 37 = .ok (.iconst 0, 1) := by decide +kernel
theorem dX6_isCoefficient_38 : decode bX6_isCoefficient 38 = .ok (.ireturn, 1) := by decide +kernel
abbrev bX6_isGreatestCoefficient : ByteArray := prog_8_method_10_code
def yX6_isGreatestCoefficient : MethodName := ⟨"WideDecimalDesk$Whole", "isGreatestCoefficient", "()Z"⟩
def wsX6_isGreatestCoefficient : List Cond := Cond.code yX6_isGreatestCoefficient bX6_isGreatestCoefficient 1 (some .boolean) :: wsA
theorem dc_X6_isGreatestCoefficient : yX6_isGreatestCoefficient.cls ≠ "java/lang/invoke/MethodHandle" ∧ yX6_isGreatestCoefficient.cls ≠ "java/lang/invoke/VarHandle" ∧ (parseMethodDescriptor yX6_isGreatestCoefficient.desc).map (fun d => d.parameters.length) = some 0 := by decide +kernel
theorem dX6_isGreatestCoefficient_0 : decode bX6_isGreatestCoefficient 0 = .ok (.aload_n 0, 1) := by decide +kernel
theorem dX6_isGreatestCoefficient_1 : decode bX6_isGreatestCoefficient 1 = .ok (.invokevirtual 18, 3) := by decide +kernel
theorem dX6_isGreatestCoefficient_4 : decode bX6_isGreatestCoefficient 4 = .ok (.ifCond .eq 46, 3) := by decide +kernel
theorem dX6_isGreatestCoefficient_7 : decode bX6_isGreatestCoefficient 7 = .ok (.aload_n 0, 1) := by decide +kernel
theorem dX6_isGreatestCoefficient_8 : decode bX6_isGreatestCoefficient 8 = .ok (.getfield 9, 3) := by decide +kernel
theorem dX6_isGreatestCoefficient_11 : decode bX6_isGreatestCoefficient 11 = .ok (.iconst 0, 1) := by decide +kernel
theorem dX6_isGreatestCoefficient_12 : decode bX6_isGreatestCoefficient 12 = .ok (.laload, 1) := by decide +kernel
theorem dX6_isGreatestCoefficient_13 : decode bX6_isGreatestCoefficient 13 = .ok (.ldc2_w 16, 3) := by decide +kernel
theorem dX6_isGreatestCoefficient_16 : decode bX6_isGreatestCoefficient 16 = .ok (.lcmp, 1) := by decide +kernel
theorem dX6_isGreatestCoefficient_17 : decode bX6_isGreatestCoefficient 17 = .ok (.ifCond .ne 33, 3) := by decide +kernel
theorem dX6_isGreatestCoefficient_20 : decode bX6_isGreatestCoefficient 20 = .ok (.aload_n 0, 1) := by decide +kernel
theorem dX6_isGreatestCoefficient_21 : decode bX6_isGreatestCoefficient 21 = .ok (.getfield 9, 3) := by decide +kernel
theorem dX6_isGreatestCoefficient_24 : decode bX6_isGreatestCoefficient 24 = .ok (.iconst 1, 1) := by decide +kernel
theorem dX6_isGreatestCoefficient_25 : decode bX6_isGreatestCoefficient 25 = .ok (.laload, 1) := by decide +kernel
theorem dX6_isGreatestCoefficient_26 : decode bX6_isGreatestCoefficient 26 = .ok (.ldc2_w 16, 3) := by decide +kernel
theorem dX6_isGreatestCoefficient_29 : decode bX6_isGreatestCoefficient 29 = .ok (.lcmp, 1) := by decide +kernel
theorem dX6_isGreatestCoefficient_30 : decode bX6_isGreatestCoefficient 30 = .ok (.ifCond .ne 20, 3) := by decide +kernel
theorem dX6_isGreatestCoefficient_33 : decode bX6_isGreatestCoefficient 33 = .ok (.aload_n 0, 1) := by decide +kernel
theorem dX6_isGreatestCoefficient_34 : decode bX6_isGreatestCoefficient 34 = .ok (.getfield 9, 3) := by decide +kernel
theorem dX6_isGreatestCoefficient_37 : decode bX6_isGreatestCoefficient 37 = .ok (.iconst 2, 1) := by decide +kernel
theorem dX6_isGreatestCoefficient_38 : decode bX6_isGreatestCoefficient 38 = .ok (.laload, 1) := by decide +kernel
theorem dX6_isGreatestCoefficient_39 : decode bX6_isGreatestCoefficient 39 = .ok (.ldc2_w 16, 3) := by decide +kernel
theorem dX6_isGreatestCoefficient_42 : decode bX6_isGreatestCoefficient 42 = .ok (.lcmp, 1) := by decide +kernel
theorem dX6_isGreatestCoefficient_43 : decode bX6_isGreatestCoefficient 43 = .ok (.ifCond .ne 7, 3) := by decide +kernel
theorem dX6_isGreatestCoefficient_46 : decode bX6_isGreatestCoefficient 46 = .ok (.iconst 1, 1) := by decide +kernel
theorem dX6_isGreatestCoefficient_47 : decode bX6_isGreatestCoefficient 47 = .ok (.goto 4, 3) := by decide +kernel
theorem dX6_isGreatestCoefficient_50 : decode bX6_isGreatestCoefficient 50 = .ok (.iconst 0, 1) := by decide +kernel
theorem dX6_isGreatestCoefficient_51 : decode bX6_isGreatestCoefficient 51 = .ok (.ireturn, 1) := by decide +kernel
abbrev bX6_against : ByteArray := prog_8_method_11_code
def yX6_against : MethodName := ⟨"WideDecimalDesk$Whole", "against", "(LWideDecimalDesk$Whole;)I"⟩
def wsX6_against : List Cond := Cond.code yX6_against bX6_against 3 (some .int) :: wsA
theorem dc_X6_against : yX6_against.cls ≠ "java/lang/invoke/MethodHandle" ∧ yX6_against.cls ≠ "java/lang/invoke/VarHandle" ∧ (parseMethodDescriptor yX6_against.desc).map (fun d => d.parameters.length) = some 1 := by decide +kernel
theorem dX6_against_0 : decode bX6_against 0 = .ok (.iconst 5, 1) := by decide +kernel
theorem dX6_against_1 : decode bX6_against 1 = .ok (.istore_n 2, 1) := by decide +kernel
theorem dX6_against_2 : decode bX6_against 2 = .ok (.iload_n 2, 1) := by decide +kernel
theorem dX6_against_3 : decode bX6_against 3 = .ok (.ifCond .lt 47, 3) := by decide +kernel
theorem dX6_against_6 : decode bX6_against 6 = .ok (.aload_n 0, 1) := by decide +kernel
theorem dX6_against_7 : decode bX6_against 7 = .ok (.getfield 9, 3) := by decide +kernel
theorem dX6_against_10 : decode bX6_against 10 = .ok (.iload_n 2, 1) := by decide +kernel
theorem dX6_against_11 : decode bX6_against 11 = .ok (.laload, 1) := by decide +kernel
theorem dX6_against_12 : decode bX6_against 12 = .ok (.aload_n 1, 1) := by decide +kernel
theorem dX6_against_13 : decode bX6_against 13 = .ok (.getfield 9, 3) := by decide +kernel
theorem dX6_against_16 : decode bX6_against 16 = .ok (.iload_n 2, 1) := by decide +kernel
theorem dX6_against_17 : decode bX6_against 17 = .ok (.laload, 1) := by decide +kernel
theorem dX6_against_18 : decode bX6_against 18 = .ok (.lcmp, 1) := by decide +kernel
theorem dX6_against_19 : decode bX6_against 19 = .ok (.ifCond .eq 25, 3) := by decide +kernel
theorem dX6_against_22 : decode bX6_against 22 = .ok (.aload_n 0, 1) := by decide +kernel
theorem dX6_against_23 : decode bX6_against 23 = .ok (.getfield 9, 3) := by decide +kernel
theorem dX6_against_26 : decode bX6_against 26 = .ok (.iload_n 2, 1) := by decide +kernel
theorem dX6_against_27 : decode bX6_against 27 = .ok (.laload, 1) := by decide +kernel
theorem dX6_against_28 : decode bX6_against 28 = .ok (.aload_n 1, 1) := by decide +kernel
theorem dX6_against_29 : decode bX6_against 29 = .ok (.getfield 9, 3) := by decide +kernel
theorem dX6_against_32 : decode bX6_against 32 = .ok (.iload_n 2, 1) := by decide +kernel
theorem dX6_against_33 : decode bX6_against 33 = .ok (.laload, 1) := by decide +kernel
theorem dX6_against_34 : decode bX6_against 34 = .ok (.lcmp, 1) := by decide +kernel
theorem dX6_against_35 : decode bX6_against 35 = .ok (.ifCond .ge 7, 3) := by decide +kernel
theorem dX6_against_38 : decode bX6_against 38 = .ok (.iconst (-1), 1) := by decide +kernel
theorem dX6_against_39 : decode bX6_against 39 = .ok (.goto 4, 3) := by decide +kernel
theorem dX6_against_42 : decode bX6_against 42 = .ok (.iconst 1, 1) := by decide +kernel
theorem dX6_against_43 : decode bX6_against 43 = .ok (.ireturn, 1) := by decide +kernel
theorem dX6_against_44 : decode bX6_against 44 = .ok (.iinc 2 (-1), 3) := by decide +kernel
theorem dX6_against_47 : decode bX6_against 47 = .ok (.goto (-45), 3) := by decide +kernel
theorem dX6_against_50 : decode bX6_against 50 = .ok (.iconst 0, 1) := by decide +kernel
theorem dX6_against_51 : decode bX6_against 51 = .ok (.ireturn, 1) := by decide +kernel
abbrev bX6_add : ByteArray := prog_8_method_12_code
def yX6_add : MethodName := ⟨"WideDecimalDesk$Whole", "add", "(LWideDecimalDesk$Whole;)V"⟩
def wsX6_add : List Cond := Cond.code yX6_add bX6_add 7 none :: wsA
theorem dc_X6_add : yX6_add.cls ≠ "java/lang/invoke/MethodHandle" ∧ yX6_add.cls ≠ "java/lang/invoke/VarHandle" ∧ (parseMethodDescriptor yX6_add.desc).map (fun d => d.parameters.length) = some 1 := by decide +kernel
theorem dX6_add_0 : decode bX6_add 0 = .ok (.lconst 0, 1) := by decide +kernel
theorem dX6_add_1 : decode bX6_add 1 = .ok (.lstore_n 2, 1) := by decide +kernel
theorem dX6_add_2 : decode bX6_add 2 = .ok (.iconst 0, 1) := by decide +kernel
theorem dX6_add_3 : decode bX6_add 3 = .ok (.istore 4, 2) := by decide +kernel
theorem dX6_add_5 : decode bX6_add 5 = .ok (.iload 4, 2) := by decide +kernel
theorem dX6_add_7 : decode bX6_add 7 = .ok (.bipush 6, 2) := by decide +kernel
theorem dX6_add_9 : decode bX6_add 9 = .ok (.if_icmp .ge 47, 3) := by decide +kernel
theorem dX6_add_12 : decode bX6_add 12 = .ok (.aload_n 0, 1) := by decide +kernel
theorem dX6_add_13 : decode bX6_add 13 = .ok (.getfield 9, 3) := by decide +kernel
theorem dX6_add_16 : decode bX6_add 16 = .ok (.iload 4, 2) := by decide +kernel
theorem dX6_add_18 : decode bX6_add 18 = .ok (.laload, 1) := by decide +kernel
theorem dX6_add_19 : decode bX6_add 19 = .ok (.aload_n 1, 1) := by decide +kernel
theorem dX6_add_20 : decode bX6_add 20 = .ok (.getfield 9, 3) := by decide +kernel
theorem dX6_add_23 : decode bX6_add 23 = .ok (.iload 4, 2) := by decide +kernel
theorem dX6_add_25 : decode bX6_add 25 = .ok (.laload, 1) := by decide +kernel
theorem dX6_add_26 : decode bX6_add 26 = .ok (.ladd, 1) := by decide +kernel
theorem dX6_add_27 : decode bX6_add 27 = .ok (.lload_n 2, 1) := by decide +kernel
theorem dX6_add_28 : decode bX6_add 28 = .ok (.ladd, 1) := by decide +kernel
theorem dX6_add_29 : decode bX6_add 29 = .ok (.lstore 5, 2) := by decide +kernel
theorem dX6_add_31 : decode bX6_add 31 = .ok (.aload_n 0, 1) := by decide +kernel
theorem dX6_add_32 : decode bX6_add 32 = .ok (.getfield 9, 3) := by decide +kernel
theorem dX6_add_35 : decode bX6_add 35 = .ok (.iload 4, 2) := by decide +kernel
theorem dX6_add_37 : decode bX6_add 37 = .ok (.lload 5, 2) := by decide +kernel
theorem dX6_add_39 : decode bX6_add 39 = .ok (.ldc2_w 16, 3) := by decide +kernel
theorem dX6_add_42 : decode bX6_add 42 = .ok (.land, 1) := by decide +kernel
theorem dX6_add_43 : decode bX6_add 43 = .ok (.lastore, 1) := by decide +kernel
theorem dX6_add_44 : decode bX6_add 44 = .ok (.lload 5, 2) := by decide +kernel
theorem dX6_add_46 : decode bX6_add 46 = .ok (.bipush 32, 2) := by decide +kernel
theorem dX6_add_48 : decode bX6_add 48 = .ok (.lushr, 1) := by decide +kernel
theorem dX6_add_49 : decode bX6_add 49 = .ok (.lstore_n 2, 1) := by decide +kernel
theorem dX6_add_50 : decode bX6_add 50 = .ok (.iinc 4 1, 3) := by decide +kernel
theorem dX6_add_53 : decode bX6_add 53 = .ok (.goto (-48), 3) := by decide +kernel
theorem dX6_add_56 : decode bX6_add 56 = .ok (.return_, 1) := by decide +kernel
abbrev bX6_addOne : ByteArray := prog_8_method_13_code
def yX6_addOne : MethodName := ⟨"WideDecimalDesk$Whole", "addOne", "()V"⟩
def wsX6_addOne : List Cond := Cond.code yX6_addOne bX6_addOne 6 none :: wsA
theorem dc_X6_addOne : yX6_addOne.cls ≠ "java/lang/invoke/MethodHandle" ∧ yX6_addOne.cls ≠ "java/lang/invoke/VarHandle" ∧ (parseMethodDescriptor yX6_addOne.desc).map (fun d => d.parameters.length) = some 0 := by decide +kernel
theorem dX6_addOne_0 : decode bX6_addOne 0 = .ok (.lconst 1, 1) := by decide +kernel
theorem dX6_addOne_1 : decode bX6_addOne 1 = .ok (.lstore_n 1, 1) := by decide +kernel
theorem dX6_addOne_2 : decode bX6_addOne 2 = .ok (.iconst 0, 1) := by decide +kernel
theorem dX6_addOne_3 : decode bX6_addOne 3 = .ok (.istore_n 3, 1) := by decide +kernel
theorem dX6_addOne_4 : decode bX6_addOne 4 = .ok (.iload_n 3, 1) := by decide +kernel
theorem dX6_addOne_5 : decode bX6_addOne 5 = .ok (.bipush 6, 2) := by decide +kernel
theorem dX6_addOne_7 : decode bX6_addOne 7 = .ok (.if_icmp .ge 37, 3) := by decide +kernel
theorem dX6_addOne_10 : decode bX6_addOne 10 = .ok (.aload_n 0, 1) := by decide +kernel
theorem dX6_addOne_11 : decode bX6_addOne 11 = .ok (.getfield 9, 3) := by decide +kernel
theorem dX6_addOne_14 : decode bX6_addOne 14 = .ok (.iload_n 3, 1) := by decide +kernel
theorem dX6_addOne_15 : decode bX6_addOne 15 = .ok (.laload, 1) := by decide +kernel
theorem dX6_addOne_16 : decode bX6_addOne 16 = .ok (.lload_n 1, 1) := by decide +kernel
theorem dX6_addOne_17 : decode bX6_addOne 17 = .ok (.ladd, 1) := by decide +kernel
theorem dX6_addOne_18 : decode bX6_addOne 18 = .ok (.lstore 4, 2) := by decide +kernel
theorem dX6_addOne_20 : decode bX6_addOne 20 = .ok (.aload_n 0, 1) := by decide +kernel
theorem dX6_addOne_21 : decode bX6_addOne 21 = .ok (.getfield 9, 3) := by decide +kernel
theorem dX6_addOne_24 : decode bX6_addOne 24 = .ok (.iload_n 3, 1) := by decide +kernel
theorem dX6_addOne_25 : decode bX6_addOne 25 = .ok (.lload 4, 2) := by decide +kernel
theorem dX6_addOne_27 : decode bX6_addOne 27 = .ok (.ldc2_w 16, 3) := by decide +kernel
theorem dX6_addOne_30 : decode bX6_addOne 30 = .ok (.land, 1) := by decide +kernel
theorem dX6_addOne_31 : decode bX6_addOne 31 = .ok (.lastore, 1) := by decide +kernel
theorem dX6_addOne_32 : decode bX6_addOne 32 = .ok (.lload 4, 2) := by decide +kernel
theorem dX6_addOne_34 : decode bX6_addOne 34 = .ok (.bipush 32, 2) := by decide +kernel
theorem dX6_addOne_36 : decode bX6_addOne 36 = .ok (.lushr, 1) := by decide +kernel
theorem dX6_addOne_37 : decode bX6_addOne 37 = .ok (.lstore_n 1, 1) := by decide +kernel
theorem dX6_addOne_38 : decode bX6_addOne 38 = .ok (.iinc 3 1, 3) := by decide +kernel
theorem dX6_addOne_41 : decode bX6_addOne 41 = .ok (.goto (-37), 3) := by decide +kernel
theorem dX6_addOne_44 : decode bX6_addOne 44 = .ok (.return_, 1) := by decide +kernel
abbrev bX6_becomeDifference : ByteArray := prog_8_method_14_code
def yX6_becomeDifference : MethodName := ⟨"WideDecimalDesk$Whole", "becomeDifference", "(LWideDecimalDesk$Whole;LWideDecimalDesk$Whole;)V"⟩
def wsX6_becomeDifference : List Cond := Cond.code yX6_becomeDifference bX6_becomeDifference 8 none :: wsA
theorem dc_X6_becomeDifference : yX6_becomeDifference.cls ≠ "java/lang/invoke/MethodHandle" ∧ yX6_becomeDifference.cls ≠ "java/lang/invoke/VarHandle" ∧ (parseMethodDescriptor yX6_becomeDifference.desc).map (fun d => d.parameters.length) = some 2 := by decide +kernel
theorem dX6_becomeDifference_0 : decode bX6_becomeDifference 0 = .ok (.lconst 0, 1) := by decide +kernel
theorem dX6_becomeDifference_1 : decode bX6_becomeDifference 1 = .ok (.lstore_n 3, 1) := by decide +kernel
theorem dX6_becomeDifference_2 : decode bX6_becomeDifference 2 = .ok (.iconst 0, 1) := by decide +kernel
theorem dX6_becomeDifference_3 : decode bX6_becomeDifference 3 = .ok (.istore 5, 2) := by decide +kernel
theorem dX6_becomeDifference_5 : decode bX6_becomeDifference 5 = .ok (.iload 5, 2) := by decide +kernel
theorem dX6_becomeDifference_7 : decode bX6_becomeDifference 7 = .ok (.bipush 6, 2) := by decide +kernel
theorem dX6_becomeDifference_9 : decode bX6_becomeDifference 9 = .ok (.if_icmp .ge 54, 3) := by decide +kernel
theorem dX6_becomeDifference_12 : decode bX6_becomeDifference 12 = .ok (.aload_n 1, 1) := by decide +kernel
theorem dX6_becomeDifference_13 : decode bX6_becomeDifference 13 = .ok (.getfield 9, 3) := by decide +kernel
theorem dX6_becomeDifference_16 : decode bX6_becomeDifference 16 = .ok (.iload 5, 2) := by decide +kernel
theorem dX6_becomeDifference_18 : decode bX6_becomeDifference 18 = .ok (.laload, 1) := by decide +kernel
theorem dX6_becomeDifference_19 : decode bX6_becomeDifference 19 = .ok (.aload_n 2, 1) := by decide +kernel
theorem dX6_becomeDifference_20 : decode bX6_becomeDifference 20 = .ok (.getfield 9, 3) := by decide +kernel
theorem dX6_becomeDifference_23 : decode bX6_becomeDifference 23 = .ok (.iload 5, 2) := by decide +kernel
theorem dX6_becomeDifference_25 : decode bX6_becomeDifference 25 = .ok (.laload, 1) := by decide +kernel
theorem dX6_becomeDifference_26 : decode bX6_becomeDifference 26 = .ok (.lsub, 1) := by decide +kernel
theorem dX6_becomeDifference_27 : decode bX6_becomeDifference 27 = .ok (.lload_n 3, 1) := by decide +kernel
theorem dX6_becomeDifference_28 : decode bX6_becomeDifference 28 = .ok (.lsub, 1) := by decide +kernel
theorem dX6_becomeDifference_29 : decode bX6_becomeDifference 29 = .ok (.lstore 6, 2) := by decide +kernel
theorem dX6_becomeDifference_31 : decode bX6_becomeDifference 31 = .ok (.aload_n 0, 1) := by decide +kernel
theorem dX6_becomeDifference_32 : decode bX6_becomeDifference 32 = .ok (.getfield 9, 3) := by decide +kernel
theorem dX6_becomeDifference_35 : decode bX6_becomeDifference 35 = .ok (.iload 5, 2) := by decide +kernel
theorem dX6_becomeDifference_37 : decode bX6_becomeDifference 37 = .ok (.lload 6, 2) := by decide +kernel
theorem dX6_becomeDifference_39 : decode bX6_becomeDifference 39 = .ok (.ldc2_w 16, 3) := by decide +kernel
theorem dX6_becomeDifference_42 : decode bX6_becomeDifference 42 = .ok (.land, 1) := by decide +kernel
theorem dX6_becomeDifference_43 : decode bX6_becomeDifference 43 = .ok (.lastore, 1) := by decide +kernel
theorem dX6_becomeDifference_44 : decode bX6_becomeDifference 44 = .ok (.lload 6, 2) := by decide +kernel
theorem dX6_becomeDifference_46 : decode bX6_becomeDifference 46 = .ok (.lconst 0, 1) := by decide +kernel
theorem dX6_becomeDifference_47 : decode bX6_becomeDifference 47 = .ok (.lcmp, 1) := by decide +kernel
theorem dX6_becomeDifference_48 : decode bX6_becomeDifference 48 = .ok (.ifCond .ge 7, 3) := by decide +kernel
theorem dX6_becomeDifference_51 : decode bX6_becomeDifference 51 = .ok (.lconst 1, 1) := by decide +kernel
theorem dX6_becomeDifference_52 : decode bX6_becomeDifference 52 = .ok (.goto 4, 3) := by decide +kernel
theorem dX6_becomeDifference_55 : decode bX6_becomeDifference 55 = .ok (.lconst 0, 1) := by decide +kernel
theorem dX6_becomeDifference_56 : decode bX6_becomeDifference 56 = .ok (.lstore_n 3, 1) := by decide +kernel
theorem dX6_becomeDifference_57 : decode bX6_becomeDifference 57 = .ok (.iinc 5 1, 3) := by decide +kernel
theorem dX6_becomeDifference_60 : decode bX6_becomeDifference 60 = .ok (.goto (-55), 3) := by decide +kernel
theorem dX6_becomeDifference_63 : decode bX6_becomeDifference 63 = .ok (.return_, 1) := by decide +kernel
abbrev bX6_becomeProduct : ByteArray := prog_8_method_15_code
def yX6_becomeProduct : MethodName := ⟨"WideDecimalDesk$Whole", "becomeProduct", "(LWideDecimalDesk$Whole;LWideDecimalDesk$Whole;)V"⟩
def wsX6_becomeProduct : List Cond := Cond.code yX6_becomeProduct bX6_becomeProduct 9 none :: wsA
theorem dc_X6_becomeProduct : yX6_becomeProduct.cls ≠ "java/lang/invoke/MethodHandle" ∧ yX6_becomeProduct.cls ≠ "java/lang/invoke/VarHandle" ∧ (parseMethodDescriptor yX6_becomeProduct.desc).map (fun d => d.parameters.length) = some 2 := by decide +kernel
theorem dX6_becomeProduct_0 : decode bX6_becomeProduct 0 = .ok (.aload_n 0, 1) := by decide +kernel
theorem dX6_becomeProduct_1 : decode bX6_becomeProduct 1 = .ok (.invokevirtual 13, 3) := by decide +kernel
theorem dX6_becomeProduct_4 : decode bX6_becomeProduct 4 = .ok (.iconst 0, 1) := by decide +kernel
theorem dX6_becomeProduct_5 : decode bX6_becomeProduct 5 = .ok (.istore_n 3, 1) := by decide +kernel
theorem dX6_becomeProduct_6 : decode bX6_becomeProduct 6 = .ok (.iload_n 3, 1) := by decide +kernel
theorem dX6_becomeProduct_7 : decode bX6_becomeProduct 7 = .ok (.iconst 3, 1) := by decide +kernel
theorem dX6_becomeProduct_8 : decode bX6_becomeProduct 8 = .ok (.if_icmp .ge 88, 3) := by decide +kernel
theorem dX6_becomeProduct_11 : decode bX6_becomeProduct 11 = .ok (.lconst 0, 1) := by decide +kernel
theorem dX6_becomeProduct_12 : decode bX6_becomeProduct 12 = .ok (.lstore 4, 2) := by decide +kernel
theorem dX6_becomeProduct_14 : decode bX6_becomeProduct 14 = .ok (.iconst 0, 1) := by decide +kernel
theorem dX6_becomeProduct_15 : decode bX6_becomeProduct 15 = .ok (.istore 6, 2) := by decide +kernel
theorem dX6_becomeProduct_17 : decode bX6_becomeProduct 17 = .ok (.iload 6, 2) := by decide +kernel
theorem dX6_becomeProduct_19 : decode bX6_becomeProduct 19 = .ok (.iconst 3, 1) := by decide +kernel
theorem dX6_becomeProduct_20 : decode bX6_becomeProduct 20 = .ok (.if_icmp .ge 60, 3) := by decide +kernel
theorem dX6_becomeProduct_23 : decode bX6_becomeProduct 23 = .ok (.aload_n 1, 1) := by decide +kernel
theorem dX6_becomeProduct_24 : decode bX6_becomeProduct 24 = .ok (.getfield 9, 3) := by decide +kernel
theorem dX6_becomeProduct_27 : decode bX6_becomeProduct 27 = .ok (.iload_n 3, 1) := by decide +kernel
theorem dX6_becomeProduct_28 : decode bX6_becomeProduct 28 = .ok (.laload, 1) := by decide +kernel
theorem dX6_becomeProduct_29 : decode bX6_becomeProduct 29 = .ok (.aload_n 2, 1) := by decide +kernel
theorem dX6_becomeProduct_30 : decode bX6_becomeProduct 30 = .ok (.getfield 9, 3) := by decide +kernel
theorem dX6_becomeProduct_33 : decode bX6_becomeProduct 33 = .ok (.iload 6, 2) := by decide +kernel
theorem dX6_becomeProduct_35 : decode bX6_becomeProduct 35 = .ok (.laload, 1) := by decide +kernel
theorem dX6_becomeProduct_36 : decode bX6_becomeProduct 36 = .ok (.lmul, 1) := by decide +kernel
theorem dX6_becomeProduct_37 : decode bX6_becomeProduct 37 = .ok (.aload_n 0, 1) := by decide +kernel
theorem dX6_becomeProduct_38 : decode bX6_becomeProduct 38 = .ok (.getfield 9, 3) := by decide +kernel
theorem dX6_becomeProduct_41 : decode bX6_becomeProduct 41 = .ok (.iload_n 3, 1) := by decide +kernel
theorem dX6_becomeProduct_42 : decode bX6_becomeProduct 42 = .ok (.iload 6, 2) := by decide +kernel
theorem dX6_becomeProduct_44 : decode bX6_becomeProduct 44 = .ok (.iadd, 1) := by decide +kernel
theorem dX6_becomeProduct_45 : decode bX6_becomeProduct 45 = .ok (.laload, 1) := by decide +kernel
theorem dX6_becomeProduct_46 : decode bX6_becomeProduct 46 = .ok (.ladd, 1) := by decide +kernel
theorem dX6_becomeProduct_47 : decode bX6_becomeProduct 47 = .ok (.lload 4, 2) := by decide +kernel
theorem dX6_becomeProduct_49 : decode bX6_becomeProduct 49 = .ok (.ladd, 1) := by decide +kernel
theorem dX6_becomeProduct_50 : decode bX6_becomeProduct 50 = .ok (.lstore 7, 2) := by decide +kernel
theorem dX6_becomeProduct_52 : decode bX6_becomeProduct 52 = .ok (.aload_n 0, 1) := by decide +kernel
theorem dX6_becomeProduct_53 : decode bX6_becomeProduct 53 = .ok (.getfield 9, 3) := by decide +kernel
theorem dX6_becomeProduct_56 : decode bX6_becomeProduct 56 = .ok (.iload_n 3, 1) := by decide +kernel
theorem dX6_becomeProduct_57 : decode bX6_becomeProduct 57 = .ok (.iload 6, 2) := by decide +kernel
theorem dX6_becomeProduct_59 : decode bX6_becomeProduct 59 = .ok (.iadd, 1) := by decide +kernel
theorem dX6_becomeProduct_60 : decode bX6_becomeProduct 60 = .ok (.lload 7, 2) := by decide +kernel
theorem dX6_becomeProduct_62 : decode bX6_becomeProduct 62 = .ok (.ldc2_w 16, 3) := by decide +kernel
theorem dX6_becomeProduct_65 : decode bX6_becomeProduct 65 = .ok (.land, 1) := by decide +kernel
theorem dX6_becomeProduct_66 : decode bX6_becomeProduct 66 = .ok (.lastore, 1) := by decide +kernel
theorem dX6_becomeProduct_67 : decode bX6_becomeProduct 67 = .ok (.lload 7, 2) := by decide +kernel
theorem dX6_becomeProduct_69 : decode bX6_becomeProduct 69 = .ok (.bipush 32, 2) := by decide +kernel
theorem dX6_becomeProduct_71 : decode bX6_becomeProduct 71 = .ok (.lushr, 1) := by decide +kernel
theorem dX6_becomeProduct_72 : decode bX6_becomeProduct 72 = .ok (.lstore 4, 2) := by decide +kernel
theorem dX6_becomeProduct_74 : decode bX6_becomeProduct 74 = .ok (.iinc 6 1, 3) := by decide +kernel
theorem dX6_becomeProduct_77 : decode bX6_becomeProduct 77 = .ok (.goto (-60), 3) := by decide +kernel
theorem dX6_becomeProduct_80 : decode bX6_becomeProduct 80 = .ok (.aload_n 0, 1) := by decide +kernel
theorem dX6_becomeProduct_81 : decode bX6_becomeProduct 81 = .ok (.getfield 9, 3) := by decide +kernel
theorem dX6_becomeProduct_84 : decode bX6_becomeProduct 84 = .ok (.iload_n 3, 1) := by decide +kernel
theorem dX6_becomeProduct_85 : decode bX6_becomeProduct 85 = .ok (.iconst 3, 1) := by decide +kernel
theorem dX6_becomeProduct_86 : decode bX6_becomeProduct 86 = .ok (.iadd, 1) := by decide +kernel
theorem dX6_becomeProduct_87 : decode bX6_becomeProduct 87 = .ok (.lload 4, 2) := by decide +kernel
theorem dX6_becomeProduct_89 : decode bX6_becomeProduct 89 = .ok (.lastore, 1) := by decide +kernel
theorem dX6_becomeProduct_90 : decode bX6_becomeProduct 90 = .ok (.iinc 3 1, 3) := by decide +kernel
theorem dX6_becomeProduct_93 : decode bX6_becomeProduct 93 = .ok (.goto (-87), 3) := by decide +kernel
theorem dX6_becomeProduct_96 : decode bX6_becomeProduct 96 = .ok (.return_, 1) := by decide +kernel
abbrev bX6_appendDigit : ByteArray := prog_8_method_16_code
def yX6_appendDigit : MethodName := ⟨"WideDecimalDesk$Whole", "appendDigit", "(I)V"⟩
def wsX6_appendDigit : List Cond := Cond.code yX6_appendDigit bX6_appendDigit 7 none :: wsA
theorem dc_X6_appendDigit : yX6_appendDigit.cls ≠ "java/lang/invoke/MethodHandle" ∧ yX6_appendDigit.cls ≠ "java/lang/invoke/VarHandle" ∧ (parseMethodDescriptor yX6_appendDigit.desc).map (fun d => d.parameters.length) = some 1 := by decide +kernel
theorem dX6_appendDigit_0 : decode bX6_appendDigit 0 = .ok (.iload_n 1, 1) := by decide +kernel
theorem dX6_appendDigit_1 : decode bX6_appendDigit 1 = .ok (.i2l, 1) := by decide +kernel
theorem dX6_appendDigit_2 : decode bX6_appendDigit 2 = .ok (.lstore_n 2, 1) := by decide +kernel
theorem dX6_appendDigit_3 : decode bX6_appendDigit 3 = .ok (.iconst 0, 1) := by decide +kernel
theorem dX6_appendDigit_4 : decode bX6_appendDigit 4 = .ok (.istore 4, 2) := by decide +kernel
theorem dX6_appendDigit_6 : decode bX6_appendDigit 6 = .ok (.iload 4, 2) := by decide +kernel
theorem dX6_appendDigit_8 : decode bX6_appendDigit 8 = .ok (.bipush 6, 2) := by decide +kernel
theorem dX6_appendDigit_10 : decode bX6_appendDigit 10 = .ok (.if_icmp .ge 43, 3) := by decide +kernel
theorem dX6_appendDigit_13 : decode bX6_appendDigit 13 = .ok (.aload_n 0, 1) := by decide +kernel
theorem dX6_appendDigit_14 : decode bX6_appendDigit 14 = .ok (.getfield 9, 3) := by decide +kernel
theorem dX6_appendDigit_17 : decode bX6_appendDigit 17 = .ok (.iload 4, 2) := by decide +kernel
theorem dX6_appendDigit_19 : decode bX6_appendDigit 19 = .ok (.laload, 1) := by decide +kernel
theorem dX6_appendDigit_20 : decode bX6_appendDigit 20 = .ok (.ldc2_w 22, 3) := by decide +kernel
theorem dX6_appendDigit_23 : decode bX6_appendDigit 23 = .ok (.lmul, 1) := by decide +kernel
theorem dX6_appendDigit_24 : decode bX6_appendDigit 24 = .ok (.lload_n 2, 1) := by decide +kernel
theorem dX6_appendDigit_25 : decode bX6_appendDigit 25 = .ok (.ladd, 1) := by decide +kernel
theorem dX6_appendDigit_26 : decode bX6_appendDigit 26 = .ok (.lstore 5, 2) := by decide +kernel
theorem dX6_appendDigit_28 : decode bX6_appendDigit 28 = .ok (.aload_n 0, 1) := by decide +kernel
theorem dX6_appendDigit_29 : decode bX6_appendDigit 29 = .ok (.getfield 9, 3) := by decide +kernel
theorem dX6_appendDigit_32 : decode bX6_appendDigit 32 = .ok (.iload 4, 2) := by decide +kernel
theorem dX6_appendDigit_34 : decode bX6_appendDigit 34 = .ok (.lload 5, 2) := by decide +kernel
theorem dX6_appendDigit_36 : decode bX6_appendDigit 36 = .ok (.ldc2_w 16, 3) := by decide +kernel
theorem dX6_appendDigit_39 : decode bX6_appendDigit 39 = .ok (.land, 1) := by decide +kernel
theorem dX6_appendDigit_40 : decode bX6_appendDigit 40 = .ok (.lastore, 1) := by decide +kernel
theorem dX6_appendDigit_41 : decode bX6_appendDigit 41 = .ok (.lload 5, 2) := by decide +kernel
theorem dX6_appendDigit_43 : decode bX6_appendDigit 43 = .ok (.bipush 32, 2) := by decide +kernel
theorem dX6_appendDigit_45 : decode bX6_appendDigit 45 = .ok (.lushr, 1) := by decide +kernel
theorem dX6_appendDigit_46 : decode bX6_appendDigit 46 = .ok (.lstore_n 2, 1) := by decide +kernel
theorem dX6_appendDigit_47 : decode bX6_appendDigit 47 = .ok (.iinc 4 1, 3) := by decide +kernel
theorem dX6_appendDigit_50 : decode bX6_appendDigit 50 = .ok (.goto (-44), 3) := by decide +kernel
theorem dX6_appendDigit_53 : decode bX6_appendDigit 53 = .ok (.return_, 1) := by decide +kernel
abbrev bX6_dropDigit : ByteArray := prog_8_method_17_code
def yX6_dropDigit : MethodName := ⟨"WideDecimalDesk$Whole", "dropDigit", "()I"⟩
def wsX6_dropDigit : List Cond := Cond.code yX6_dropDigit bX6_dropDigit 6 (some .int) :: wsA
theorem dc_X6_dropDigit : yX6_dropDigit.cls ≠ "java/lang/invoke/MethodHandle" ∧ yX6_dropDigit.cls ≠ "java/lang/invoke/VarHandle" ∧ (parseMethodDescriptor yX6_dropDigit.desc).map (fun d => d.parameters.length) = some 0 := by decide +kernel
theorem dX6_dropDigit_0 : decode bX6_dropDigit 0 = .ok (.lconst 0, 1) := by decide +kernel
theorem dX6_dropDigit_1 : decode bX6_dropDigit 1 = .ok (.lstore_n 1, 1) := by decide +kernel
theorem dX6_dropDigit_2 : decode bX6_dropDigit 2 = .ok (.iconst 5, 1) := by decide +kernel
theorem dX6_dropDigit_3 : decode bX6_dropDigit 3 = .ok (.istore_n 3, 1) := by decide +kernel
theorem dX6_dropDigit_4 : decode bX6_dropDigit 4 = .ok (.iload_n 3, 1) := by decide +kernel
theorem dX6_dropDigit_5 : decode bX6_dropDigit 5 = .ok (.ifCond .lt 41, 3) := by decide +kernel
theorem dX6_dropDigit_8 : decode bX6_dropDigit 8 = .ok (.lload_n 1, 1) := by decide +kernel
theorem dX6_dropDigit_9 : decode bX6_dropDigit 9 = .ok (.bipush 32, 2) := by decide +kernel
theorem dX6_dropDigit_11 : decode bX6_dropDigit 11 = .ok (.lshl, 1) := by decide +kernel
theorem dX6_dropDigit_12 : decode bX6_dropDigit 12 = .ok (.aload_n 0, 1) := by decide +kernel
theorem dX6_dropDigit_13 : decode bX6_dropDigit 13 = .ok (.getfield 9, 3) := by decide +kernel
theorem dX6_dropDigit_16 : decode bX6_dropDigit 16 = .ok (.iload_n 3, 1) := by decide +kernel
theorem dX6_dropDigit_17 : decode bX6_dropDigit 17 = .ok (.laload, 1) := by decide +kernel
theorem dX6_dropDigit_18 : decode bX6_dropDigit 18 = .ok (.lor, 1) := by decide +kernel
theorem dX6_dropDigit_19 : decode bX6_dropDigit 19 = .ok (.lstore 4, 2) := by decide +kernel
theorem dX6_dropDigit_21 : decode bX6_dropDigit 21 = .ok (.aload_n 0, 1) := by decide +kernel
theorem dX6_dropDigit_22 : decode bX6_dropDigit 22 = .ok (.getfield 9, 3) := by decide +kernel
theorem dX6_dropDigit_25 : decode bX6_dropDigit 25 = .ok (.iload_n 3, 1) := by decide +kernel
theorem dX6_dropDigit_26 : decode bX6_dropDigit 26 = .ok (.lload 4, 2) := by decide +kernel
theorem dX6_dropDigit_28 : decode bX6_dropDigit 28 = .ok (.ldc2_w 22, 3) := by decide +kernel
theorem dX6_dropDigit_31 : decode bX6_dropDigit 31 = .ok (.ldiv, 1) := by decide +kernel
theorem dX6_dropDigit_32 : decode bX6_dropDigit 32 = .ok (.lastore, 1) := by decide +kernel
theorem dX6_dropDigit_33 : decode bX6_dropDigit 33 = .ok (.lload 4, 2) := by decide +kernel
theorem dX6_dropDigit_35 : decode bX6_dropDigit 35 = .ok (.ldc2_w 22, 3) := by decide +kernel
theorem dX6_dropDigit_38 : decode bX6_dropDigit 38 = .ok (.lrem, 1) := by decide +kernel
theorem dX6_dropDigit_39 : decode bX6_dropDigit 39 = .ok (.lstore_n 1, 1) := by decide +kernel
theorem dX6_dropDigit_40 : decode bX6_dropDigit 40 = .ok (.iinc 3 (-1), 3) := by decide +kernel
theorem dX6_dropDigit_43 : decode bX6_dropDigit 43 = .ok (.goto (-39), 3) := by decide +kernel
theorem dX6_dropDigit_46 : decode bX6_dropDigit 46 = .ok (.lload_n 1, 1) := by decide +kernel
theorem dX6_dropDigit_47 : decode bX6_dropDigit 47 = .ok (.l2i, 1) := by decide +kernel
theorem dX6_dropDigit_48 : decode bX6_dropDigit 48 = .ok (.ireturn, 1) := by decide +kernel
