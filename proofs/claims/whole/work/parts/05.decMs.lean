abbrev bX8_zero : ByteArray := prog_10_method_3_code
def yX8_zero : MethodName := ⟨"WideDecimalDeskModel", "zero", "([I)V"⟩
def wsX8_zero : List Cond := Cond.code yX8_zero bX8_zero 2 none :: wsA
theorem dc_X8_zero : yX8_zero.cls ≠ "java/lang/invoke/MethodHandle" ∧ yX8_zero.cls ≠ "java/lang/invoke/VarHandle" ∧ (parseMethodDescriptor yX8_zero.desc).map (fun d => d.parameters.length) = some 1 := by decide +kernel
theorem dX8_zero_0 : decode bX8_zero 0 = .ok (.iconst 0, 1) := by decide +kernel
theorem dX8_zero_1 : decode bX8_zero 1 = .ok (.istore_n 1, 1) := by decide +kernel
theorem dX8_zero_2 : decode bX8_zero 2 = .ok (.iload_n 1, 1) := by decide +kernel
theorem dX8_zero_3 : decode bX8_zero 3 = .ok (.bipush 100, 2) := by decide +kernel
theorem dX8_zero_5 : decode bX8_zero 5 = .ok (.if_icmp .ge 13, 3) := by decide +kernel
theorem dX8_zero_8 : decode bX8_zero 8 = .ok (.aload_n 0, 1) := by decide +kernel
theorem dX8_zero_9 : decode bX8_zero 9 = .ok (.iload_n 1, 1) := by decide +kernel
theorem dX8_zero_10 : decode bX8_zero 10 = .ok (.iconst 0, 1) := by decide +kernel
theorem dX8_zero_11 : decode bX8_zero 11 = .ok (.iastore, 1) := by decide +kernel
theorem dX8_zero_12 : decode bX8_zero 12 = .ok (.iinc 1 1, 3) := by decide +kernel
theorem dX8_zero_15 : decode bX8_zero 15 = .ok (.goto (-13), 3) := by decide +kernel
theorem dX8_zero_18 : decode bX8_zero 18 = .ok (.return_, 1) := by decide +kernel
abbrev bX8_copy : ByteArray := prog_10_method_4_code
def yX8_copy : MethodName := ⟨"WideDecimalDeskModel", "copy", "([I[I)V"⟩
def wsX8_copy : List Cond := Cond.code yX8_copy bX8_copy 3 none :: wsA
theorem dc_X8_copy : yX8_copy.cls ≠ "java/lang/invoke/MethodHandle" ∧ yX8_copy.cls ≠ "java/lang/invoke/VarHandle" ∧ (parseMethodDescriptor yX8_copy.desc).map (fun d => d.parameters.length) = some 2 := by decide +kernel
theorem dX8_copy_0 : decode bX8_copy 0 = .ok (.iconst 0, 1) := by decide +kernel
theorem dX8_copy_1 : decode bX8_copy 1 = .ok (.istore_n 2, 1) := by decide +kernel
theorem dX8_copy_2 : decode bX8_copy 2 = .ok (.iload_n 2, 1) := by decide +kernel
theorem dX8_copy_3 : decode bX8_copy 3 = .ok (.bipush 100, 2) := by decide +kernel
theorem dX8_copy_5 : decode bX8_copy 5 = .ok (.if_icmp .ge 15, 3) := by decide +kernel
theorem dX8_copy_8 : decode bX8_copy 8 = .ok (.aload_n 1, 1) := by decide +kernel
theorem dX8_copy_9 : decode bX8_copy 9 = .ok (.iload_n 2, 1) := by decide +kernel
theorem dX8_copy_10 : decode bX8_copy 10 = .ok (.aload_n 0, 1) := by decide +kernel
theorem dX8_copy_11 : decode bX8_copy 11 = .ok (.iload_n 2, 1) := by decide +kernel
theorem dX8_copy_12 : decode bX8_copy 12 = .ok (.iaload, 1) := by decide +kernel
theorem dX8_copy_13 : decode bX8_copy 13 = .ok (.iastore, 1) := by decide +kernel
theorem dX8_copy_14 : decode bX8_copy 14 = .ok (.iinc 2 1, 3) := by decide +kernel
theorem dX8_copy_17 : decode bX8_copy 17 = .ok (.goto (-15), 3) := by decide +kernel
theorem dX8_copy_20 : decode bX8_copy 20 = .ok (.return_, 1) := by decide +kernel
abbrev bX8_isZero : ByteArray := prog_10_method_5_code
def yX8_isZero : MethodName := ⟨"WideDecimalDeskModel", "isZero", "([I)Z"⟩
def wsX8_isZero : List Cond := Cond.code yX8_isZero bX8_isZero 3 (some .boolean) :: wsA
theorem dc_X8_isZero : yX8_isZero.cls ≠ "java/lang/invoke/MethodHandle" ∧ yX8_isZero.cls ≠ "java/lang/invoke/VarHandle" ∧ (parseMethodDescriptor yX8_isZero.desc).map (fun d => d.parameters.length) = some 1 := by decide +kernel
theorem dX8_isZero_0 : decode bX8_isZero 0 = .ok (.iconst 1, 1) := by decide +kernel
theorem dX8_isZero_1 : decode bX8_isZero 1 = .ok (.istore_n 1, 1) := by decide +kernel
theorem dX8_isZero_2 : decode bX8_isZero 2 = .ok (.iconst 0, 1) := by decide +kernel
theorem dX8_isZero_3 : decode bX8_isZero 3 = .ok (.istore_n 2, 1) := by decide +kernel
theorem dX8_isZero_4 : decode bX8_isZero 4 = .ok (.iload_n 2, 1) := by decide +kernel
theorem dX8_isZero_5 : decode bX8_isZero 5 = .ok (.bipush 100, 2) := by decide +kernel
theorem dX8_isZero_7 : decode bX8_isZero 7 = .ok (.if_icmp .ge 25, 3) := by decide +kernel
theorem dX8_isZero_10 : decode bX8_isZero 10 = .ok (.iload_n 1, 1) := by decide +kernel
theorem dX8_isZero_11 : decode bX8_isZero 11 = .ok (.ifCond .eq 13, 3) := by decide +kernel
theorem dX8_isZero_14 : decode bX8_isZero 14 = .ok (.aload_n 0, 1) := by decide +kernel
theorem dX8_isZero_15 : decode bX8_isZero 15 = .ok (.iload_n 2, 1) := by decide +kernel
theorem dX8_isZero_16 : decode bX8_isZero 16 = .ok (.iaload, 1) := by decide +kernel
theorem dX8_isZero_17 : decode bX8_isZero 17 = .ok (.ifCond .ne 7, 3) := by decide +kernel
theorem dX8_isZero_20 : decode bX8_isZero 20 = .ok (.iconst 1, 1) := by decide +kernel
theorem dX8_isZero_21 : decode bX8_isZero 21 = .ok (.goto 4, 3) := by decide +kernel
theorem dX8_isZero_24 : decode bX8_isZero 24 = .ok (.iconst 0, 1) := by decide +kernel
theorem dX8_isZero_25 : decode bX8_isZero 25 = .ok (.istore_n 1, 1) := by decide +kernel
theorem dX8_isZero_26 : decode bX8_isZero 26 = .ok (.iinc 2 1, 3) := by decide +kernel
theorem dX8_isZero_29 : decode bX8_isZero 29 = .ok (.goto (-25), 3) := by decide +kernel
theorem dX8_isZero_32 : decode bX8_isZero 32 = .ok (.iload_n 1, 1) := by decide +kernel
theorem dX8_isZero_33 : decode bX8_isZero 33 = .ok (.ireturn, 1) := by decide +kernel
abbrev bX8_order : ByteArray := prog_10_method_6_code
def yX8_order : MethodName := ⟨"WideDecimalDeskModel", "order", "([I[I)I"⟩
def wsX8_order : List Cond := Cond.code yX8_order bX8_order 3 (some .int) :: wsA
theorem dc_X8_order : yX8_order.cls ≠ "java/lang/invoke/MethodHandle" ∧ yX8_order.cls ≠ "java/lang/invoke/VarHandle" ∧ (parseMethodDescriptor yX8_order.desc).map (fun d => d.parameters.length) = some 2 := by decide +kernel
theorem dX8_order_0 : decode bX8_order 0 = .ok (.bipush 99, 2) := by decide +kernel
theorem dX8_order_2 : decode bX8_order 2 = .ok (.istore_n 2, 1) := by decide +kernel
theorem dX8_order_3 : decode bX8_order 3 = .ok (.iload_n 2, 1) := by decide +kernel
theorem dX8_order_4 : decode bX8_order 4 = .ok (.ifCond .le 18, 3) := by decide +kernel
theorem dX8_order_7 : decode bX8_order 7 = .ok (.aload_n 0, 1) := by decide +kernel
theorem dX8_order_8 : decode bX8_order 8 = .ok (.iload_n 2, 1) := by decide +kernel
theorem dX8_order_9 : decode bX8_order 9 = .ok (.iaload, 1) := by decide +kernel
theorem dX8_order_10 : decode bX8_order 10 = .ok (.aload_n 1, 1) := by decide +kernel
theorem dX8_order_11 : decode bX8_order 11 = .ok (.iload_n 2, 1) := by decide +kernel
theorem dX8_order_12 : decode bX8_order 12 = .ok (.iaload, 1) := by decide +kernel
theorem dX8_order_13 : decode bX8_order 13 = .ok (.if_icmp .ne 9, 3) := by decide +kernel
theorem dX8_order_16 : decode bX8_order 16 = .ok (.iinc 2 (-1), 3) := by decide +kernel
theorem dX8_order_19 : decode bX8_order 19 = .ok (.goto (-16), 3) := by decide +kernel
theorem dX8_order_22 : decode bX8_order 22 = .ok (.aload_n 0, 1) := by decide +kernel
theorem dX8_order_23 : decode bX8_order 23 = .ok (.iload_n 2, 1) := by decide +kernel
theorem dX8_order_24 : decode bX8_order 24 = .ok (.iaload, 1) := by decide +kernel
theorem dX8_order_25 : decode bX8_order 25 = .ok (.aload_n 1, 1) := by decide +kernel
theorem dX8_order_26 : decode bX8_order 26 = .ok (.iload_n 2, 1) := by decide +kernel
theorem dX8_order_27 : decode bX8_order 27 = .ok (.iaload, 1) := by decide +kernel
theorem dX8_order_28 : decode bX8_order 28 = .ok (.if_icmp .ge 7, 3) := by decide +kernel
theorem dX8_order_31 : decode bX8_order 31 = .ok (.iconst (-1), 1) := by decide +kernel
theorem dX8_order_32 : decode bX8_order 32 = .ok (.goto 17, 3) := by decide +kernel
theorem dX8_order_35 : decode bX8_order 35 = .ok (.aload_n 0, 1) := by decide +kernel
theorem dX8_order_36 : decode bX8_order 36 = .ok (.iload_n 2, 1) := by decide +kernel
theorem dX8_order_37 : decode bX8_order 37 = .ok (.iaload, 1) := by decide +kernel
theorem dX8_order_38 : decode bX8_order 38 = .ok (.aload_n 1, 1) := by decide +kernel
theorem dX8_order_39 : decode bX8_order 39 = .ok (.iload_n 2, 1) := by decide +kernel
theorem dX8_order_40 : decode bX8_order 40 = .ok (.iaload, 1) := by decide +kernel
theorem dX8_order_41 : decode bX8_order 41 = .ok (.if_icmp .le 7, 3) := by decide +kernel
theorem dX8_order_44 : decode bX8_order 44 = .ok (.iconst 1, 1) := by decide +kernel
theorem dX8_order_45 : decode bX8_order 45 = .ok (.goto 4, 3) := by decide +kernel
theorem dX8_order_48 : decode bX8_order 48 = .ok (.iconst 0, 1) := by decide +kernel
theorem dX8_order_49 : decode bX8_order 49 = .ok (.ireturn, 1) := by decide +kernel
abbrev bX8_add : ByteArray := prog_10_method_7_code
def yX8_add : MethodName := ⟨"WideDecimalDeskModel", "add", "([I[I)V"⟩
def wsX8_add : List Cond := Cond.code yX8_add bX8_add 5 none :: wsA
theorem dc_X8_add : yX8_add.cls ≠ "java/lang/invoke/MethodHandle" ∧ yX8_add.cls ≠ "java/lang/invoke/VarHandle" ∧ (parseMethodDescriptor yX8_add.desc).map (fun d => d.parameters.length) = some 2 := by decide +kernel
theorem dX8_add_0 : decode bX8_add 0 = .ok (.iconst 0, 1) := by decide +kernel
theorem dX8_add_1 : decode bX8_add 1 = .ok (.istore_n 2, 1) := by decide +kernel
theorem dX8_add_2 : decode bX8_add 2 = .ok (.iconst 0, 1) := by decide +kernel
theorem dX8_add_3 : decode bX8_add 3 = .ok (.istore_n 3, 1) := by decide +kernel
theorem dX8_add_4 : decode bX8_add 4 = .ok (.iload_n 3, 1) := by decide +kernel
theorem dX8_add_5 : decode bX8_add 5 = .ok (.bipush 100, 2) := by decide +kernel
theorem dX8_add_7 : decode bX8_add 7 = .ok (.if_icmp .ge 34, 3) := by decide +kernel
theorem dX8_add_10 : decode bX8_add 10 = .ok (.aload_n 0, 1) := by decide +kernel
theorem dX8_add_11 : decode bX8_add 11 = .ok (.iload_n 3, 1) := by decide +kernel
theorem dX8_add_12 : decode bX8_add 12 = .ok (.iaload, 1) := by decide +kernel
theorem dX8_add_13 : decode bX8_add 13 = .ok (.aload_n 1, 1) := by decide +kernel
theorem dX8_add_14 : decode bX8_add 14 = .ok (.iload_n 3, 1) := by decide +kernel
theorem dX8_add_15 : decode bX8_add 15 = .ok (.iaload, 1) := by decide +kernel
theorem dX8_add_16 : decode bX8_add 16 = .ok (.iadd, 1) := by decide +kernel
theorem dX8_add_17 : decode bX8_add 17 = .ok (.iload_n 2, 1) := by decide +kernel
theorem dX8_add_18 : decode bX8_add 18 = .ok (.iadd, 1) := by decide +kernel
theorem dX8_add_19 : decode bX8_add 19 = .ok (.istore 4, 2) := by decide +kernel
theorem dX8_add_21 : decode bX8_add 21 = .ok (.aload_n 0, 1) := by decide +kernel
theorem dX8_add_22 : decode bX8_add 22 = .ok (.iload_n 3, 1) := by decide +kernel
theorem dX8_add_23 : decode bX8_add 23 = .ok (.iload 4, 2) := by decide +kernel
theorem dX8_add_25 : decode bX8_add 25 = .ok (.bipush 10, 2) := by decide +kernel
theorem dX8_add_27 : decode bX8_add 27 = .ok (.irem, 1) := by decide +kernel
theorem dX8_add_28 : decode bX8_add 28 = .ok (.iastore, 1) := by decide +kernel
theorem dX8_add_29 : decode bX8_add 29 = .ok (.iload 4, 2) := by decide +kernel
theorem dX8_add_31 : decode bX8_add 31 = .ok (.bipush 10, 2) := by decide +kernel
theorem dX8_add_33 : decode bX8_add 33 = .ok (.idiv, 1) := by decide +kernel
theorem dX8_add_34 : decode bX8_add 34 = .ok (.istore_n 2, 1) := by decide +kernel
theorem dX8_add_35 : decode bX8_add 35 = .ok (.iinc 3 1, 3) := by decide +kernel
theorem dX8_add_38 : decode bX8_add 38 = .ok (.goto (-34), 3) := by decide +kernel
theorem dX8_add_41 : decode bX8_add 41 = .ok (.return_, 1) := by decide +kernel
abbrev bX8_subtract : ByteArray := prog_10_method_8_code
def yX8_subtract : MethodName := ⟨"WideDecimalDeskModel", "subtract", "([I[I)V"⟩
def wsX8_subtract : List Cond := Cond.code yX8_subtract bX8_subtract 5 none :: wsA
theorem dc_X8_subtract : yX8_subtract.cls ≠ "java/lang/invoke/MethodHandle" ∧ yX8_subtract.cls ≠ "java/lang/invoke/VarHandle" ∧ (parseMethodDescriptor yX8_subtract.desc).map (fun d => d.parameters.length) = some 2 := by decide +kernel
theorem dX8_subtract_0 : decode bX8_subtract 0 = .ok (.iconst 0, 1) := by decide +kernel
theorem dX8_subtract_1 : decode bX8_subtract 1 = .ok (.istore_n 2, 1) := by decide +kernel
theorem dX8_subtract_2 : decode bX8_subtract 2 = .ok (.iconst 0, 1) := by decide +kernel
theorem dX8_subtract_3 : decode bX8_subtract 3 = .ok (.istore_n 3, 1) := by decide +kernel
theorem dX8_subtract_4 : decode bX8_subtract 4 = .ok (.iload_n 3, 1) := by decide +kernel
theorem dX8_subtract_5 : decode bX8_subtract 5 = .ok (.bipush 100, 2) := by decide +kernel
theorem dX8_subtract_7 : decode bX8_subtract 7 = .ok (.if_icmp .ge 49, 3) := by decide +kernel
theorem dX8_subtract_10 : decode bX8_subtract 10 = .ok (.aload_n 0, 1) := by decide +kernel
theorem dX8_subtract_11 : decode bX8_subtract 11 = .ok (.iload_n 3, 1) := by decide +kernel
theorem dX8_subtract_12 : decode bX8_subtract 12 = .ok (.iaload, 1) := by decide +kernel
theorem dX8_subtract_13 : decode bX8_subtract 13 = .ok (.aload_n 1, 1) := by decide +kernel
theorem dX8_subtract_14 : decode bX8_subtract 14 = .ok (.iload_n 3, 1) := by decide +kernel
theorem dX8_subtract_15 : decode bX8_subtract 15 = .ok (.iaload, 1) := by decide +kernel
theorem dX8_subtract_16 : decode bX8_subtract 16 = .ok (.isub, 1) := by decide +kernel
theorem dX8_subtract_17 : decode bX8_subtract 17 = .ok (.iload_n 2, 1) := by decide +kernel
theorem dX8_subtract_18 : decode bX8_subtract 18 = .ok (.isub, 1) := by decide +kernel
theorem dX8_subtract_19 : decode bX8_subtract 19 = .ok (.istore 4, 2) := by decide +kernel
theorem dX8_subtract_21 : decode bX8_subtract 21 = .ok (.iload 4, 2) := by decide +kernel
theorem dX8_subtract_23 : decode bX8_subtract 23 = .ok (.ifCond .ge 7, 3) := by decide +kernel
theorem dX8_subtract_26 : decode bX8_subtract 26 = .ok (.iconst 1, 1) := by decide +kernel
theorem dX8_subtract_27 : decode bX8_subtract 27 = .ok (.goto 4, 3) := by decide +kernel
theorem dX8_subtract_30 : decode bX8_subtract 30 = .ok (.iconst 0, 1) := by decide +kernel
theorem dX8_subtract_31 : decode bX8_subtract 31 = .ok (.istore_n 2, 1) := by decide +kernel
theorem dX8_subtract_32 : decode bX8_subtract 32 = .ok (.aload_n 0, 1) := by decide +kernel
theorem dX8_subtract_33 : decode bX8_subtract 33 = .ok (.iload_n 3, 1) := by decide +kernel
theorem dX8_subtract_34 : decode bX8_subtract 34 = .ok (.iload 4, 2) := by decide +kernel
theorem dX8_subtract_36 : decode bX8_subtract 36 = .ok (.ifCond .ge 11, 3) := by decide +kernel
theorem dX8_subtract_39 : decode bX8_subtract 39 = .ok (.iload 4, 2) := by decide +kernel
theorem dX8_subtract_41 : decode bX8_subtract 41 = .ok (.bipush 10, 2) := by decide +kernel
theorem dX8_subtract_43 : decode bX8_subtract 43 = .ok (.iadd, 1) := by decide +kernel
theorem dX8_subtract_44 : decode bX8_subtract 44 = .ok (.goto 5, 3) := by decide +kernel
theorem dX8_subtract_47 : decode bX8_subtract 47 = .ok (.iload 4, 2) := by decide +kernel
theorem dX8_subtract_49 : decode bX8_subtract 49 = .ok (.iastore, 1) := by decide +kernel
theorem dX8_subtract_50 : decode bX8_subtract 50 = .ok (.iinc 3 1, 3) := by decide +kernel
theorem dX8_subtract_53 : decode bX8_subtract 53 = .ok (.goto (-49), 3) := by decide +kernel
theorem dX8_subtract_56 : decode bX8_subtract 56 = .ok (.return_, 1) := by decide +kernel
abbrev bX8_twice : ByteArray := prog_10_method_9_code
def yX8_twice : MethodName := ⟨"WideDecimalDeskModel", "twice", "([I)V"⟩
def wsX8_twice : List Cond := Cond.code yX8_twice bX8_twice 1 none :: wsA
theorem dc_X8_twice : yX8_twice.cls ≠ "java/lang/invoke/MethodHandle" ∧ yX8_twice.cls ≠ "java/lang/invoke/VarHandle" ∧ (parseMethodDescriptor yX8_twice.desc).map (fun d => d.parameters.length) = some 1 := by decide +kernel
theorem dX8_twice_0 : decode bX8_twice 0 = .ok (.aload_n 0, 1) := by decide +kernel
theorem dX8_twice_1 : decode bX8_twice 1 = .ok (.aload_n 0, 1) := by decide +kernel
theorem dX8_twice_2 : decode bX8_twice 2 = .ok (.invokestatic 56, 3) := by decide +kernel
theorem dX8_twice_5 : decode bX8_twice 5 = .ok (.return_, 1) := by decide +kernel
abbrev bX8_more : ByteArray := prog_10_method_10_code
def yX8_more : MethodName := ⟨"WideDecimalDeskModel", "more", "([I)V"⟩
def wsX8_more : List Cond := Cond.code yX8_more bX8_more 2 none :: wsA
theorem dc_X8_more : yX8_more.cls ≠ "java/lang/invoke/MethodHandle" ∧ yX8_more.cls ≠ "java/lang/invoke/VarHandle" ∧ (parseMethodDescriptor yX8_more.desc).map (fun d => d.parameters.length) = some 1 := by decide +kernel
theorem dX8_more_0 : decode bX8_more 0 = .ok (.iconst 0, 1) := by decide +kernel
theorem dX8_more_1 : decode bX8_more 1 = .ok (.istore_n 1, 1) := by decide +kernel
theorem dX8_more_2 : decode bX8_more 2 = .ok (.iload_n 1, 1) := by decide +kernel
theorem dX8_more_3 : decode bX8_more 3 = .ok (.bipush 99, 2) := by decide +kernel
theorem dX8_more_5 : decode bX8_more 5 = .ok (.if_icmp .ge 21, 3) := by decide +kernel
theorem dX8_more_8 : decode bX8_more 8 = .ok (.aload_n 0, 1) := by decide +kernel
theorem dX8_more_9 : decode bX8_more 9 = .ok (.iload_n 1, 1) := by decide +kernel
theorem dX8_more_10 : decode bX8_more 10 = .ok (.iaload, 1) := by decide +kernel
theorem dX8_more_11 : decode bX8_more 11 = .ok (.bipush 9, 2) := by decide +kernel
theorem dX8_more_13 : decode bX8_more 13 = .ok (.if_icmp .ne 13, 3) := by decide +kernel
theorem dX8_more_16 : decode bX8_more 16 = .ok (.aload_n 0, 1) := by decide +kernel
theorem dX8_more_17 : decode bX8_more 17 = .ok (.iload_n 1, 1) := by decide +kernel
theorem dX8_more_18 : decode bX8_more 18 = .ok (.iconst 0, 1) := by decide +kernel
theorem dX8_more_19 : decode bX8_more 19 = .ok (.iastore, 1) := by decide +kernel
theorem dX8_more_20 : decode bX8_more 20 = .ok (.iinc 1 1, 3) := by decide +kernel
theorem dX8_more_23 : decode bX8_more 23 = .ok (.goto (-21), 3) := by decide +kernel
theorem dX8_more_26 : decode bX8_more 26 = .ok (.aload_n 0, 1) := by decide +kernel
theorem dX8_more_27 : decode bX8_more 27 = .ok (.iload_n 1, 1) := by decide +kernel
theorem dX8_more_28 : decode bX8_more 28 = .ok (.aload_n 0, 1) := by decide +kernel
theorem dX8_more_29 : decode bX8_more 29 = .ok (.iload_n 1, 1) := by decide +kernel
theorem dX8_more_30 : decode bX8_more 30 = .ok (.iaload, 1) := by decide +kernel
theorem dX8_more_31 : decode bX8_more 31 = .ok (.iconst 1, 1) := by decide +kernel
theorem dX8_more_32 : decode bX8_more 32 = .ok (.iadd, 1) := by decide +kernel
theorem dX8_more_33 : decode bX8_more 33 = .ok (.iastore, 1) := by decide +kernel
theorem dX8_more_34 : decode bX8_more 34 = .ok (.return_, 1) := by decide +kernel
abbrev bX8_shift : ByteArray := prog_10_method_11_code
def yX8_shift : MethodName := ⟨"WideDecimalDeskModel", "shift", "([II)V"⟩
def wsX8_shift : List Cond := Cond.code yX8_shift bX8_shift 3 none :: wsA
theorem dc_X8_shift : yX8_shift.cls ≠ "java/lang/invoke/MethodHandle" ∧ yX8_shift.cls ≠ "java/lang/invoke/VarHandle" ∧ (parseMethodDescriptor yX8_shift.desc).map (fun d => d.parameters.length) = some 2 := by decide +kernel
theorem dX8_shift_0 : decode bX8_shift 0 = .ok (.bipush 99, 2) := by decide +kernel
theorem dX8_shift_2 : decode bX8_shift 2 = .ok (.istore_n 2, 1) := by decide +kernel
theorem dX8_shift_3 : decode bX8_shift 3 = .ok (.iload_n 2, 1) := by decide +kernel
theorem dX8_shift_4 : decode bX8_shift 4 = .ok (.ifCond .lt 26, 3) := by decide +kernel
theorem dX8_shift_7 : decode bX8_shift 7 = .ok (.aload_n 0, 1) := by decide +kernel
theorem dX8_shift_8 : decode bX8_shift 8 = .ok (.iload_n 2, 1) := by decide +kernel
theorem dX8_shift_9 : decode bX8_shift 9 = .ok (.iload_n 2, 1) := by decide +kernel
theorem dX8_shift_10 : decode bX8_shift 10 = .ok (.iload_n 1, 1) := by decide +kernel
theorem dX8_shift_11 : decode bX8_shift 11 = .ok (.if_icmp .lt 11, 3) := by decide +kernel
theorem dX8_shift_14 : decode bX8_shift 14 = .ok (.aload_n 0, 1) := by decide +kernel
theorem dX8_shift_15 : decode bX8_shift 15 = .ok (.iload_n 2, 1) := by decide +kernel
theorem dX8_shift_16 : decode bX8_shift 16 = .ok (.iload_n 1, 1) := by decide +kernel
theorem dX8_shift_17 : decode bX8_shift 17 = .ok (.isub, 1) := by decide +kernel
theorem dX8_shift_18 : decode bX8_shift 18 = .ok (.iaload, 1) := by decide +kernel
theorem dX8_shift_19 : decode bX8_shift 19 = .ok (.goto 4, 3) := by decide +kernel
theorem dX8_shift_22 : decode bX8_shift 22 = .ok (.iconst 0, 1) := by decide +kernel
theorem dX8_shift_23 : decode bX8_shift 23 = .ok (.iastore, 1) := by decide +kernel
theorem dX8_shift_24 : decode bX8_shift 24 = .ok (.iinc 2 (-1), 3) := by decide +kernel
theorem dX8_shift_27 : decode bX8_shift 27 = .ok (.goto (-24), 3) := by decide +kernel
theorem dX8_shift_30 : decode bX8_shift 30 = .ok (.return_, 1) := by decide +kernel
