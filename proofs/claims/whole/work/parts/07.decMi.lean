abbrev bX8_thrown : ByteArray := prog_10_method_2_code
def yX8_thrown : MethodName := ⟨"WideDecimalDeskModel", "thrown", "()I"⟩
def wsX8_thrown : List Cond := Cond.code yX8_thrown bX8_thrown 1 (some .int) :: wsA
theorem dc_X8_thrown : yX8_thrown.cls ≠ "java/lang/invoke/MethodHandle" ∧ yX8_thrown.cls ≠ "java/lang/invoke/VarHandle" ∧ (parseMethodDescriptor yX8_thrown.desc).map (fun d => d.parameters.length) = some 0 := by decide +kernel
theorem dX8_thrown_0 : decode bX8_thrown 0 = .ok (.aload_n 0, 1) := by decide +kernel
theorem dX8_thrown_1 : decode bX8_thrown 1 = .ok (.getfield 52, 3) := by decide +kernel
theorem dX8_thrown_4 : decode bX8_thrown 4 = .ok (.ireturn, 1) := by decide +kernel
abbrev bX8_divide : ByteArray := prog_10_method_12_code
def yX8_divide : MethodName := ⟨"WideDecimalDeskModel", "divide", "()V"⟩
def wsX8_divide : List Cond := Cond.code yX8_divide bX8_divide 2 none :: wsA
theorem dc_X8_divide : yX8_divide.cls ≠ "java/lang/invoke/MethodHandle" ∧ yX8_divide.cls ≠ "java/lang/invoke/VarHandle" ∧ (parseMethodDescriptor yX8_divide.desc).map (fun d => d.parameters.length) = some 0 := by decide +kernel
theorem dX8_divide_0 : decode bX8_divide 0 = .ok (.aload_n 0, 1) := by decide +kernel
theorem dX8_divide_1 : decode bX8_divide 1 = .ok (.getfield 39, 3) := by decide +kernel
theorem dX8_divide_4 : decode bX8_divide 4 = .ok (.invokestatic 60, 3) := by decide +kernel
theorem dX8_divide_7 : decode bX8_divide 7 = .ok (.aload_n 0, 1) := by decide +kernel
theorem dX8_divide_8 : decode bX8_divide 8 = .ok (.getfield 42, 3) := by decide +kernel
theorem dX8_divide_11 : decode bX8_divide 11 = .ok (.invokestatic 60, 3) := by decide +kernel
theorem dX8_divide_14 : decode bX8_divide 14 = .ok (.bipush 99, 2) := by decide +kernel
theorem dX8_divide_16 : decode bX8_divide 16 = .ok (.istore_n 1, 1) := by decide +kernel
theorem dX8_divide_17 : decode bX8_divide 17 = .ok (.iload_n 1, 1) := by decide +kernel
theorem dX8_divide_18 : decode bX8_divide 18 = .ok (.ifCond .lt 71, 3) := by decide +kernel
theorem dX8_divide_21 : decode bX8_divide 21 = .ok (.aload_n 0, 1) := by decide +kernel
theorem dX8_divide_22 : decode bX8_divide 22 = .ok (.getfield 42, 3) := by decide +kernel
theorem dX8_divide_25 : decode bX8_divide 25 = .ok (.iconst 1, 1) := by decide +kernel
theorem dX8_divide_26 : decode bX8_divide 26 = .ok (.invokestatic 63, 3) := by decide +kernel
theorem dX8_divide_29 : decode bX8_divide 29 = .ok (.aload_n 0, 1) := by decide +kernel
theorem dX8_divide_30 : decode bX8_divide 30 = .ok (.getfield 42, 3) := by decide +kernel
theorem dX8_divide_33 : decode bX8_divide 33 = .ok (.iconst 0, 1) := by decide +kernel
theorem dX8_divide_34 : decode bX8_divide 34 = .ok (.aload_n 0, 1) := by decide +kernel
theorem dX8_divide_35 : decode bX8_divide 35 = .ok (.getfield 36, 3) := by decide +kernel
theorem dX8_divide_38 : decode bX8_divide 38 = .ok (.iload_n 1, 1) := by decide +kernel
theorem dX8_divide_39 : decode bX8_divide 39 = .ok (.iaload, 1) := by decide +kernel
theorem dX8_divide_40 : decode bX8_divide 40 = .ok (.iastore, 1) := by decide +kernel
theorem dX8_divide_41 : decode bX8_divide 41 = .ok (.aload_n 0, 1) := by decide +kernel
theorem dX8_divide_42 : decode bX8_divide 42 = .ok (.getfield 42, 3) := by decide +kernel
theorem dX8_divide_45 : decode bX8_divide 45 = .ok (.aload_n 0, 1) := by decide +kernel
theorem dX8_divide_46 : decode bX8_divide 46 = .ok (.getfield 33, 3) := by decide +kernel
theorem dX8_divide_49 : decode bX8_divide 49 = .ok (.invokestatic 67, 3) := by decide +kernel
theorem dX8_divide_52 : decode bX8_divide 52 = .ok (.ifCond .lt 31, 3) := by decide +kernel
theorem dX8_divide_55 : decode bX8_divide 55 = .ok (.aload_n 0, 1) := by decide +kernel
theorem dX8_divide_56 : decode bX8_divide 56 = .ok (.getfield 42, 3) := by decide +kernel
theorem dX8_divide_59 : decode bX8_divide 59 = .ok (.aload_n 0, 1) := by decide +kernel
theorem dX8_divide_60 : decode bX8_divide 60 = .ok (.getfield 33, 3) := by decide +kernel
theorem dX8_divide_63 : decode bX8_divide 63 = .ok (.invokestatic 71, 3) := by decide +kernel
theorem dX8_divide_66 : decode bX8_divide 66 = .ok (.aload_n 0, 1) := by decide +kernel
theorem dX8_divide_67 : decode bX8_divide 67 = .ok (.getfield 39, 3) := by decide +kernel
theorem dX8_divide_70 : decode bX8_divide 70 = .ok (.iload_n 1, 1) := by decide +kernel
theorem dX8_divide_71 : decode bX8_divide 71 = .ok (.aload_n 0, 1) := by decide +kernel
theorem dX8_divide_72 : decode bX8_divide 72 = .ok (.getfield 39, 3) := by decide +kernel
theorem dX8_divide_75 : decode bX8_divide 75 = .ok (.iload_n 1, 1) := by decide +kernel
theorem dX8_divide_76 : decode bX8_divide 76 = .ok (.iaload, 1) := by decide +kernel
theorem dX8_divide_77 : decode bX8_divide 77 = .ok (.iconst 1, 1) := by decide +kernel
theorem dX8_divide_78 : decode bX8_divide 78 = .ok (.iadd, 1) := by decide +kernel
theorem dX8_divide_79 : decode bX8_divide 79 = .ok (.iastore, 1) := by decide +kernel
theorem dX8_divide_80 : decode bX8_divide 80 = .ok (.goto (-39), 3) := by decide +kernel
theorem dX8_divide_83 : decode bX8_divide 83 = .ok (.iinc 1 (-1), 3) := by decide +kernel
theorem dX8_divide_86 : decode bX8_divide 86 = .ok (.goto (-69), 3) := by decide +kernel
theorem dX8_divide_89 : decode bX8_divide 89 = .ok (.return_, 1) := by decide +kernel
abbrev bX8_half : ByteArray := prog_10_method_13_code
def yX8_half : MethodName := ⟨"WideDecimalDeskModel", "half", "()I"⟩
def wsX8_half : List Cond := Cond.code yX8_half bX8_half 1 (some .int) :: wsA
theorem dc_X8_half : yX8_half.cls ≠ "java/lang/invoke/MethodHandle" ∧ yX8_half.cls ≠ "java/lang/invoke/VarHandle" ∧ (parseMethodDescriptor yX8_half.desc).map (fun d => d.parameters.length) = some 0 := by decide +kernel
theorem dX8_half_0 : decode bX8_half 0 = .ok (.aload_n 0, 1) := by decide +kernel
theorem dX8_half_1 : decode bX8_half 1 = .ok (.getfield 42, 3) := by decide +kernel
theorem dX8_half_4 : decode bX8_half 4 = .ok (.aload_n 0, 1) := by decide +kernel
theorem dX8_half_5 : decode bX8_half 5 = .ok (.getfield 45, 3) := by decide +kernel
theorem dX8_half_8 : decode bX8_half 8 = .ok (.invokestatic 74, 3) := by decide +kernel
theorem dX8_half_11 : decode bX8_half 11 = .ok (.aload_n 0, 1) := by decide +kernel
theorem dX8_half_12 : decode bX8_half 12 = .ok (.getfield 45, 3) := by decide +kernel
theorem dX8_half_15 : decode bX8_half 15 = .ok (.invokestatic 48, 3) := by decide +kernel
theorem dX8_half_18 : decode bX8_half 18 = .ok (.aload_n 0, 1) := by decide +kernel
theorem dX8_half_19 : decode bX8_half 19 = .ok (.getfield 45, 3) := by decide +kernel
theorem dX8_half_22 : decode bX8_half 22 = .ok (.aload_n 0, 1) := by decide +kernel
theorem dX8_half_23 : decode bX8_half 23 = .ok (.getfield 33, 3) := by decide +kernel
theorem dX8_half_26 : decode bX8_half 26 = .ok (.invokestatic 67, 3) := by decide +kernel
theorem dX8_half_29 : decode bX8_half 29 = .ok (.ireturn, 1) := by decide +kernel
abbrev bX8_register : ByteArray := prog_10_method_14_code
def yX8_register : MethodName := ⟨"WideDecimalDeskModel", "register", "(I)Z"⟩
def wsX8_register : List Cond := Cond.code yX8_register bX8_register 1 (some .boolean) :: wsA
theorem dc_X8_register : yX8_register.cls ≠ "java/lang/invoke/MethodHandle" ∧ yX8_register.cls ≠ "java/lang/invoke/VarHandle" ∧ (parseMethodDescriptor yX8_register.desc).map (fun d => d.parameters.length) = some 1 := by decide +kernel
theorem dX8_register_0 : decode bX8_register 0 = .ok (.iload_n 0, 1) := by decide +kernel
theorem dX8_register_1 : decode bX8_register 1 = .ok (.ifCond .lt 13, 3) := by decide +kernel
theorem dX8_register_4 : decode bX8_register 4 = .ok (.iload_n 0, 1) := by decide +kernel
theorem dX8_register_5 : decode bX8_register 5 = .ok (.bipush 6, 2) := by decide +kernel
theorem dX8_register_7 : decode bX8_register 7 = .ok (.if_icmp .ge 7, 3) := by decide +kernel
theorem dX8_register_10 : decode bX8_register 10 = .ok (.iconst 1, 1) := by decide +kernel
theorem dX8_register_11 : decode bX8_register 11 = .ok (.goto 4, 3) := by decide +kernel
theorem dX8_register_14 : decode bX8_register 14 = .ok (.iconst 0, 1) := by decide +kernel
theorem dX8_register_15 : decode bX8_register 15 = .ok (.ireturn, 1) := by decide +kernel
abbrev bX8_load : ByteArray := prog_10_method_15_code
def yX8_load : MethodName := ⟨"WideDecimalDeskModel", "load", "(I[I)V"⟩
def wsX8_load : List Cond := Cond.code yX8_load bX8_load 4 none :: wsA
theorem dc_X8_load : yX8_load.cls ≠ "java/lang/invoke/MethodHandle" ∧ yX8_load.cls ≠ "java/lang/invoke/VarHandle" ∧ (parseMethodDescriptor yX8_load.desc).map (fun d => d.parameters.length) = some 2 := by decide +kernel
theorem dX8_load_0 : decode bX8_load 0 = .ok (.aload_n 2, 1) := by decide +kernel
theorem dX8_load_1 : decode bX8_load 1 = .ok (.invokestatic 60, 3) := by decide +kernel
theorem dX8_load_4 : decode bX8_load 4 = .ok (.iconst 0, 1) := by decide +kernel
theorem dX8_load_5 : decode bX8_load 5 = .ok (.istore_n 3, 1) := by decide +kernel
theorem dX8_load_6 : decode bX8_load 6 = .ok (.iload_n 3, 1) := by decide +kernel
theorem dX8_load_7 : decode bX8_load 7 = .ok (.bipush 30, 2) := by decide +kernel
theorem dX8_load_9 : decode bX8_load 9 = .ok (.if_icmp .ge 23, 3) := by decide +kernel
theorem dX8_load_12 : decode bX8_load 12 = .ok (.aload_n 2, 1) := by decide +kernel
theorem dX8_load_13 : decode bX8_load 13 = .ok (.iload_n 3, 1) := by decide +kernel
theorem dX8_load_14 : decode bX8_load 14 = .ok (.aload_n 0, 1) := by decide +kernel
theorem dX8_load_15 : decode bX8_load 15 = .ok (.getfield 7, 3) := by decide +kernel
theorem dX8_load_18 : decode bX8_load 18 = .ok (.bipush 30, 2) := by decide +kernel
theorem dX8_load_20 : decode bX8_load 20 = .ok (.iload_n 1, 1) := by decide +kernel
theorem dX8_load_21 : decode bX8_load 21 = .ok (.imul, 1) := by decide +kernel
theorem dX8_load_22 : decode bX8_load 22 = .ok (.iload_n 3, 1) := by decide +kernel
theorem dX8_load_23 : decode bX8_load 23 = .ok (.iadd, 1) := by decide +kernel
theorem dX8_load_24 : decode bX8_load 24 = .ok (.iaload, 1) := by decide +kernel
theorem dX8_load_25 : decode bX8_load 25 = .ok (.iastore, 1) := by decide +kernel
theorem dX8_load_26 : decode bX8_load 26 = .ok (.iinc 3 1, 3) := by decide +kernel
theorem dX8_load_29 : decode bX8_load 29 = .ok (.goto (-23), 3) := by decide +kernel
theorem dX8_load_32 : decode bX8_load 32 = .ok (.return_, 1) := by decide +kernel
abbrev bX8_store : ByteArray := prog_10_method_16_code
def yX8_store : MethodName := ⟨"WideDecimalDeskModel", "store", "(I[IIZ)V"⟩
def wsX8_store : List Cond := Cond.code yX8_store bX8_store 6 none :: wsA
theorem dc_X8_store : yX8_store.cls ≠ "java/lang/invoke/MethodHandle" ∧ yX8_store.cls ≠ "java/lang/invoke/VarHandle" ∧ (parseMethodDescriptor yX8_store.desc).map (fun d => d.parameters.length) = some 4 := by decide +kernel
theorem dX8_store_0 : decode bX8_store 0 = .ok (.iconst 0, 1) := by decide +kernel
theorem dX8_store_1 : decode bX8_store 1 = .ok (.istore 5, 2) := by decide +kernel
theorem dX8_store_3 : decode bX8_store 3 = .ok (.iload 5, 2) := by decide +kernel
theorem dX8_store_5 : decode bX8_store 5 = .ok (.bipush 30, 2) := by decide +kernel
theorem dX8_store_7 : decode bX8_store 7 = .ok (.if_icmp .ge 25, 3) := by decide +kernel
theorem dX8_store_10 : decode bX8_store 10 = .ok (.aload_n 0, 1) := by decide +kernel
theorem dX8_store_11 : decode bX8_store 11 = .ok (.getfield 7, 3) := by decide +kernel
theorem dX8_store_14 : decode bX8_store 14 = .ok (.bipush 30, 2) := by decide +kernel
theorem dX8_store_16 : decode bX8_store 16 = .ok (.iload_n 1, 1) := by decide +kernel
theorem dX8_store_17 : decode bX8_store 17 = .ok (.imul, 1) := by decide +kernel
theorem dX8_store_18 : decode bX8_store 18 = .ok (.iload 5, 2) := by decide +kernel
theorem dX8_store_20 : decode bX8_store 20 = .ok (.iadd, 1) := by decide +kernel
theorem dX8_store_21 : decode bX8_store 21 = .ok (.aload_n 2, 1) := by decide +kernel
theorem dX8_store_22 : decode bX8_store 22 = .ok (.iload 5, 2) := by decide +kernel
theorem dX8_store_24 : decode bX8_store 24 = .ok (.iaload, 1) := by decide +kernel
theorem dX8_store_25 : decode bX8_store 25 = .ok (.iastore, 1) := by decide +kernel
theorem dX8_store_26 : decode bX8_store 26 = .ok (.iinc 5 1, 3) := by decide +kernel
theorem dX8_store_29 : decode bX8_store 29 = .ok (.goto (-26), 3) := by decide +kernel
theorem dX8_store_32 : decode bX8_store 32 = .ok (.aload_n 0, 1) := by decide +kernel
theorem dX8_store_33 : decode bX8_store 33 = .ok (.getfield 13, 3) := by decide +kernel
theorem dX8_store_36 : decode bX8_store 36 = .ok (.iload_n 1, 1) := by decide +kernel
theorem dX8_store_37 : decode bX8_store 37 = .ok (.iload_n 3, 1) := by decide +kernel
theorem dX8_store_38 : decode bX8_store 38 = .ok (.iastore, 1) := by decide +kernel
theorem dX8_store_39 : decode bX8_store 39 = .ok (.aload_n 0, 1) := by decide +kernel
theorem dX8_store_40 : decode bX8_store 40 = .ok (.getfield 16, 3) := by decide +kernel
theorem dX8_store_43 : decode bX8_store 43 = .ok (.iload_n 1, 1) := by decide +kernel
theorem dX8_store_44 : decode bX8_store 44 = .ok (.iload 4, 2) := by decide +kernel
theorem dX8_store_46 : decode bX8_store 46 = .ok (.ifCond .eq 14, 3) := by decide +kernel
theorem dX8_store_49 : decode bX8_store 49 = .ok (.aload_n 2, 1) := by decide +kernel
theorem dX8_store_50 : decode bX8_store 50 = .ok (.invokestatic 77, 3) := by decide +kernel
theorem dX8_store_53 : decode bX8_store 53 = .ok (.ifCond .ne 7, 3) := by decide +kernel
theorem dX8_store_56 : decode bX8_store 56 = .ok (.iconst 1, 1) := by decide +kernel
theorem dX8_store_57 : decode bX8_store 57 = .ok (.goto 4, 3) := by decide +kernel
theorem dX8_store_60 : decode bX8_store 60 = .ok (.iconst 0, 1) := by decide +kernel
theorem dX8_store_61 : decode bX8_store 61 = .ok (.bastore, 1) := by decide +kernel
theorem dX8_store_62 : decode bX8_store 62 = .ok (.return_, 1) := by decide +kernel
abbrev bX8_place : ByteArray := prog_10_method_23_code
def yX8_place : MethodName := ⟨"WideDecimalDeskModel", "place", "(I)Z"⟩
def wsX8_place : List Cond := Cond.code yX8_place bX8_place 4 (some .boolean) :: wsA
theorem dc_X8_place : yX8_place.cls ≠ "java/lang/invoke/MethodHandle" ∧ yX8_place.cls ≠ "java/lang/invoke/VarHandle" ∧ (parseMethodDescriptor yX8_place.desc).map (fun d => d.parameters.length) = some 1 := by decide +kernel
theorem dX8_place_0 : decode bX8_place 0 = .ok (.iload_n 1, 1) := by decide +kernel
theorem dX8_place_1 : decode bX8_place 1 = .ok (.bipush 28, 2) := by decide +kernel
theorem dX8_place_3 : decode bX8_place 3 = .ok (.if_icmp .ge 7, 3) := by decide +kernel
theorem dX8_place_6 : decode bX8_place 6 = .ok (.iload_n 1, 1) := by decide +kernel
theorem dX8_place_7 : decode bX8_place 7 = .ok (.goto 5, 3) := by decide +kernel
theorem dX8_place_10 : decode bX8_place 10 = .ok (.bipush 28, 2) := by decide +kernel
theorem dX8_place_12 : decode bX8_place 12 = .ok (.istore_n 2, 1) := by decide +kernel
theorem dX8_place_13 : decode bX8_place 13 = .ok (.iload_n 2, 1) := by decide +kernel
theorem dX8_place_14 : decode bX8_place 14 = .ok (.ifCond .lt 85, 3) := by decide +kernel
theorem dX8_place_17 : decode bX8_place 17 = .ok (.aload_n 0, 1) := by decide +kernel
theorem dX8_place_18 : decode bX8_place 18 = .ok (.getfield 30, 3) := by decide +kernel
theorem dX8_place_21 : decode bX8_place 21 = .ok (.aload_n 0, 1) := by decide +kernel
theorem dX8_place_22 : decode bX8_place 22 = .ok (.getfield 36, 3) := by decide +kernel
theorem dX8_place_25 : decode bX8_place 25 = .ok (.invokestatic 74, 3) := by decide +kernel
theorem dX8_place_28 : decode bX8_place 28 = .ok (.aload_n 0, 1) := by decide +kernel
theorem dX8_place_29 : decode bX8_place 29 = .ok (.getfield 36, 3) := by decide +kernel
theorem dX8_place_32 : decode bX8_place 32 = .ok (.iload_n 2, 1) := by decide +kernel
theorem dX8_place_33 : decode bX8_place 33 = .ok (.invokestatic 63, 3) := by decide +kernel
theorem dX8_place_36 : decode bX8_place 36 = .ok (.aload_n 0, 1) := by decide +kernel
theorem dX8_place_37 : decode bX8_place 37 = .ok (.invokevirtual 97, 3) := by decide +kernel
theorem dX8_place_40 : decode bX8_place 40 = .ok (.aload_n 0, 1) := by decide +kernel
theorem dX8_place_41 : decode bX8_place 41 = .ok (.invokevirtual 100, 3) := by decide +kernel
theorem dX8_place_44 : decode bX8_place 44 = .ok (.istore_n 3, 1) := by decide +kernel
theorem dX8_place_45 : decode bX8_place 45 = .ok (.iload_n 3, 1) := by decide +kernel
theorem dX8_place_46 : decode bX8_place 46 = .ok (.ifCond .gt 19, 3) := by decide +kernel
theorem dX8_place_49 : decode bX8_place 49 = .ok (.iload_n 3, 1) := by decide +kernel
theorem dX8_place_50 : decode bX8_place 50 = .ok (.ifCond .ne 22, 3) := by decide +kernel
theorem dX8_place_53 : decode bX8_place 53 = .ok (.aload_n 0, 1) := by decide +kernel
theorem dX8_place_54 : decode bX8_place 54 = .ok (.getfield 39, 3) := by decide +kernel
theorem dX8_place_57 : decode bX8_place 57 = .ok (.iconst 0, 1) := by decide +kernel
theorem dX8_place_58 : decode bX8_place 58 = .ok (.iaload, 1) := by decide +kernel
theorem dX8_place_59 : decode bX8_place 59 = .ok (.iconst 2, 1) := by decide +kernel
theorem dX8_place_60 : decode bX8_place 60 = .ok (.irem, 1) := by decide +kernel
theorem dX8_place_61 : decode bX8_place 61 = .ok (.iconst 1, 1) := by decide +kernel
theorem dX8_place_62 : decode bX8_place 62 = .ok (.if_icmp .ne 10, 3) := by decide +kernel
theorem dX8_place_65 : decode bX8_place 65 = .ok (.aload_n 0, 1) := by decide +kernel
theorem dX8_place_66 : decode bX8_place 66 = .ok (.getfield 39, 3) := by decide +kernel
theorem dX8_place_69 : decode bX8_place 69 = .ok (.invokestatic 104, 3) := by decide +kernel
theorem dX8_place_72 : decode bX8_place 72 = .ok (.aload_n 0, 1) := by decide +kernel
theorem dX8_place_73 : decode bX8_place 73 = .ok (.getfield 39, 3) := by decide +kernel
theorem dX8_place_76 : decode bX8_place 76 = .ok (.aload_n 0, 1) := by decide +kernel
theorem dX8_place_77 : decode bX8_place 77 = .ok (.getfield 27, 3) := by decide +kernel
theorem dX8_place_80 : decode bX8_place 80 = .ok (.invokestatic 67, 3) := by decide +kernel
theorem dX8_place_83 : decode bX8_place 83 = .ok (.ifCond .ge 10, 3) := by decide +kernel
theorem dX8_place_86 : decode bX8_place 86 = .ok (.aload_n 0, 1) := by decide +kernel
theorem dX8_place_87 : decode bX8_place 87 = .ok (.iload_n 2, 1) := by decide +kernel
theorem dX8_place_88 : decode bX8_place 88 = .ok (.putfield 107, 3) := by decide +kernel
theorem dX8_place_91 : decode bX8_place 91 = .ok (.iconst 1, 1) := by decide +kernel
theorem dX8_place_92 : decode bX8_place 92 = .ok (.ireturn, 1) := by decide +kernel
theorem dX8_place_93 : decode bX8_place 93 = .ok (.iinc 2 (-1), 3) := by decide +kernel
theorem dX8_place_96 : decode bX8_place 96 = .ok (.goto (-83), 3) := by decide +kernel
theorem dX8_place_99 : decode bX8_place 99 = .ok (.iconst 0, 1) := by decide +kernel
theorem dX8_place_100 : decode bX8_place 100 = .ok (.ireturn, 1) := by decide +kernel
abbrev bX8_power : ByteArray := prog_10_method_24_code
def yX8_power : MethodName := ⟨"WideDecimalDeskModel", "power", "([II)V"⟩
def wsX8_power : List Cond := Cond.code yX8_power bX8_power 3 none :: wsA
theorem dc_X8_power : yX8_power.cls ≠ "java/lang/invoke/MethodHandle" ∧ yX8_power.cls ≠ "java/lang/invoke/VarHandle" ∧ (parseMethodDescriptor yX8_power.desc).map (fun d => d.parameters.length) = some 2 := by decide +kernel
theorem dX8_power_0 : decode bX8_power 0 = .ok (.aload_n 1, 1) := by decide +kernel
theorem dX8_power_1 : decode bX8_power 1 = .ok (.invokestatic 60, 3) := by decide +kernel
theorem dX8_power_4 : decode bX8_power 4 = .ok (.aload_n 1, 1) := by decide +kernel
theorem dX8_power_5 : decode bX8_power 5 = .ok (.iconst 0, 1) := by decide +kernel
theorem dX8_power_6 : decode bX8_power 6 = .ok (.iconst 1, 1) := by decide +kernel
theorem dX8_power_7 : decode bX8_power 7 = .ok (.iastore, 1) := by decide +kernel
theorem dX8_power_8 : decode bX8_power 8 = .ok (.aload_n 1, 1) := by decide +kernel
theorem dX8_power_9 : decode bX8_power 9 = .ok (.iload_n 2, 1) := by decide +kernel
theorem dX8_power_10 : decode bX8_power 10 = .ok (.invokestatic 63, 3) := by decide +kernel
theorem dX8_power_13 : decode bX8_power 13 = .ok (.return_, 1) := by decide +kernel
abbrev bX8_join : ByteArray := prog_10_method_25_code
def yX8_join : MethodName := ⟨"WideDecimalDeskModel", "join", "(IIZI)Z"⟩
def wsX8_join : List Cond := Cond.code yX8_join bX8_join 7 (some .boolean) :: wsA
theorem dc_X8_join : yX8_join.cls ≠ "java/lang/invoke/MethodHandle" ∧ yX8_join.cls ≠ "java/lang/invoke/VarHandle" ∧ (parseMethodDescriptor yX8_join.desc).map (fun d => d.parameters.length) = some 4 := by decide +kernel
theorem dX8_join_0 : decode bX8_join 0 = .ok (.aload_n 0, 1) := by decide +kernel
theorem dX8_join_1 : decode bX8_join 1 = .ok (.iload_n 1, 1) := by decide +kernel
theorem dX8_join_2 : decode bX8_join 2 = .ok (.aload_n 0, 1) := by decide +kernel
theorem dX8_join_3 : decode bX8_join 3 = .ok (.getfield 30, 3) := by decide +kernel
theorem dX8_join_6 : decode bX8_join 6 = .ok (.invokevirtual 89, 3) := by decide +kernel
theorem dX8_join_9 : decode bX8_join 9 = .ok (.aload_n 0, 1) := by decide +kernel
theorem dX8_join_10 : decode bX8_join 10 = .ok (.getfield 30, 3) := by decide +kernel
theorem dX8_join_13 : decode bX8_join 13 = .ok (.iload 4, 2) := by decide +kernel
theorem dX8_join_15 : decode bX8_join 15 = .ok (.aload_n 0, 1) := by decide +kernel
theorem dX8_join_16 : decode bX8_join 16 = .ok (.getfield 13, 3) := by decide +kernel
theorem dX8_join_19 : decode bX8_join 19 = .ok (.iload_n 1, 1) := by decide +kernel
theorem dX8_join_20 : decode bX8_join 20 = .ok (.iaload, 1) := by decide +kernel
theorem dX8_join_21 : decode bX8_join 21 = .ok (.isub, 1) := by decide +kernel
theorem dX8_join_22 : decode bX8_join 22 = .ok (.invokestatic 63, 3) := by decide +kernel
theorem dX8_join_25 : decode bX8_join 25 = .ok (.aload_n 0, 1) := by decide +kernel
theorem dX8_join_26 : decode bX8_join 26 = .ok (.iload_n 2, 1) := by decide +kernel
theorem dX8_join_27 : decode bX8_join 27 = .ok (.aload_n 0, 1) := by decide +kernel
theorem dX8_join_28 : decode bX8_join 28 = .ok (.getfield 36, 3) := by decide +kernel
theorem dX8_join_31 : decode bX8_join 31 = .ok (.invokevirtual 89, 3) := by decide +kernel
theorem dX8_join_34 : decode bX8_join 34 = .ok (.aload_n 0, 1) := by decide +kernel
theorem dX8_join_35 : decode bX8_join 35 = .ok (.getfield 36, 3) := by decide +kernel
theorem dX8_join_38 : decode bX8_join 38 = .ok (.iload 4, 2) := by decide +kernel
theorem dX8_join_40 : decode bX8_join 40 = .ok (.aload_n 0, 1) := by decide +kernel
theorem dX8_join_41 : decode bX8_join 41 = .ok (.getfield 13, 3) := by decide +kernel
theorem dX8_join_44 : decode bX8_join 44 = .ok (.iload_n 2, 1) := by decide +kernel
theorem dX8_join_45 : decode bX8_join 45 = .ok (.iaload, 1) := by decide +kernel
theorem dX8_join_46 : decode bX8_join 46 = .ok (.isub, 1) := by decide +kernel
theorem dX8_join_47 : decode bX8_join 47 = .ok (.invokestatic 63, 3) := by decide +kernel
theorem dX8_join_50 : decode bX8_join 50 = .ok (.aload_n 0, 1) := by decide +kernel
theorem dX8_join_51 : decode bX8_join 51 = .ok (.aload_n 0, 1) := by decide +kernel
theorem dX8_join_52 : decode bX8_join 52 = .ok (.getfield 33, 3) := by decide +kernel
theorem dX8_join_55 : decode bX8_join 55 = .ok (.iload 4, 2) := by decide +kernel
theorem dX8_join_57 : decode bX8_join 57 = .ok (.invokevirtual 110, 3) := by decide +kernel
theorem dX8_join_60 : decode bX8_join 60 = .ok (.aload_n 0, 1) := by decide +kernel
theorem dX8_join_61 : decode bX8_join 61 = .ok (.getfield 16, 3) := by decide +kernel
theorem dX8_join_64 : decode bX8_join 64 = .ok (.iload_n 1, 1) := by decide +kernel
theorem dX8_join_65 : decode bX8_join 65 = .ok (.baload, 1) := by decide +kernel
theorem dX8_join_66 : decode bX8_join 66 = .ok (.istore 5, 2) := by decide +kernel
theorem dX8_join_68 : decode bX8_join 68 = .ok (.aload_n 0, 1) := by decide +kernel
theorem dX8_join_69 : decode bX8_join 69 = .ok (.getfield 16, 3) := by decide +kernel
theorem dX8_join_72 : decode bX8_join 72 = .ok (.iload_n 2, 1) := by decide +kernel
theorem dX8_join_73 : decode bX8_join 73 = .ok (.baload, 1) := by decide +kernel
theorem dX8_join_74 : decode bX8_join 74 = .ok (.iload_n 3, 1) := by decide +kernel
theorem dX8_join_75 : decode bX8_join 75 = .ok (.if_icmp .eq 7, 3) := by decide +kernel
theorem dX8_join_78 : decode bX8_join 78 = .ok (.iconst 1, 1) := by decide +kernel
theorem dX8_join_79 : decode bX8_join 79 = .ok (.goto 4, 3) := by decide +kernel
theorem dX8_join_82 : decode bX8_join 82 = .ok (.iconst 0, 1) := by decide +kernel
theorem dX8_join_83 : decode bX8_join 83 = .ok (.istore 6, 2) := by decide +kernel
theorem dX8_join_85 : decode bX8_join 85 = .ok (.iload 5, 2) := by decide +kernel
theorem dX8_join_87 : decode bX8_join 87 = .ok (.iload 6, 2) := by decide +kernel
theorem dX8_join_89 : decode bX8_join 89 = .ok (.if_icmp .ne 17, 3) := by decide +kernel
theorem dX8_join_92 : decode bX8_join 92 = .ok (.aload_n 0, 1) := by decide +kernel
theorem dX8_join_93 : decode bX8_join 93 = .ok (.getfield 30, 3) := by decide +kernel
theorem dX8_join_96 : decode bX8_join 96 = .ok (.aload_n 0, 1) := by decide +kernel
theorem dX8_join_97 : decode bX8_join 97 = .ok (.getfield 36, 3) := by decide +kernel
theorem dX8_join_100 : decode bX8_join 100 = .ok (.invokestatic 56, 3) := by decide +kernel
theorem dX8_join_103 : decode bX8_join 103 = .ok (.iload 5, 2) := by decide +kernel
theorem dX8_join_105 : decode bX8_join 105 = .ok (.ireturn, 1) := by decide +kernel
theorem dX8_join_106 : decode bX8_join 106 = .ok (.aload_n 0, 1) := by decide +kernel
theorem dX8_join_107 : decode bX8_join 107 = .ok (.getfield 30, 3) := by decide +kernel
theorem dX8_join_110 : decode bX8_join 110 = .ok (.aload_n 0, 1) := by decide +kernel
theorem dX8_join_111 : decode bX8_join 111 = .ok (.getfield 36, 3) := by decide +kernel
theorem dX8_join_114 : decode bX8_join 114 = .ok (.invokestatic 67, 3) := by decide +kernel
theorem dX8_join_117 : decode bX8_join 117 = .ok (.ifCond .lt 17, 3) := by decide +kernel
theorem dX8_join_120 : decode bX8_join 120 = .ok (.aload_n 0, 1) := by decide +kernel
theorem dX8_join_121 : decode bX8_join 121 = .ok (.getfield 30, 3) := by decide +kernel
theorem dX8_join_124 : decode bX8_join 124 = .ok (.aload_n 0, 1) := by decide +kernel
theorem dX8_join_125 : decode bX8_join 125 = .ok (.getfield 36, 3) := by decide +kernel
theorem dX8_join_128 : decode bX8_join 128 = .ok (.invokestatic 71, 3) := by decide +kernel
theorem dX8_join_131 : decode bX8_join 131 = .ok (.iload 5, 2) := by decide +kernel
theorem dX8_join_133 : decode bX8_join 133 = .ok (.ireturn, 1) := by decide +kernel
theorem dX8_join_134 : decode bX8_join 134 = .ok (.aload_n 0, 1) := by decide +kernel
theorem dX8_join_135 : decode bX8_join 135 = .ok (.getfield 36, 3) := by decide +kernel
theorem dX8_join_138 : decode bX8_join 138 = .ok (.aload_n 0, 1) := by decide +kernel
theorem dX8_join_139 : decode bX8_join 139 = .ok (.getfield 30, 3) := by decide +kernel
theorem dX8_join_142 : decode bX8_join 142 = .ok (.invokestatic 71, 3) := by decide +kernel
theorem dX8_join_145 : decode bX8_join 145 = .ok (.aload_n 0, 1) := by decide +kernel
theorem dX8_join_146 : decode bX8_join 146 = .ok (.getfield 36, 3) := by decide +kernel
theorem dX8_join_149 : decode bX8_join 149 = .ok (.aload_n 0, 1) := by decide +kernel
theorem dX8_join_150 : decode bX8_join 150 = .ok (.getfield 30, 3) := by decide +kernel
theorem dX8_join_153 : decode bX8_join 153 = .ok (.invokestatic 74, 3) := by decide +kernel
theorem dX8_join_156 : decode bX8_join 156 = .ok (.iload 6, 2) := by decide +kernel
theorem dX8_join_158 : decode bX8_join 158 = .ok (.ireturn, 1) := by decide +kernel
abbrev bX8_multiply : ByteArray := prog_10_method_26_code
def yX8_multiply : MethodName := ⟨"WideDecimalDeskModel", "multiply", "(II)V"⟩
def wsX8_multiply : List Cond := Cond.code yX8_multiply bX8_multiply 5 none :: wsA
theorem dc_X8_multiply : yX8_multiply.cls ≠ "java/lang/invoke/MethodHandle" ∧ yX8_multiply.cls ≠ "java/lang/invoke/VarHandle" ∧ (parseMethodDescriptor yX8_multiply.desc).map (fun d => d.parameters.length) = some 2 := by decide +kernel
theorem dX8_multiply_0 : decode bX8_multiply 0 = .ok (.aload_n 0, 1) := by decide +kernel
theorem dX8_multiply_1 : decode bX8_multiply 1 = .ok (.getfield 30, 3) := by decide +kernel
theorem dX8_multiply_4 : decode bX8_multiply 4 = .ok (.invokestatic 60, 3) := by decide +kernel
theorem dX8_multiply_7 : decode bX8_multiply 7 = .ok (.aload_n 0, 1) := by decide +kernel
theorem dX8_multiply_8 : decode bX8_multiply 8 = .ok (.iload_n 1, 1) := by decide +kernel
theorem dX8_multiply_9 : decode bX8_multiply 9 = .ok (.aload_n 0, 1) := by decide +kernel
theorem dX8_multiply_10 : decode bX8_multiply 10 = .ok (.getfield 36, 3) := by decide +kernel
theorem dX8_multiply_13 : decode bX8_multiply 13 = .ok (.invokevirtual 89, 3) := by decide +kernel
theorem dX8_multiply_16 : decode bX8_multiply 16 = .ok (.bipush 29, 2) := by decide +kernel
theorem dX8_multiply_18 : decode bX8_multiply 18 = .ok (.istore_n 3, 1) := by decide +kernel
theorem dX8_multiply_19 : decode bX8_multiply 19 = .ok (.iload_n 3, 1) := by decide +kernel
theorem dX8_multiply_20 : decode bX8_multiply 20 = .ok (.ifCond .lt 53, 3) := by decide +kernel
theorem dX8_multiply_23 : decode bX8_multiply 23 = .ok (.aload_n 0, 1) := by decide +kernel
theorem dX8_multiply_24 : decode bX8_multiply 24 = .ok (.getfield 30, 3) := by decide +kernel
theorem dX8_multiply_27 : decode bX8_multiply 27 = .ok (.iconst 1, 1) := by decide +kernel
theorem dX8_multiply_28 : decode bX8_multiply 28 = .ok (.invokestatic 63, 3) := by decide +kernel
theorem dX8_multiply_31 : decode bX8_multiply 31 = .ok (.iconst 0, 1) := by decide +kernel
theorem dX8_multiply_32 : decode bX8_multiply 32 = .ok (.istore 4, 2) := by decide +kernel
theorem dX8_multiply_34 : decode bX8_multiply 34 = .ok (.iload 4, 2) := by decide +kernel
theorem dX8_multiply_36 : decode bX8_multiply 36 = .ok (.aload_n 0, 1) := by decide +kernel
theorem dX8_multiply_37 : decode bX8_multiply 37 = .ok (.getfield 7, 3) := by decide +kernel
theorem dX8_multiply_40 : decode bX8_multiply 40 = .ok (.bipush 30, 2) := by decide +kernel
theorem dX8_multiply_42 : decode bX8_multiply 42 = .ok (.iload_n 2, 1) := by decide +kernel
theorem dX8_multiply_43 : decode bX8_multiply 43 = .ok (.imul, 1) := by decide +kernel
theorem dX8_multiply_44 : decode bX8_multiply 44 = .ok (.iload_n 3, 1) := by decide +kernel
theorem dX8_multiply_45 : decode bX8_multiply 45 = .ok (.iadd, 1) := by decide +kernel
theorem dX8_multiply_46 : decode bX8_multiply 46 = .ok (.iaload, 1) := by decide +kernel
theorem dX8_multiply_47 : decode bX8_multiply 47 = .ok (.if_icmp .ge 20, 3) := by decide +kernel
theorem dX8_multiply_50 : decode bX8_multiply 50 = .ok (.aload_n 0, 1) := by decide +kernel
theorem dX8_multiply_51 : decode bX8_multiply 51 = .ok (.getfield 30, 3) := by decide +kernel
theorem dX8_multiply_54 : decode bX8_multiply 54 = .ok (.aload_n 0, 1) := by decide +kernel
theorem dX8_multiply_55 : decode bX8_multiply 55 = .ok (.getfield 36, 3) := by decide +kernel
theorem dX8_multiply_58 : decode bX8_multiply 58 = .ok (.invokestatic 56, 3) := by decide +kernel
theorem dX8_multiply_61 : decode bX8_multiply 61 = .ok (.iinc 4 1, 3) := by decide +kernel
theorem dX8_multiply_64 : decode bX8_multiply 64 = .ok (.goto (-30), 3) := by decide +kernel
theorem dX8_multiply_67 : decode bX8_multiply 67 = .ok (.iinc 3 (-1), 3) := by decide +kernel
theorem dX8_multiply_70 : decode bX8_multiply 70 = .ok (.goto (-51), 3) := by decide +kernel
theorem dX8_multiply_73 : decode bX8_multiply 73 = .ok (.aload_n 0, 1) := by decide +kernel
theorem dX8_multiply_74 : decode bX8_multiply 74 = .ok (.aload_n 0, 1) := by decide +kernel
theorem dX8_multiply_75 : decode bX8_multiply 75 = .ok (.getfield 33, 3) := by decide +kernel
theorem dX8_multiply_78 : decode bX8_multiply 78 = .ok (.aload_n 0, 1) := by decide +kernel
theorem dX8_multiply_79 : decode bX8_multiply 79 = .ok (.getfield 13, 3) := by decide +kernel
theorem dX8_multiply_82 : decode bX8_multiply 82 = .ok (.iload_n 1, 1) := by decide +kernel
theorem dX8_multiply_83 : decode bX8_multiply 83 = .ok (.iaload, 1) := by decide +kernel
theorem dX8_multiply_84 : decode bX8_multiply 84 = .ok (.aload_n 0, 1) := by decide +kernel
theorem dX8_multiply_85 : decode bX8_multiply 85 = .ok (.getfield 13, 3) := by decide +kernel
theorem dX8_multiply_88 : decode bX8_multiply 88 = .ok (.iload_n 2, 1) := by decide +kernel
theorem dX8_multiply_89 : decode bX8_multiply 89 = .ok (.iaload, 1) := by decide +kernel
theorem dX8_multiply_90 : decode bX8_multiply 90 = .ok (.iadd, 1) := by decide +kernel
theorem dX8_multiply_91 : decode bX8_multiply 91 = .ok (.invokevirtual 110, 3) := by decide +kernel
theorem dX8_multiply_94 : decode bX8_multiply 94 = .ok (.return_, 1) := by decide +kernel
abbrev bX8_exact : ByteArray := prog_10_method_27_code
def yX8_exact : MethodName := ⟨"WideDecimalDeskModel", "exact", "(I)Z"⟩
def wsX8_exact : List Cond := Cond.code yX8_exact bX8_exact 3 (some .boolean) :: wsA
theorem dc_X8_exact : yX8_exact.cls ≠ "java/lang/invoke/MethodHandle" ∧ yX8_exact.cls ≠ "java/lang/invoke/VarHandle" ∧ (parseMethodDescriptor yX8_exact.desc).map (fun d => d.parameters.length) = some 1 := by decide +kernel
theorem dX8_exact_0 : decode bX8_exact 0 = .ok (.iload_n 1, 1) := by decide +kernel
theorem dX8_exact_1 : decode bX8_exact 1 = .ok (.istore_n 2, 1) := by decide +kernel
theorem dX8_exact_2 : decode bX8_exact 2 = .ok (.iload_n 2, 1) := by decide +kernel
theorem dX8_exact_3 : decode bX8_exact 3 = .ok (.bipush 28, 2) := by decide +kernel
theorem dX8_exact_5 : decode bX8_exact 5 = .ok (.if_icmp .gt 63, 3) := by decide +kernel
theorem dX8_exact_8 : decode bX8_exact 8 = .ok (.aload_n 0, 1) := by decide +kernel
theorem dX8_exact_9 : decode bX8_exact 9 = .ok (.getfield 30, 3) := by decide +kernel
theorem dX8_exact_12 : decode bX8_exact 12 = .ok (.aload_n 0, 1) := by decide +kernel
theorem dX8_exact_13 : decode bX8_exact 13 = .ok (.getfield 36, 3) := by decide +kernel
theorem dX8_exact_16 : decode bX8_exact 16 = .ok (.invokestatic 74, 3) := by decide +kernel
theorem dX8_exact_19 : decode bX8_exact 19 = .ok (.aload_n 0, 1) := by decide +kernel
theorem dX8_exact_20 : decode bX8_exact 20 = .ok (.getfield 36, 3) := by decide +kernel
theorem dX8_exact_23 : decode bX8_exact 23 = .ok (.iload_n 2, 1) := by decide +kernel
theorem dX8_exact_24 : decode bX8_exact 24 = .ok (.invokestatic 63, 3) := by decide +kernel
theorem dX8_exact_27 : decode bX8_exact 27 = .ok (.aload_n 0, 1) := by decide +kernel
theorem dX8_exact_28 : decode bX8_exact 28 = .ok (.invokevirtual 97, 3) := by decide +kernel
theorem dX8_exact_31 : decode bX8_exact 31 = .ok (.aload_n 0, 1) := by decide +kernel
theorem dX8_exact_32 : decode bX8_exact 32 = .ok (.getfield 42, 3) := by decide +kernel
theorem dX8_exact_35 : decode bX8_exact 35 = .ok (.invokestatic 77, 3) := by decide +kernel
theorem dX8_exact_38 : decode bX8_exact 38 = .ok (.ifCond .eq 24, 3) := by decide +kernel
theorem dX8_exact_41 : decode bX8_exact 41 = .ok (.aload_n 0, 1) := by decide +kernel
theorem dX8_exact_42 : decode bX8_exact 42 = .ok (.getfield 39, 3) := by decide +kernel
theorem dX8_exact_45 : decode bX8_exact 45 = .ok (.aload_n 0, 1) := by decide +kernel
theorem dX8_exact_46 : decode bX8_exact 46 = .ok (.getfield 27, 3) := by decide +kernel
theorem dX8_exact_49 : decode bX8_exact 49 = .ok (.invokestatic 67, 3) := by decide +kernel
theorem dX8_exact_52 : decode bX8_exact 52 = .ok (.ifCond .ge 10, 3) := by decide +kernel
theorem dX8_exact_55 : decode bX8_exact 55 = .ok (.aload_n 0, 1) := by decide +kernel
theorem dX8_exact_56 : decode bX8_exact 56 = .ok (.iload_n 2, 1) := by decide +kernel
theorem dX8_exact_57 : decode bX8_exact 57 = .ok (.putfield 107, 3) := by decide +kernel
theorem dX8_exact_60 : decode bX8_exact 60 = .ok (.iconst 1, 1) := by decide +kernel
theorem dX8_exact_61 : decode bX8_exact 61 = .ok (.ireturn, 1) := by decide +kernel
theorem dX8_exact_62 : decode bX8_exact 62 = .ok (.iinc 2 1, 3) := by decide +kernel
theorem dX8_exact_65 : decode bX8_exact 65 = .ok (.goto (-63), 3) := by decide +kernel
theorem dX8_exact_68 : decode bX8_exact 68 = .ok (.iconst 0, 1) := by decide +kernel
theorem dX8_exact_69 : decode bX8_exact 69 = .ok (.ireturn, 1) := by decide +kernel
abbrev bX8_result : ByteArray := prog_10_method_28_code
def yX8_result : MethodName := ⟨"WideDecimalDeskModel", "result", "(III)I"⟩
def wsX8_result : List Cond := Cond.code yX8_result bX8_result 8 (some .int) :: wsA
theorem dc_X8_result : yX8_result.cls ≠ "java/lang/invoke/MethodHandle" ∧ yX8_result.cls ≠ "java/lang/invoke/VarHandle" ∧ (parseMethodDescriptor yX8_result.desc).map (fun d => d.parameters.length) = some 3 := by decide +kernel
theorem dX8_result_0 : decode bX8_result 0 = .ok (.aload_n 0, 1) := by decide +kernel
theorem dX8_result_1 : decode bX8_result 1 = .ok (.getfield 13, 3) := by decide +kernel
theorem dX8_result_4 : decode bX8_result 4 = .ok (.iload_n 2, 1) := by decide +kernel
theorem dX8_result_5 : decode bX8_result 5 = .ok (.iaload, 1) := by decide +kernel
theorem dX8_result_6 : decode bX8_result 6 = .ok (.istore 4, 2) := by decide +kernel
theorem dX8_result_8 : decode bX8_result 8 = .ok (.aload_n 0, 1) := by decide +kernel
theorem dX8_result_9 : decode bX8_result 9 = .ok (.getfield 13, 3) := by decide +kernel
theorem dX8_result_12 : decode bX8_result 12 = .ok (.iload_n 3, 1) := by decide +kernel
theorem dX8_result_13 : decode bX8_result 13 = .ok (.iaload, 1) := by decide +kernel
theorem dX8_result_14 : decode bX8_result 14 = .ok (.istore 5, 2) := by decide +kernel
theorem dX8_result_16 : decode bX8_result 16 = .ok (.iload 4, 2) := by decide +kernel
theorem dX8_result_18 : decode bX8_result 18 = .ok (.iload 5, 2) := by decide +kernel
theorem dX8_result_20 : decode bX8_result 20 = .ok (.if_icmp .le 8, 3) := by decide +kernel
theorem dX8_result_23 : decode bX8_result 23 = .ok (.iload 4, 2) := by decide +kernel
theorem dX8_result_25 : decode bX8_result 25 = .ok (.goto 5, 3) := by decide +kernel
theorem dX8_result_28 : decode bX8_result 28 = .ok (.iload 5, 2) := by decide +kernel
theorem dX8_result_30 : decode bX8_result 30 = .ok (.istore 6, 2) := by decide +kernel
theorem dX8_result_32 : decode bX8_result 32 = .ok (.iload_n 1, 1) := by decide +kernel
theorem dX8_result_33 : decode bX8_result 33 = .ok (.iconst 2, 1) := by decide +kernel
theorem dX8_result_34 : decode bX8_result 34 = .ok (.if_icmp .ge 47, 3) := by decide +kernel
theorem dX8_result_37 : decode bX8_result 37 = .ok (.aload_n 0, 1) := by decide +kernel
theorem dX8_result_38 : decode bX8_result 38 = .ok (.iload_n 2, 1) := by decide +kernel
theorem dX8_result_39 : decode bX8_result 39 = .ok (.iload_n 3, 1) := by decide +kernel
theorem dX8_result_40 : decode bX8_result 40 = .ok (.iload_n 1, 1) := by decide +kernel
theorem dX8_result_41 : decode bX8_result 41 = .ok (.iconst 1, 1) := by decide +kernel
theorem dX8_result_42 : decode bX8_result 42 = .ok (.if_icmp .ne 7, 3) := by decide +kernel
theorem dX8_result_45 : decode bX8_result 45 = .ok (.iconst 1, 1) := by decide +kernel
theorem dX8_result_46 : decode bX8_result 46 = .ok (.goto 4, 3) := by decide +kernel
theorem dX8_result_49 : decode bX8_result 49 = .ok (.iconst 0, 1) := by decide +kernel
theorem dX8_result_50 : decode bX8_result 50 = .ok (.iload 6, 2) := by decide +kernel
theorem dX8_result_52 : decode bX8_result 52 = .ok (.invokevirtual 113, 3) := by decide +kernel
theorem dX8_result_55 : decode bX8_result 55 = .ok (.istore 7, 2) := by decide +kernel
theorem dX8_result_57 : decode bX8_result 57 = .ok (.aload_n 0, 1) := by decide +kernel
theorem dX8_result_58 : decode bX8_result 58 = .ok (.iload 6, 2) := by decide +kernel
theorem dX8_result_60 : decode bX8_result 60 = .ok (.invokevirtual 117, 3) := by decide +kernel
theorem dX8_result_63 : decode bX8_result 63 = .ok (.ifCond .eq 16, 3) := by decide +kernel
theorem dX8_result_66 : decode bX8_result 66 = .ok (.iload 7, 2) := by decide +kernel
theorem dX8_result_68 : decode bX8_result 68 = .ok (.ifCond .eq 7, 3) := by decide +kernel
theorem dX8_result_71 : decode bX8_result 71 = .ok (.iconst 2, 1) := by decide +kernel
theorem dX8_result_72 : decode bX8_result 72 = .ok (.goto 8, 3) := by decide +kernel
theorem dX8_result_75 : decode bX8_result 75 = .ok (.iconst 0, 1) := by decide +kernel
theorem dX8_result_76 : decode bX8_result 76 = .ok (.goto 4, 3) := by decide +kernel
theorem dX8_result_79 : decode bX8_result 79 = .ok (.iconst 1, 1) := by decide +kernel
theorem dX8_result_80 : decode bX8_result 80 = .ok (.ireturn, 1) := by decide +kernel
theorem dX8_result_81 : decode bX8_result 81 = .ok (.aload_n 0, 1) := by decide +kernel
theorem dX8_result_82 : decode bX8_result 82 = .ok (.getfield 16, 3) := by decide +kernel
theorem dX8_result_85 : decode bX8_result 85 = .ok (.iload_n 2, 1) := by decide +kernel
theorem dX8_result_86 : decode bX8_result 86 = .ok (.baload, 1) := by decide +kernel
theorem dX8_result_87 : decode bX8_result 87 = .ok (.aload_n 0, 1) := by decide +kernel
theorem dX8_result_88 : decode bX8_result 88 = .ok (.getfield 16, 3) := by decide +kernel
theorem dX8_result_91 : decode bX8_result 91 = .ok (.iload_n 3, 1) := by decide +kernel
theorem dX8_result_92 : decode bX8_result 92 = .ok (.baload, 1) := by decide +kernel
theorem dX8_result_93 : decode bX8_result 93 = .ok (.if_icmp .eq 7, 3) := by decide +kernel
theorem dX8_result_96 : decode bX8_result 96 = .ok (.iconst 1, 1) := by decide +kernel
theorem dX8_result_97 : decode bX8_result 97 = .ok (.goto 4, 3) := by decide +kernel
theorem dX8_result_100 : decode bX8_result 100 = .ok (.iconst 0, 1) := by decide +kernel
theorem dX8_result_101 : decode bX8_result 101 = .ok (.istore 7, 2) := by decide +kernel
theorem dX8_result_103 : decode bX8_result 103 = .ok (.iload_n 1, 1) := by decide +kernel
theorem dX8_result_104 : decode bX8_result 104 = .ok (.iconst 2, 1) := by decide +kernel
theorem dX8_result_105 : decode bX8_result 105 = .ok (.if_icmp .ne 36, 3) := by decide +kernel
theorem dX8_result_108 : decode bX8_result 108 = .ok (.aload_n 0, 1) := by decide +kernel
theorem dX8_result_109 : decode bX8_result 109 = .ok (.iload_n 2, 1) := by decide +kernel
theorem dX8_result_110 : decode bX8_result 110 = .ok (.iload_n 3, 1) := by decide +kernel
theorem dX8_result_111 : decode bX8_result 111 = .ok (.invokevirtual 120, 3) := by decide +kernel
theorem dX8_result_114 : decode bX8_result 114 = .ok (.aload_n 0, 1) := by decide +kernel
theorem dX8_result_115 : decode bX8_result 115 = .ok (.iload 4, 2) := by decide +kernel
theorem dX8_result_117 : decode bX8_result 117 = .ok (.iload 5, 2) := by decide +kernel
theorem dX8_result_119 : decode bX8_result 119 = .ok (.iadd, 1) := by decide +kernel
theorem dX8_result_120 : decode bX8_result 120 = .ok (.invokevirtual 117, 3) := by decide +kernel
theorem dX8_result_123 : decode bX8_result 123 = .ok (.ifCond .eq 16, 3) := by decide +kernel
theorem dX8_result_126 : decode bX8_result 126 = .ok (.iload 7, 2) := by decide +kernel
theorem dX8_result_128 : decode bX8_result 128 = .ok (.ifCond .eq 7, 3) := by decide +kernel
theorem dX8_result_131 : decode bX8_result 131 = .ok (.iconst 2, 1) := by decide +kernel
theorem dX8_result_132 : decode bX8_result 132 = .ok (.goto 8, 3) := by decide +kernel
theorem dX8_result_135 : decode bX8_result 135 = .ok (.iconst 0, 1) := by decide +kernel
theorem dX8_result_136 : decode bX8_result 136 = .ok (.goto 4, 3) := by decide +kernel
theorem dX8_result_139 : decode bX8_result 139 = .ok (.iconst 1, 1) := by decide +kernel
theorem dX8_result_140 : decode bX8_result 140 = .ok (.ireturn, 1) := by decide +kernel
theorem dX8_result_141 : decode bX8_result 141 = .ok (.aload_n 0, 1) := by decide +kernel
theorem dX8_result_142 : decode bX8_result 142 = .ok (.iload_n 2, 1) := by decide +kernel
theorem dX8_result_143 : decode bX8_result 143 = .ok (.aload_n 0, 1) := by decide +kernel
theorem dX8_result_144 : decode bX8_result 144 = .ok (.getfield 30, 3) := by decide +kernel
theorem dX8_result_147 : decode bX8_result 147 = .ok (.invokevirtual 89, 3) := by decide +kernel
theorem dX8_result_150 : decode bX8_result 150 = .ok (.aload_n 0, 1) := by decide +kernel
theorem dX8_result_151 : decode bX8_result 151 = .ok (.getfield 30, 3) := by decide +kernel
theorem dX8_result_154 : decode bX8_result 154 = .ok (.iload 5, 2) := by decide +kernel
theorem dX8_result_156 : decode bX8_result 156 = .ok (.invokestatic 63, 3) := by decide +kernel
theorem dX8_result_159 : decode bX8_result 159 = .ok (.aload_n 0, 1) := by decide +kernel
theorem dX8_result_160 : decode bX8_result 160 = .ok (.iload_n 3, 1) := by decide +kernel
theorem dX8_result_161 : decode bX8_result 161 = .ok (.aload_n 0, 1) := by decide +kernel
theorem dX8_result_162 : decode bX8_result 162 = .ok (.getfield 33, 3) := by decide +kernel
theorem dX8_result_165 : decode bX8_result 165 = .ok (.invokevirtual 89, 3) := by decide +kernel
theorem dX8_result_168 : decode bX8_result 168 = .ok (.aload_n 0, 1) := by decide +kernel
theorem dX8_result_169 : decode bX8_result 169 = .ok (.getfield 33, 3) := by decide +kernel
theorem dX8_result_172 : decode bX8_result 172 = .ok (.iload 4, 2) := by decide +kernel
theorem dX8_result_174 : decode bX8_result 174 = .ok (.invokestatic 63, 3) := by decide +kernel
theorem dX8_result_177 : decode bX8_result 177 = .ok (.aload_n 0, 1) := by decide +kernel
theorem dX8_result_178 : decode bX8_result 178 = .ok (.getfield 33, 3) := by decide +kernel
theorem dX8_result_181 : decode bX8_result 181 = .ok (.invokestatic 77, 3) := by decide +kernel
theorem dX8_result_184 : decode bX8_result 184 = .ok (.ifCond .eq 5, 3) := by decide +kernel
theorem dX8_result_187 : decode bX8_result 187 = .ok (.iconst 1, 1) := by decide +kernel
theorem dX8_result_188 : decode bX8_result 188 = .ok (.ireturn, 1) := by decide +kernel
theorem dX8_result_189 : decode bX8_result 189 = .ok (.iload_n 1, 1) := by decide +kernel
theorem dX8_result_190 : decode bX8_result 190 = .ok (.iconst 3, 1) := by decide +kernel
theorem dX8_result_191 : decode bX8_result 191 = .ok (.if_icmp .ne 50, 3) := by decide +kernel
theorem dX8_result_194 : decode bX8_result 194 = .ok (.aload_n 0, 1) := by decide +kernel
theorem dX8_result_195 : decode bX8_result 195 = .ok (.iload 4, 2) := by decide +kernel
theorem dX8_result_197 : decode bX8_result 197 = .ok (.iload 5, 2) := by decide +kernel
theorem dX8_result_199 : decode bX8_result 199 = .ok (.if_icmp .le 11, 3) := by decide +kernel
theorem dX8_result_202 : decode bX8_result 202 = .ok (.iload 4, 2) := by decide +kernel
theorem dX8_result_204 : decode bX8_result 204 = .ok (.iload 5, 2) := by decide +kernel
theorem dX8_result_206 : decode bX8_result 206 = .ok (.isub, 1) := by decide +kernel
theorem dX8_result_207 : decode bX8_result 207 = .ok (.goto 4, 3) := by decide +kernel
theorem dX8_result_210 : decode bX8_result 210 = .ok (.iconst 0, 1) := by decide +kernel
theorem dX8_result_211 : decode bX8_result 211 = .ok (.invokevirtual 124, 3) := by decide +kernel
theorem dX8_result_214 : decode bX8_result 214 = .ok (.ifCond .ne 12, 3) := by decide +kernel
theorem dX8_result_217 : decode bX8_result 217 = .ok (.aload_n 0, 1) := by decide +kernel
theorem dX8_result_218 : decode bX8_result 218 = .ok (.bipush 28, 2) := by decide +kernel
theorem dX8_result_220 : decode bX8_result 220 = .ok (.invokevirtual 117, 3) := by decide +kernel
theorem dX8_result_223 : decode bX8_result 223 = .ok (.ifCond .eq 16, 3) := by decide +kernel
theorem dX8_result_226 : decode bX8_result 226 = .ok (.iload 7, 2) := by decide +kernel
theorem dX8_result_228 : decode bX8_result 228 = .ok (.ifCond .eq 7, 3) := by decide +kernel
theorem dX8_result_231 : decode bX8_result 231 = .ok (.iconst 2, 1) := by decide +kernel
theorem dX8_result_232 : decode bX8_result 232 = .ok (.goto 8, 3) := by decide +kernel
theorem dX8_result_235 : decode bX8_result 235 = .ok (.iconst 0, 1) := by decide +kernel
theorem dX8_result_236 : decode bX8_result 236 = .ok (.goto 4, 3) := by decide +kernel
theorem dX8_result_239 : decode bX8_result 239 = .ok (.iconst 1, 1) := by decide +kernel
theorem dX8_result_240 : decode bX8_result 240 = .ok (.ireturn, 1) := by decide +kernel
theorem dX8_result_241 : decode bX8_result 241 = .ok (.aload_n 0, 1) := by decide +kernel
theorem dX8_result_242 : decode bX8_result 242 = .ok (.iload_n 2, 1) := by decide +kernel
theorem dX8_result_243 : decode bX8_result 243 = .ok (.aload_n 0, 1) := by decide +kernel
theorem dX8_result_244 : decode bX8_result 244 = .ok (.getfield 36, 3) := by decide +kernel
theorem dX8_result_247 : decode bX8_result 247 = .ok (.invokevirtual 89, 3) := by decide +kernel
theorem dX8_result_250 : decode bX8_result 250 = .ok (.aload_n 0, 1) := by decide +kernel
theorem dX8_result_251 : decode bX8_result 251 = .ok (.getfield 36, 3) := by decide +kernel
theorem dX8_result_254 : decode bX8_result 254 = .ok (.iload 6, 2) := by decide +kernel
theorem dX8_result_256 : decode bX8_result 256 = .ok (.iload 4, 2) := by decide +kernel
theorem dX8_result_258 : decode bX8_result 258 = .ok (.isub, 1) := by decide +kernel
theorem dX8_result_259 : decode bX8_result 259 = .ok (.invokestatic 63, 3) := by decide +kernel
theorem dX8_result_262 : decode bX8_result 262 = .ok (.aload_n 0, 1) := by decide +kernel
theorem dX8_result_263 : decode bX8_result 263 = .ok (.iload_n 3, 1) := by decide +kernel
theorem dX8_result_264 : decode bX8_result 264 = .ok (.aload_n 0, 1) := by decide +kernel
theorem dX8_result_265 : decode bX8_result 265 = .ok (.getfield 33, 3) := by decide +kernel
theorem dX8_result_268 : decode bX8_result 268 = .ok (.invokevirtual 89, 3) := by decide +kernel
theorem dX8_result_271 : decode bX8_result 271 = .ok (.aload_n 0, 1) := by decide +kernel
theorem dX8_result_272 : decode bX8_result 272 = .ok (.getfield 33, 3) := by decide +kernel
theorem dX8_result_275 : decode bX8_result 275 = .ok (.iload 6, 2) := by decide +kernel
theorem dX8_result_277 : decode bX8_result 277 = .ok (.iload 5, 2) := by decide +kernel
theorem dX8_result_279 : decode bX8_result 279 = .ok (.isub, 1) := by decide +kernel
theorem dX8_result_280 : decode bX8_result 280 = .ok (.invokestatic 63, 3) := by decide +kernel
theorem dX8_result_283 : decode bX8_result 283 = .ok (.aload_n 0, 1) := by decide +kernel
theorem dX8_result_284 : decode bX8_result 284 = .ok (.invokevirtual 97, 3) := by decide +kernel
theorem dX8_result_287 : decode bX8_result 287 = .ok (.aload_n 0, 1) := by decide +kernel
theorem dX8_result_288 : decode bX8_result 288 = .ok (.getfield 42, 3) := by decide +kernel
theorem dX8_result_291 : decode bX8_result 291 = .ok (.aload_n 0, 1) := by decide +kernel
theorem dX8_result_292 : decode bX8_result 292 = .ok (.getfield 39, 3) := by decide +kernel
theorem dX8_result_295 : decode bX8_result 295 = .ok (.invokestatic 74, 3) := by decide +kernel
theorem dX8_result_298 : decode bX8_result 298 = .ok (.aload_n 0, 1) := by decide +kernel
theorem dX8_result_299 : decode bX8_result 299 = .ok (.iload 6, 2) := by decide +kernel
theorem dX8_result_301 : decode bX8_result 301 = .ok (.putfield 107, 3) := by decide +kernel
theorem dX8_result_304 : decode bX8_result 304 = .ok (.aload_n 0, 1) := by decide +kernel
theorem dX8_result_305 : decode bX8_result 305 = .ok (.getfield 16, 3) := by decide +kernel
theorem dX8_result_308 : decode bX8_result 308 = .ok (.iload_n 2, 1) := by decide +kernel
theorem dX8_result_309 : decode bX8_result 309 = .ok (.baload, 1) := by decide +kernel
theorem dX8_result_310 : decode bX8_result 310 = .ok (.ifCond .eq 7, 3) := by decide +kernel
theorem dX8_result_313 : decode bX8_result 313 = .ok (.iconst 2, 1) := by decide +kernel
theorem dX8_result_314 : decode bX8_result 314 = .ok (.goto 4, 3) := by decide +kernel
theorem dX8_result_317 : decode bX8_result 317 = .ok (.iconst 0, 1) := by decide +kernel
theorem dX8_result_318 : decode bX8_result 318 = .ok (.ireturn, 1) := by decide +kernel
abbrev bX8_wrong : ByteArray := prog_10_method_29_code
def yX8_wrong : MethodName := ⟨"WideDecimalDeskModel", "wrong", "(IIII)Z"⟩
def wsX8_wrong : List Cond := Cond.code yX8_wrong bX8_wrong 4 (some .boolean) :: wsA
theorem dc_X8_wrong : yX8_wrong.cls ≠ "java/lang/invoke/MethodHandle" ∧ yX8_wrong.cls ≠ "java/lang/invoke/VarHandle" ∧ (parseMethodDescriptor yX8_wrong.desc).map (fun d => d.parameters.length) = some 4 := by decide +kernel
theorem dX8_wrong_0 : decode bX8_wrong 0 = .ok (.iload_n 0, 1) := by decide +kernel
theorem dX8_wrong_1 : decode bX8_wrong 1 = .ok (.ifCond .lt 29, 3) := by decide +kernel
theorem dX8_wrong_4 : decode bX8_wrong 4 = .ok (.iload_n 0, 1) := by decide +kernel
theorem dX8_wrong_5 : decode bX8_wrong 5 = .ok (.iconst 4, 1) := by decide +kernel
theorem dX8_wrong_6 : decode bX8_wrong 6 = .ok (.if_icmp .gt 24, 3) := by decide +kernel
theorem dX8_wrong_9 : decode bX8_wrong 9 = .ok (.iload_n 1, 1) := by decide +kernel
theorem dX8_wrong_10 : decode bX8_wrong 10 = .ok (.invokestatic 81, 3) := by decide +kernel
theorem dX8_wrong_13 : decode bX8_wrong 13 = .ok (.ifCond .eq 17, 3) := by decide +kernel
theorem dX8_wrong_16 : decode bX8_wrong 16 = .ok (.iload_n 2, 1) := by decide +kernel
theorem dX8_wrong_17 : decode bX8_wrong 17 = .ok (.invokestatic 81, 3) := by decide +kernel
theorem dX8_wrong_20 : decode bX8_wrong 20 = .ok (.ifCond .eq 10, 3) := by decide +kernel
theorem dX8_wrong_23 : decode bX8_wrong 23 = .ok (.iload_n 3, 1) := by decide +kernel
theorem dX8_wrong_24 : decode bX8_wrong 24 = .ok (.invokestatic 81, 3) := by decide +kernel
theorem dX8_wrong_27 : decode bX8_wrong 27 = .ok (.ifCond .ne 7, 3) := by decide +kernel
theorem dX8_wrong_30 : decode bX8_wrong 30 = .ok (.iconst 1, 1) := by decide +kernel
theorem dX8_wrong_31 : decode bX8_wrong 31 = .ok (.goto 4, 3) := by decide +kernel
theorem dX8_wrong_34 : decode bX8_wrong 34 = .ok (.iconst 0, 1) := by decide +kernel
theorem dX8_wrong_35 : decode bX8_wrong 35 = .ok (.ireturn, 1) := by decide +kernel
abbrev bX8_type : ByteArray := prog_10_method_35_code
def yX8_type : MethodName := ⟨"WideDecimalDeskModel", "type", "(C)Z"⟩
def wsX8_type : List Cond := Cond.code yX8_type bX8_type 2 (some .boolean) :: wsA
theorem dc_X8_type : yX8_type.cls ≠ "java/lang/invoke/MethodHandle" ∧ yX8_type.cls ≠ "java/lang/invoke/VarHandle" ∧ (parseMethodDescriptor yX8_type.desc).map (fun d => d.parameters.length) = some 1 := by decide +kernel
theorem dX8_type_0 : decode bX8_type 0 = .ok (.aload_n 0, 1) := by decide +kernel
theorem dX8_type_1 : decode bX8_type 1 = .ok (.iconst 0, 1) := by decide +kernel
theorem dX8_type_2 : decode bX8_type 2 = .ok (.putfield 52, 3) := by decide +kernel
theorem dX8_type_5 : decode bX8_type 5 = .ok (.iload_n 1, 1) := by decide +kernel
theorem dX8_type_6 : decode bX8_type 6 = .ok (.bipush 32, 2) := by decide +kernel
theorem dX8_type_8 : decode bX8_type 8 = .ok (.if_icmp .lt 18, 3) := by decide +kernel
theorem dX8_type_11 : decode bX8_type 11 = .ok (.iload_n 1, 1) := by decide +kernel
theorem dX8_type_12 : decode bX8_type 12 = .ok (.bipush 126, 2) := by decide +kernel
theorem dX8_type_14 : decode bX8_type 14 = .ok (.if_icmp .gt 12, 3) := by decide +kernel
theorem dX8_type_17 : decode bX8_type 17 = .ok (.aload_n 0, 1) := by decide +kernel
theorem dX8_type_18 : decode bX8_type 18 = .ok (.getfield 139, 3) := by decide +kernel
theorem dX8_type_21 : decode bX8_type 21 = .ok (.bipush 40, 2) := by decide +kernel
theorem dX8_type_23 : decode bX8_type 23 = .ok (.if_icmp .ne 5, 3) := by decide +kernel
theorem dX8_type_26 : decode bX8_type 26 = .ok (.iconst 0, 1) := by decide +kernel
theorem dX8_type_27 : decode bX8_type 27 = .ok (.ireturn, 1) := by decide +kernel
theorem dX8_type_28 : decode bX8_type 28 = .ok (.aload_n 0, 1) := by decide +kernel
theorem dX8_type_29 : decode bX8_type 29 = .ok (.getfield 20, 3) := by decide +kernel
theorem dX8_type_32 : decode bX8_type 32 = .ok (.aload_n 0, 1) := by decide +kernel
theorem dX8_type_33 : decode bX8_type 33 = .ok (.getfield 139, 3) := by decide +kernel
theorem dX8_type_36 : decode bX8_type 36 = .ok (.iload_n 1, 1) := by decide +kernel
theorem dX8_type_37 : decode bX8_type 37 = .ok (.castore, 1) := by decide +kernel
theorem dX8_type_38 : decode bX8_type 38 = .ok (.aload_n 0, 1) := by decide +kernel
theorem dX8_type_39 : decode bX8_type 39 = .ok (.dup, 1) := by decide +kernel
theorem dX8_type_40 : decode bX8_type 40 = .ok (.getfield 139, 3) := by decide +kernel
theorem dX8_type_43 : decode bX8_type 43 = .ok (.iconst 1, 1) := by decide +kernel
theorem dX8_type_44 : decode bX8_type 44 = .ok (.iadd, 1) := by decide +kernel
theorem dX8_type_45 : decode bX8_type 45 = .ok (.putfield 139, 3) := by decide +kernel
theorem dX8_type_48 : decode bX8_type 48 = .ok (.iconst 1, 1) := by decide +kernel
theorem dX8_type_49 : decode bX8_type 49 = .ok (.ireturn, 1) := by decide +kernel
abbrev bX8_clear : ByteArray := prog_10_method_36_code
def yX8_clear : MethodName := ⟨"WideDecimalDeskModel", "clear", "()V"⟩
def wsX8_clear : List Cond := Cond.code yX8_clear bX8_clear 1 none :: wsA
theorem dc_X8_clear : yX8_clear.cls ≠ "java/lang/invoke/MethodHandle" ∧ yX8_clear.cls ≠ "java/lang/invoke/VarHandle" ∧ (parseMethodDescriptor yX8_clear.desc).map (fun d => d.parameters.length) = some 0 := by decide +kernel
theorem dX8_clear_0 : decode bX8_clear 0 = .ok (.aload_n 0, 1) := by decide +kernel
theorem dX8_clear_1 : decode bX8_clear 1 = .ok (.iconst 0, 1) := by decide +kernel
theorem dX8_clear_2 : decode bX8_clear 2 = .ok (.putfield 52, 3) := by decide +kernel
theorem dX8_clear_5 : decode bX8_clear 5 = .ok (.aload_n 0, 1) := by decide +kernel
theorem dX8_clear_6 : decode bX8_clear 6 = .ok (.iconst 0, 1) := by decide +kernel
theorem dX8_clear_7 : decode bX8_clear 7 = .ok (.putfield 139, 3) := by decide +kernel
theorem dX8_clear_10 : decode bX8_clear 10 = .ok (.return_, 1) := by decide +kernel
abbrev bX8_isDigit : ByteArray := prog_10_method_37_code
def yX8_isDigit : MethodName := ⟨"WideDecimalDeskModel", "isDigit", "(C)Z"⟩
def wsX8_isDigit : List Cond := Cond.code yX8_isDigit bX8_isDigit 1 (some .boolean) :: wsA
theorem dc_X8_isDigit : yX8_isDigit.cls ≠ "java/lang/invoke/MethodHandle" ∧ yX8_isDigit.cls ≠ "java/lang/invoke/VarHandle" ∧ (parseMethodDescriptor yX8_isDigit.desc).map (fun d => d.parameters.length) = some 1 := by decide +kernel
theorem dX8_isDigit_0 : decode bX8_isDigit 0 = .ok (.iload_n 0, 1) := by decide +kernel
theorem dX8_isDigit_1 : decode bX8_isDigit 1 = .ok (.bipush 48, 2) := by decide +kernel
theorem dX8_isDigit_3 : decode bX8_isDigit 3 = .ok (.if_icmp .lt 13, 3) := by decide +kernel
theorem dX8_isDigit_6 : decode bX8_isDigit 6 = .ok (.iload_n 0, 1) := by decide +kernel
theorem dX8_isDigit_7 : decode bX8_isDigit 7 = .ok (.bipush 57, 2) := by decide +kernel
theorem dX8_isDigit_9 : decode bX8_isDigit 9 = .ok (.if_icmp .gt 7, 3) := by decide +kernel
theorem dX8_isDigit_12 : decode bX8_isDigit 12 = .ok (.iconst 1, 1) := by decide +kernel
theorem dX8_isDigit_13 : decode bX8_isDigit 13 = .ok (.goto 4, 3) := by decide +kernel
theorem dX8_isDigit_16 : decode bX8_isDigit 16 = .ok (.iconst 0, 1) := by decide +kernel
theorem dX8_isDigit_17 : decode bX8_isDigit 17 = .ok (.ireturn, 1) := by decide +kernel
abbrev bX8_write : ByteArray := prog_10_method_39_code
def yX8_write : MethodName := ⟨"WideDecimalDeskModel", "write", "(C)V"⟩
def wsX8_write : List Cond := Cond.code yX8_write bX8_write 2 none :: wsA
theorem dc_X8_write : yX8_write.cls ≠ "java/lang/invoke/MethodHandle" ∧ yX8_write.cls ≠ "java/lang/invoke/VarHandle" ∧ (parseMethodDescriptor yX8_write.desc).map (fun d => d.parameters.length) = some 1 := by decide +kernel
theorem dX8_write_0 : decode bX8_write 0 = .ok (.aload_n 0, 1) := by decide +kernel
theorem dX8_write_1 : decode bX8_write 1 = .ok (.getfield 24, 3) := by decide +kernel
theorem dX8_write_4 : decode bX8_write 4 = .ok (.aload_n 0, 1) := by decide +kernel
theorem dX8_write_5 : decode bX8_write 5 = .ok (.getfield 146, 3) := by decide +kernel
theorem dX8_write_8 : decode bX8_write 8 = .ok (.iload_n 1, 1) := by decide +kernel
theorem dX8_write_9 : decode bX8_write 9 = .ok (.castore, 1) := by decide +kernel
theorem dX8_write_10 : decode bX8_write 10 = .ok (.aload_n 0, 1) := by decide +kernel
theorem dX8_write_11 : decode bX8_write 11 = .ok (.dup, 1) := by decide +kernel
theorem dX8_write_12 : decode bX8_write 12 = .ok (.getfield 146, 3) := by decide +kernel
theorem dX8_write_15 : decode bX8_write 15 = .ok (.iconst 1, 1) := by decide +kernel
theorem dX8_write_16 : decode bX8_write 16 = .ok (.iadd, 1) := by decide +kernel
theorem dX8_write_17 : decode bX8_write 17 = .ok (.putfield 146, 3) := by decide +kernel
theorem dX8_write_20 : decode bX8_write 20 = .ok (.return_, 1) := by decide +kernel
abbrev bX8_slot : ByteArray := prog_10_method_41_code
def yX8_slot : MethodName := ⟨"WideDecimalDeskModel", "slot", "(C)Z"⟩
def wsX8_slot : List Cond := Cond.code yX8_slot bX8_slot 1 (some .boolean) :: wsA
theorem dc_X8_slot : yX8_slot.cls ≠ "java/lang/invoke/MethodHandle" ∧ yX8_slot.cls ≠ "java/lang/invoke/VarHandle" ∧ (parseMethodDescriptor yX8_slot.desc).map (fun d => d.parameters.length) = some 1 := by decide +kernel
theorem dX8_slot_0 : decode bX8_slot 0 = .ok (.iload_n 0, 1) := by decide +kernel
theorem dX8_slot_1 : decode bX8_slot 1 = .ok (.bipush 48, 2) := by decide +kernel
theorem dX8_slot_3 : decode bX8_slot 3 = .ok (.if_icmp .eq 9, 3) := by decide +kernel
theorem dX8_slot_6 : decode bX8_slot 6 = .ok (.iload_n 0, 1) := by decide +kernel
theorem dX8_slot_7 : decode bX8_slot 7 = .ok (.bipush 35, 2) := by decide +kernel
theorem dX8_slot_9 : decode bX8_slot 9 = .ok (.if_icmp .ne 7, 3) := by decide +kernel
theorem dX8_slot_12 : decode bX8_slot 12 = .ok (.iconst 1, 1) := by decide +kernel
theorem dX8_slot_13 : decode bX8_slot 13 = .ok (.goto 4, 3) := by decide +kernel
theorem dX8_slot_16 : decode bX8_slot 16 = .ok (.iconst 0, 1) := by decide +kernel
theorem dX8_slot_17 : decode bX8_slot 17 = .ok (.ireturn, 1) := by decide +kernel
abbrev bX8_text : ByteArray := prog_10_method_43_code
def yX8_text : MethodName := ⟨"WideDecimalDeskModel", "text", "(I)C"⟩
def wsX8_text : List Cond := Cond.code yX8_text bX8_text 2 (some .char) :: wsA
theorem dc_X8_text : yX8_text.cls ≠ "java/lang/invoke/MethodHandle" ∧ yX8_text.cls ≠ "java/lang/invoke/VarHandle" ∧ (parseMethodDescriptor yX8_text.desc).map (fun d => d.parameters.length) = some 1 := by decide +kernel
theorem dX8_text_0 : decode bX8_text 0 = .ok (.iload_n 1, 1) := by decide +kernel
theorem dX8_text_1 : decode bX8_text 1 = .ok (.aload_n 0, 1) := by decide +kernel
theorem dX8_text_2 : decode bX8_text 2 = .ok (.getfield 139, 3) := by decide +kernel
theorem dX8_text_5 : decode bX8_text 5 = .ok (.if_icmp .ge 12, 3) := by decide +kernel
theorem dX8_text_8 : decode bX8_text 8 = .ok (.aload_n 0, 1) := by decide +kernel
theorem dX8_text_9 : decode bX8_text 9 = .ok (.getfield 20, 3) := by decide +kernel
theorem dX8_text_12 : decode bX8_text 12 = .ok (.iload_n 1, 1) := by decide +kernel
theorem dX8_text_13 : decode bX8_text 13 = .ok (.caload, 1) := by decide +kernel
theorem dX8_text_14 : decode bX8_text 14 = .ok (.goto 5, 3) := by decide +kernel
theorem dX8_text_17 : decode bX8_text 17 = .ok (.bipush 32, 2) := by decide +kernel
theorem dX8_text_19 : decode bX8_text 19 = .ok (.ireturn, 1) := by decide +kernel
abbrev bX8_any : ByteArray := prog_10_method_44_code
def yX8_any : MethodName := ⟨"WideDecimalDeskModel", "any", "(I)I"⟩
def wsX8_any : List Cond := Cond.code yX8_any bX8_any 4 (some .int) :: wsA
theorem dc_X8_any : yX8_any.cls ≠ "java/lang/invoke/MethodHandle" ∧ yX8_any.cls ≠ "java/lang/invoke/VarHandle" ∧ (parseMethodDescriptor yX8_any.desc).map (fun d => d.parameters.length) = some 1 := by decide +kernel
theorem dX8_any_0 : decode bX8_any 0 = .ok (.iconst 0, 1) := by decide +kernel
theorem dX8_any_1 : decode bX8_any 1 = .ok (.istore_n 2, 1) := by decide +kernel
theorem dX8_any_2 : decode bX8_any 2 = .ok (.iconst 0, 1) := by decide +kernel
theorem dX8_any_3 : decode bX8_any 3 = .ok (.istore_n 3, 1) := by decide +kernel
theorem dX8_any_4 : decode bX8_any 4 = .ok (.iload_n 3, 1) := by decide +kernel
theorem dX8_any_5 : decode bX8_any 5 = .ok (.iload_n 1, 1) := by decide +kernel
theorem dX8_any_6 : decode bX8_any 6 = .ok (.if_icmp .ge 29, 3) := by decide +kernel
theorem dX8_any_9 : decode bX8_any 9 = .ok (.iload_n 2, 1) := by decide +kernel
theorem dX8_any_10 : decode bX8_any 10 = .ok (.aload_n 0, 1) := by decide +kernel
theorem dX8_any_11 : decode bX8_any 11 = .ok (.getfield 20, 3) := by decide +kernel
theorem dX8_any_14 : decode bX8_any 14 = .ok (.iload_n 3, 1) := by decide +kernel
theorem dX8_any_15 : decode bX8_any 15 = .ok (.caload, 1) := by decide +kernel
theorem dX8_any_16 : decode bX8_any 16 = .ok (.invokestatic 153, 3) := by decide +kernel
theorem dX8_any_19 : decode bX8_any 19 = .ok (.ifCond .eq 7, 3) := by decide +kernel
theorem dX8_any_22 : decode bX8_any 22 = .ok (.iconst 1, 1) := by decide +kernel
theorem dX8_any_23 : decode bX8_any 23 = .ok (.goto 4, 3) := by decide +kernel
theorem dX8_any_26 : decode bX8_any 26 = .ok (.iconst 0, 1) := by decide +kernel
theorem dX8_any_27 : decode bX8_any 27 = .ok (.iadd, 1) := by decide +kernel
theorem dX8_any_28 : decode bX8_any 28 = .ok (.istore_n 2, 1) := by decide +kernel
theorem dX8_any_29 : decode bX8_any 29 = .ok (.iinc 3 1, 3) := by decide +kernel
theorem dX8_any_32 : decode bX8_any 32 = .ok (.goto (-28), 3) := by decide +kernel
theorem dX8_any_35 : decode bX8_any 35 = .ok (.iload_n 2, 1) := by decide +kernel
theorem dX8_any_36 : decode bX8_any 36 = .ok (.ireturn, 1) := by decide +kernel
abbrev bX8_at : ByteArray := prog_10_method_47_code
def yX8_at : MethodName := ⟨"WideDecimalDeskModel", "at", "(I)I"⟩
def wsX8_at : List Cond := Cond.code yX8_at bX8_at 2 (some .int) :: wsA
theorem dc_X8_at : yX8_at.cls ≠ "java/lang/invoke/MethodHandle" ∧ yX8_at.cls ≠ "java/lang/invoke/VarHandle" ∧ (parseMethodDescriptor yX8_at.desc).map (fun d => d.parameters.length) = some 1 := by decide +kernel
theorem dX8_at_0 : decode bX8_at 0 = .ok (.aload_n 0, 1) := by decide +kernel
theorem dX8_at_1 : decode bX8_at 1 = .ok (.iconst 0, 1) := by decide +kernel
theorem dX8_at_2 : decode bX8_at 2 = .ok (.putfield 52, 3) := by decide +kernel
theorem dX8_at_5 : decode bX8_at 5 = .ok (.iload_n 1, 1) := by decide +kernel
theorem dX8_at_6 : decode bX8_at 6 = .ok (.ifCond .lt 20, 3) := by decide +kernel
theorem dX8_at_9 : decode bX8_at 9 = .ok (.iload_n 1, 1) := by decide +kernel
theorem dX8_at_10 : decode bX8_at 10 = .ok (.aload_n 0, 1) := by decide +kernel
theorem dX8_at_11 : decode bX8_at 11 = .ok (.getfield 146, 3) := by decide +kernel
theorem dX8_at_14 : decode bX8_at 14 = .ok (.if_icmp .ge 12, 3) := by decide +kernel
theorem dX8_at_17 : decode bX8_at 17 = .ok (.aload_n 0, 1) := by decide +kernel
theorem dX8_at_18 : decode bX8_at 18 = .ok (.getfield 24, 3) := by decide +kernel
theorem dX8_at_21 : decode bX8_at 21 = .ok (.iload_n 1, 1) := by decide +kernel
theorem dX8_at_22 : decode bX8_at 22 = .ok (.caload, 1) := by decide +kernel
theorem dX8_at_23 : decode bX8_at 23 = .ok (.goto 4, 3) := by decide +kernel
theorem dX8_at_26 : decode bX8_at 26 = .ok (.iconst (-1), 1) := by decide +kernel
theorem dX8_at_27 : decode bX8_at 27 = .ok (.ireturn, 1) := by decide +kernel
