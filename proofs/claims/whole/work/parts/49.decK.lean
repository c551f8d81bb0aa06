abbrev bX7_init : ByteArray := prog_1_method_1_code
def yX7_init : MethodName := ⟨"WideDecimalDesk", "<init>", "()V"⟩
def wsX7_init : List Cond := Cond.code yX7_init bX7_init 2 none :: wsA
theorem dc_X7_init : yX7_init.cls ≠ "java/lang/invoke/MethodHandle" ∧ yX7_init.cls ≠ "java/lang/invoke/VarHandle" ∧ (parseMethodDescriptor yX7_init.desc).map (fun d => d.parameters.length) = some 0 := by decide +kernel
theorem dX7_init_0 : decode bX7_init 0 = .ok (.aload_n 0, 1) := by decide +kernel
theorem dX7_init_1 : decode bX7_init 1 = .ok (.invokespecial 1, 3) := by decide +kernel
theorem dX7_init_4 : decode bX7_init 4 = .ok (.aload_n 0, 1) := by decide +kernel
theorem dX7_init_5 : decode bX7_init 5 = .ok (.bipush 6, 2) := by decide +kernel
theorem dX7_init_7 : decode bX7_init 7 = .ok (.anewarray 9, 3) := by decide +kernel
theorem dX7_init_10 : decode bX7_init 10 = .ok (.putfield 11, 3) := by decide +kernel
theorem dX7_init_13 : decode bX7_init 13 = .ok (.iconst 0, 1) := by decide +kernel
theorem dX7_init_14 : decode bX7_init 14 = .ok (.istore_n 1, 1) := by decide +kernel
theorem dX7_init_15 : decode bX7_init 15 = .ok (.iload_n 1, 1) := by decide +kernel
theorem dX7_init_16 : decode bX7_init 16 = .ok (.bipush 6, 2) := by decide +kernel
theorem dX7_init_18 : decode bX7_init 18 = .ok (.if_icmp .ge 22, 3) := by decide +kernel
theorem dX7_init_21 : decode bX7_init 21 = .ok (.aload_n 0, 1) := by decide +kernel
theorem dX7_init_22 : decode bX7_init 22 = .ok (.getfield 11, 3) := by decide +kernel
theorem dX7_init_25 : decode bX7_init 25 = .ok (.iload_n 1, 1) := by decide +kernel
theorem dX7_init_26 : decode bX7_init 26 = .ok (.new 9, 3) := by decide +kernel
theorem dX7_init_29 : decode bX7_init 29 = .ok (.dup, 1) := by decide +kernel
theorem dX7_init_30 : decode bX7_init 30 = .ok (.invokespecial 15, 3) := by decide +kernel
theorem dX7_init_33 : decode bX7_init 33 = .ok (.aastore, 1) := by decide +kernel
theorem dX7_init_34 : decode bX7_init 34 = .ok (.iinc 1 1, 3) := by decide +kernel
theorem dX7_init_37 : decode bX7_init 37 = .ok (.goto (-22), 3) := by decide +kernel
theorem dX7_init_40 : decode bX7_init 40 = .ok (.aload_n 0, 1) := by decide +kernel
theorem dX7_init_41 : decode bX7_init 41 = .ok (.new 16, 3) := by decide +kernel
theorem dX7_init_44 : decode bX7_init 44 = .ok (.dup, 1) := by decide +kernel
theorem dX7_init_45 : decode bX7_init 45 = .ok (.bipush 40, 2) := by decide +kernel
theorem dX7_init_47 : decode bX7_init 47 = .ok (.invokespecial 18, 3) := by decide +kernel
theorem dX7_init_50 : decode bX7_init 50 = .ok (.putfield 21, 3) := by decide +kernel
theorem dX7_init_53 : decode bX7_init 53 = .ok (.aload_n 0, 1) := by decide +kernel
theorem dX7_init_54 : decode bX7_init 54 = .ok (.new 16, 3) := by decide +kernel
theorem dX7_init_57 : decode bX7_init 57 = .ok (.dup, 1) := by decide +kernel
theorem dX7_init_58 : decode bX7_init 58 = .ok (.bipush 80, 2) := by decide +kernel
theorem dX7_init_60 : decode bX7_init 60 = .ok (.invokespecial 18, 3) := by decide +kernel
theorem dX7_init_63 : decode bX7_init 63 = .ok (.putfield 25, 3) := by decide +kernel
theorem dX7_init_66 : decode bX7_init 66 = .ok (.aload_n 0, 1) := by decide +kernel
theorem dX7_init_67 : decode bX7_init 67 = .ok (.new 28, 3) := by decide +kernel
theorem dX7_init_70 : decode bX7_init 70 = .ok (.dup, 1) := by decide +kernel
theorem dX7_init_71 : decode bX7_init 71 = .ok (.invokespecial 30, 3) := by decide +kernel
theorem dX7_init_74 : decode bX7_init 74 = .ok (.putfield 31, 3) := by decide +kernel
theorem dX7_init_77 : decode bX7_init 77 = .ok (.aload_n 0, 1) := by decide +kernel
theorem dX7_init_78 : decode bX7_init 78 = .ok (.new 28, 3) := by decide +kernel
theorem dX7_init_81 : decode bX7_init 81 = .ok (.dup, 1) := by decide +kernel
theorem dX7_init_82 : decode bX7_init 82 = .ok (.invokespecial 30, 3) := by decide +kernel
theorem dX7_init_85 : decode bX7_init 85 = .ok (.putfield 35, 3) := by decide +kernel
theorem dX7_init_88 : decode bX7_init 88 = .ok (.aload_n 0, 1) := by decide +kernel
theorem dX7_init_89 : decode bX7_init 89 = .ok (.new 38, 3) := by decide +kernel
theorem dX7_init_92 : decode bX7_init 92 = .ok (.dup, 1) := by decide +kernel
theorem dX7_init_93 : decode bX7_init 93 = .ok (.invokespecial 40, 3) := by decide +kernel
theorem dX7_init_96 : decode bX7_init 96 = .ok (.putfield 41, 3) := by decide +kernel
theorem dX7_init_99 : decode bX7_init 99 = .ok (.aload_n 0, 1) := by decide +kernel
theorem dX7_init_100 : decode bX7_init 100 = .ok (.new 45, 3) := by decide +kernel
theorem dX7_init_103 : decode bX7_init 103 = .ok (.dup, 1) := by decide +kernel
theorem dX7_init_104 : decode bX7_init 104 = .ok (.invokespecial 47, 3) := by decide +kernel
theorem dX7_init_107 : decode bX7_init 107 = .ok (.putfield 48, 3) := by decide +kernel
theorem dX7_init_110 : decode bX7_init 110 = .ok (.aload_n 0, 1) := by decide +kernel
theorem dX7_init_111 : decode bX7_init 111 = .ok (.new 52, 3) := by decide +kernel
theorem dX7_init_114 : decode bX7_init 114 = .ok (.dup, 1) := by decide +kernel
theorem dX7_init_115 : decode bX7_init 115 = .ok (.invokespecial 54, 3) := by decide +kernel
theorem dX7_init_118 : decode bX7_init 118 = .ok (.putfield 55, 3) := by decide +kernel
theorem dX7_init_121 : decode bX7_init 121 = .ok (.aload_n 0, 1) := by decide +kernel
theorem dX7_init_122 : decode bX7_init 122 = .ok (.new 59, 3) := by decide +kernel
theorem dX7_init_125 : decode bX7_init 125 = .ok (.dup, 1) := by decide +kernel
theorem dX7_init_126 : decode bX7_init 126 = .ok (.invokespecial 61, 3) := by decide +kernel
theorem dX7_init_129 : decode bX7_init 129 = .ok (.putfield 62, 3) := by decide +kernel
theorem dX7_init_132 : decode bX7_init 132 = .ok (.return_, 1) := by decide +kernel
abbrev bX7_set : ByteArray := prog_1_method_2_code
def yX7_set : MethodName := ⟨"WideDecimalDesk", "set", "(IJIIZ)V"⟩
def wsX7_set : List Cond := Cond.code yX7_set bX7_set 7 none :: wsA
theorem dc_X7_set : yX7_set.cls ≠ "java/lang/invoke/MethodHandle" ∧ yX7_set.cls ≠ "java/lang/invoke/VarHandle" ∧ (parseMethodDescriptor yX7_set.desc).map (fun d => d.parameters.length) = some 5 := by decide +kernel
theorem dX7_set_0 : decode bX7_set 0 = .ok (.iload_n 1, 1) := by decide +kernel
theorem dX7_set_1 : decode bX7_set 1 = .ok (.invokestatic 66, 3) := by decide +kernel
theorem dX7_set_4 : decode bX7_set 4 = .ok (.ifCond .eq 11, 3) := by decide +kernel
theorem dX7_set_7 : decode bX7_set 7 = .ok (.iload 5, 2) := by decide +kernel
theorem dX7_set_9 : decode bX7_set 9 = .ok (.invokestatic 70, 3) := by decide +kernel
theorem dX7_set_12 : decode bX7_set 12 = .ok (.ifCond .ne 13, 3) := by decide +kernel
theorem dX7_set_15 : decode bX7_set 15 = .ok (.new 73, 3) := by decide +kernel
theorem dX7_set_18 : decode bX7_set 18 = .ok (.dup, 1) := by decide +kernel
theorem dX7_set_19 : decode bX7_set 19 = .ok (.ldc 75, 2) := by decide +kernel
theorem dX7_set_21 : decode bX7_set 21 = .ok (.invokespecial 77, 3) := by decide +kernel
theorem dX7_set_24 : decode bX7_set 24 = .ok (.athrow, 1) := by decide +kernel
theorem dX7_set_25 : decode bX7_set 25 = .ok (.aload_n 0, 1) := by decide +kernel
theorem dX7_set_26 : decode bX7_set 26 = .ok (.getfield 11, 3) := by decide +kernel
theorem dX7_set_29 : decode bX7_set 29 = .ok (.iload_n 1, 1) := by decide +kernel
theorem dX7_set_30 : decode bX7_set 30 = .ok (.aaload, 1) := by decide +kernel
theorem dX7_set_31 : decode bX7_set 31 = .ok (.lload_n 2, 1) := by decide +kernel
theorem dX7_set_32 : decode bX7_set 32 = .ok (.iload 4, 2) := by decide +kernel
theorem dX7_set_34 : decode bX7_set 34 = .ok (.iload 5, 2) := by decide +kernel
theorem dX7_set_36 : decode bX7_set 36 = .ok (.iload 6, 2) := by decide +kernel
theorem dX7_set_38 : decode bX7_set 38 = .ok (.invokevirtual 80, 3) := by decide +kernel
theorem dX7_set_41 : decode bX7_set 41 = .ok (.return_, 1) := by decide +kernel
abbrev bX7_low : ByteArray := prog_1_method_3_code
def yX7_low : MethodName := ⟨"WideDecimalDesk", "low", "(I)J"⟩
def wsX7_low : List Cond := Cond.code yX7_low bX7_low 2 (some .long) :: wsA
theorem dc_X7_low : yX7_low.cls ≠ "java/lang/invoke/MethodHandle" ∧ yX7_low.cls ≠ "java/lang/invoke/VarHandle" ∧ (parseMethodDescriptor yX7_low.desc).map (fun d => d.parameters.length) = some 1 := by decide +kernel
theorem dX7_low_0 : decode bX7_low 0 = .ok (.iload_n 1, 1) := by decide +kernel
theorem dX7_low_1 : decode bX7_low 1 = .ok (.invokestatic 66, 3) := by decide +kernel
theorem dX7_low_4 : decode bX7_low 4 = .ok (.ifCond .eq 15, 3) := by decide +kernel
theorem dX7_low_7 : decode bX7_low 7 = .ok (.aload_n 0, 1) := by decide +kernel
theorem dX7_low_8 : decode bX7_low 8 = .ok (.getfield 11, 3) := by decide +kernel
theorem dX7_low_11 : decode bX7_low 11 = .ok (.iload_n 1, 1) := by decide +kernel
theorem dX7_low_12 : decode bX7_low 12 = .ok (.aaload, 1) := by decide +kernel
theorem dX7_low_13 : decode bX7_low 13 = .ok (.getfield 84, 3) := by decide +kernel
theorem dX7_low_16 : decode bX7_low 16 = .ok (.goto 4, 3) := by decide +kernel
theorem dX7_low_19 : decode bX7_low 19 = .ok (.lconst 0, 1) := by decide +kernel
theorem dX7_low_20 : decode bX7_low 20 = .ok (.lreturn, 1) := by decide +kernel
abbrev bX7_high : ByteArray := prog_1_method_4_code
def yX7_high : MethodName := ⟨"WideDecimalDesk", "high", "(I)I"⟩
def wsX7_high : List Cond := Cond.code yX7_high bX7_high 2 (some .int) :: wsA
theorem dc_X7_high : yX7_high.cls ≠ "java/lang/invoke/MethodHandle" ∧ yX7_high.cls ≠ "java/lang/invoke/VarHandle" ∧ (parseMethodDescriptor yX7_high.desc).map (fun d => d.parameters.length) = some 1 := by decide +kernel
theorem dX7_high_0 : decode bX7_high 0 = .ok (.iload_n 1, 1) := by decide +kernel
theorem dX7_high_1 : decode bX7_high 1 = .ok (.invokestatic 66, 3) := by decide +kernel
theorem dX7_high_4 : decode bX7_high 4 = .ok (.ifCond .eq 15, 3) := by decide +kernel
theorem dX7_high_7 : decode bX7_high 7 = .ok (.aload_n 0, 1) := by decide +kernel
theorem dX7_high_8 : decode bX7_high 8 = .ok (.getfield 11, 3) := by decide +kernel
theorem dX7_high_11 : decode bX7_high 11 = .ok (.iload_n 1, 1) := by decide +kernel
theorem dX7_high_12 : decode bX7_high 12 = .ok (.aaload, 1) := by decide +kernel
theorem dX7_high_13 : decode bX7_high 13 = .ok (.getfield 88, 3) := by decide +kernel
theorem dX7_high_16 : decode bX7_high 16 = .ok (.goto 4, 3) := by decide +kernel
theorem dX7_high_19 : decode bX7_high 19 = .ok (.iconst 0, 1) := by decide +kernel
theorem dX7_high_20 : decode bX7_high 20 = .ok (.ireturn, 1) := by decide +kernel
abbrev bX7_scale : ByteArray := prog_1_method_5_code
def yX7_scale : MethodName := ⟨"WideDecimalDesk", "scale", "(I)I"⟩
def wsX7_scale : List Cond := Cond.code yX7_scale bX7_scale 2 (some .int) :: wsA
theorem dc_X7_scale : yX7_scale.cls ≠ "java/lang/invoke/MethodHandle" ∧ yX7_scale.cls ≠ "java/lang/invoke/VarHandle" ∧ (parseMethodDescriptor yX7_scale.desc).map (fun d => d.parameters.length) = some 1 := by decide +kernel
theorem dX7_scale_0 : decode bX7_scale 0 = .ok (.iload_n 1, 1) := by decide +kernel
theorem dX7_scale_1 : decode bX7_scale 1 = .ok (.invokestatic 66, 3) := by decide +kernel
theorem dX7_scale_4 : decode bX7_scale 4 = .ok (.ifCond .eq 15, 3) := by decide +kernel
theorem dX7_scale_7 : decode bX7_scale 7 = .ok (.aload_n 0, 1) := by decide +kernel
theorem dX7_scale_8 : decode bX7_scale 8 = .ok (.getfield 11, 3) := by decide +kernel
theorem dX7_scale_11 : decode bX7_scale 11 = .ok (.iload_n 1, 1) := by decide +kernel
theorem dX7_scale_12 : decode bX7_scale 12 = .ok (.aaload, 1) := by decide +kernel
theorem dX7_scale_13 : decode bX7_scale 13 = .ok (.getfield 92, 3) := by decide +kernel
theorem dX7_scale_16 : decode bX7_scale 16 = .ok (.goto 4, 3) := by decide +kernel
theorem dX7_scale_19 : decode bX7_scale 19 = .ok (.iconst (-1), 1) := by decide +kernel
theorem dX7_scale_20 : decode bX7_scale 20 = .ok (.ireturn, 1) := by decide +kernel
abbrev bX7_negative : ByteArray := prog_1_method_6_code
def yX7_negative : MethodName := ⟨"WideDecimalDesk", "negative", "(I)Z"⟩
def wsX7_negative : List Cond := Cond.code yX7_negative bX7_negative 2 (some .boolean) :: wsA
theorem dc_X7_negative : yX7_negative.cls ≠ "java/lang/invoke/MethodHandle" ∧ yX7_negative.cls ≠ "java/lang/invoke/VarHandle" ∧ (parseMethodDescriptor yX7_negative.desc).map (fun d => d.parameters.length) = some 1 := by decide +kernel
theorem dX7_negative_0 : decode bX7_negative 0 = .ok (.iload_n 1, 1) := by decide +kernel
theorem dX7_negative_1 : decode bX7_negative 1 = .ok (.invokestatic 66, 3) := by decide +kernel
theorem dX7_negative_4 : decode bX7_negative 4 = .ok (.ifCond .eq 19, 3) := by decide +kernel
theorem dX7_negative_7 : decode bX7_negative 7 = .ok (.aload_n 0, 1) := by decide +kernel
theorem dX7_negative_8 : decode bX7_negative 8 = .ok (.getfield 11, 3) := by decide +kernel
theorem dX7_negative_11 : decode bX7_negative 11 = .ok (.iload_n 1, 1) := by decide +kernel
theorem dX7_negative_12 : decode bX7_negative 12 = .ok (.aaload, 1) := by decide +kernel
theorem dX7_negative_13 : decode bX7_negative 13 = .ok (.getfield 95, 3) := by decide +kernel
theorem dX7_negative_16 : decode bX7_negative 16 = .ok (.ifCond .eq 7, 3) := by decide +kernel
theorem dX7_negative_19 : decode bX7_negative 19 = .ok (.iconst 1, 1) := by decide +kernel
theorem dX7_negative_20 : decode bX7_negative 20 = .ok (.goto 4, 3) := by decide +kernel
theorem dX7_negative_23 : decode bX7_negative 23 = .ok (.iconst 0, 1) := by decide +kernel
theorem dX7_negative_24 : decode bX7_negative 24 = .ok (.ireturn, 1) := by decide +kernel
abbrev bX7_compute : ByteArray := prog_1_method_7_code
def yX7_compute : MethodName := ⟨"WideDecimalDesk", "compute", "(IIII)V"⟩
def wsX7_compute : List Cond := Cond.code yX7_compute bX7_compute 5 none :: wsA
theorem dc_X7_compute : yX7_compute.cls ≠ "java/lang/invoke/MethodHandle" ∧ yX7_compute.cls ≠ "java/lang/invoke/VarHandle" ∧ (parseMethodDescriptor yX7_compute.desc).map (fun d => d.parameters.length) = some 4 := by decide +kernel
theorem dX7_compute_0 : decode bX7_compute 0 = .ok (.iload_n 1, 1) := by decide +kernel
theorem dX7_compute_1 : decode bX7_compute 1 = .ok (.iload_n 2, 1) := by decide +kernel
theorem dX7_compute_2 : decode bX7_compute 2 = .ok (.iload_n 3, 1) := by decide +kernel
theorem dX7_compute_3 : decode bX7_compute 3 = .ok (.iload 4, 2) := by decide +kernel
theorem dX7_compute_5 : decode bX7_compute 5 = .ok (.invokestatic 99, 3) := by decide +kernel
theorem dX7_compute_8 : decode bX7_compute 8 = .ok (.ifCond .ne 13, 3) := by decide +kernel
theorem dX7_compute_11 : decode bX7_compute 11 = .ok (.new 73, 3) := by decide +kernel
theorem dX7_compute_14 : decode bX7_compute 14 = .ok (.dup, 1) := by decide +kernel
theorem dX7_compute_15 : decode bX7_compute 15 = .ok (.ldc 103, 2) := by decide +kernel
theorem dX7_compute_17 : decode bX7_compute 17 = .ok (.invokespecial 77, 3) := by decide +kernel
theorem dX7_compute_20 : decode bX7_compute 20 = .ok (.athrow, 1) := by decide +kernel
theorem dX7_compute_21 : decode bX7_compute 21 = .ok (.aload_n 0, 1) := by decide +kernel
theorem dX7_compute_22 : decode bX7_compute 22 = .ok (.iload_n 1, 1) := by decide +kernel
theorem dX7_compute_23 : decode bX7_compute 23 = .ok (.aload_n 0, 1) := by decide +kernel
theorem dX7_compute_24 : decode bX7_compute 24 = .ok (.getfield 11, 3) := by decide +kernel
theorem dX7_compute_27 : decode bX7_compute 27 = .ok (.iload_n 3, 1) := by decide +kernel
theorem dX7_compute_28 : decode bX7_compute 28 = .ok (.aaload, 1) := by decide +kernel
theorem dX7_compute_29 : decode bX7_compute 29 = .ok (.aload_n 0, 1) := by decide +kernel
theorem dX7_compute_30 : decode bX7_compute 30 = .ok (.getfield 11, 3) := by decide +kernel
theorem dX7_compute_33 : decode bX7_compute 33 = .ok (.iload 4, 2) := by decide +kernel
theorem dX7_compute_35 : decode bX7_compute 35 = .ok (.aaload, 1) := by decide +kernel
theorem dX7_compute_36 : decode bX7_compute 36 = .ok (.invokevirtual 105, 3) := by decide +kernel
theorem dX7_compute_39 : decode bX7_compute 39 = .ok (.ifCond .ne 13, 3) := by decide +kernel
theorem dX7_compute_42 : decode bX7_compute 42 = .ok (.new 109, 3) := by decide +kernel
theorem dX7_compute_45 : decode bX7_compute 45 = .ok (.dup, 1) := by decide +kernel
theorem dX7_compute_46 : decode bX7_compute 46 = .ok (.ldc 111, 2) := by decide +kernel
theorem dX7_compute_48 : decode bX7_compute 48 = .ok (.invokespecial 113, 3) := by decide +kernel
theorem dX7_compute_51 : decode bX7_compute 51 = .ok (.athrow, 1) := by decide +kernel
theorem dX7_compute_52 : decode bX7_compute 52 = .ok (.aload_n 0, 1) := by decide +kernel
theorem dX7_compute_53 : decode bX7_compute 53 = .ok (.getfield 31, 3) := by decide +kernel
theorem dX7_compute_56 : decode bX7_compute 56 = .ok (.aload_n 0, 1) := by decide +kernel
theorem dX7_compute_57 : decode bX7_compute 57 = .ok (.getfield 11, 3) := by decide +kernel
theorem dX7_compute_60 : decode bX7_compute 60 = .ok (.iload_n 2, 1) := by decide +kernel
theorem dX7_compute_61 : decode bX7_compute 61 = .ok (.aaload, 1) := by decide +kernel
theorem dX7_compute_62 : decode bX7_compute 62 = .ok (.invokevirtual 114, 3) := by decide +kernel
theorem dX7_compute_65 : decode bX7_compute 65 = .ok (.return_, 1) := by decide +kernel
abbrev bX7_attempt : ByteArray := prog_1_method_8_code
def yX7_attempt : MethodName := ⟨"WideDecimalDesk", "attempt", "(IIII)Z"⟩
def wsX7_attempt : List Cond := Cond.code yX7_attempt bX7_attempt 5 (some .boolean) :: wsA
theorem dc_X7_attempt : yX7_attempt.cls ≠ "java/lang/invoke/MethodHandle" ∧ yX7_attempt.cls ≠ "java/lang/invoke/VarHandle" ∧ (parseMethodDescriptor yX7_attempt.desc).map (fun d => d.parameters.length) = some 4 := by decide +kernel
theorem dX7_attempt_0 : decode bX7_attempt 0 = .ok (.iload_n 1, 1) := by decide +kernel
theorem dX7_attempt_1 : decode bX7_attempt 1 = .ok (.iload_n 2, 1) := by decide +kernel
theorem dX7_attempt_2 : decode bX7_attempt 2 = .ok (.iload_n 3, 1) := by decide +kernel
theorem dX7_attempt_3 : decode bX7_attempt 3 = .ok (.iload 4, 2) := by decide +kernel
theorem dX7_attempt_5 : decode bX7_attempt 5 = .ok (.invokestatic 99, 3) := by decide +kernel
theorem dX7_attempt_8 : decode bX7_attempt 8 = .ok (.ifCond .eq 24, 3) := by decide +kernel
theorem dX7_attempt_11 : decode bX7_attempt 11 = .ok (.aload_n 0, 1) := by decide +kernel
theorem dX7_attempt_12 : decode bX7_attempt 12 = .ok (.iload_n 1, 1) := by decide +kernel
theorem dX7_attempt_13 : decode bX7_attempt 13 = .ok (.aload_n 0, 1) := by decide +kernel
theorem dX7_attempt_14 : decode bX7_attempt 14 = .ok (.getfield 11, 3) := by decide +kernel
theorem dX7_attempt_17 : decode bX7_attempt 17 = .ok (.iload_n 3, 1) := by decide +kernel
theorem dX7_attempt_18 : decode bX7_attempt 18 = .ok (.aaload, 1) := by decide +kernel
theorem dX7_attempt_19 : decode bX7_attempt 19 = .ok (.aload_n 0, 1) := by decide +kernel
theorem dX7_attempt_20 : decode bX7_attempt 20 = .ok (.getfield 11, 3) := by decide +kernel
theorem dX7_attempt_23 : decode bX7_attempt 23 = .ok (.iload 4, 2) := by decide +kernel
theorem dX7_attempt_25 : decode bX7_attempt 25 = .ok (.aaload, 1) := by decide +kernel
theorem dX7_attempt_26 : decode bX7_attempt 26 = .ok (.invokevirtual 105, 3) := by decide +kernel
theorem dX7_attempt_29 : decode bX7_attempt 29 = .ok (.ifCond .ne 5, 3) := by decide +kernel
theorem dX7_attempt_32 : decode bX7_attempt 32 = .ok (.iconst 0, 1) := by decide +kernel
theorem dX7_attempt_33 : decode bX7_attempt 33 = .ok (.ireturn, 1) := by decide +kernel
theorem dX7_attempt_34 : decode bX7_attempt 34 = .ok (.aload_n 0, 1) := by decide +kernel
theorem dX7_attempt_35 : decode bX7_attempt 35 = .ok (.getfield 31, 3) := by decide +kernel
theorem dX7_attempt_38 : decode bX7_attempt 38 = .ok (.aload_n 0, 1) := by decide +kernel
theorem dX7_attempt_39 : decode bX7_attempt 39 = .ok (.getfield 11, 3) := by decide +kernel
theorem dX7_attempt_42 : decode bX7_attempt 42 = .ok (.iload_n 2, 1) := by decide +kernel
theorem dX7_attempt_43 : decode bX7_attempt 43 = .ok (.aaload, 1) := by decide +kernel
theorem dX7_attempt_44 : decode bX7_attempt 44 = .ok (.invokevirtual 114, 3) := by decide +kernel
theorem dX7_attempt_47 : decode bX7_attempt 47 = .ok (.iconst 1, 1) := by decide +kernel
theorem dX7_attempt_48 : decode bX7_attempt 48 = .ok (.ireturn, 1) := by decide +kernel
abbrev bX7_round : ByteArray := prog_1_method_9_code
def yX7_round : MethodName := ⟨"WideDecimalDesk", "round", "(IIII)V"⟩
def wsX7_round : List Cond := Cond.code yX7_round bX7_round 5 none :: wsA
theorem dc_X7_round : yX7_round.cls ≠ "java/lang/invoke/MethodHandle" ∧ yX7_round.cls ≠ "java/lang/invoke/VarHandle" ∧ (parseMethodDescriptor yX7_round.desc).map (fun d => d.parameters.length) = some 4 := by decide +kernel
theorem dX7_round_0 : decode bX7_round 0 = .ok (.iload_n 1, 1) := by decide +kernel
theorem dX7_round_1 : decode bX7_round 1 = .ok (.invokestatic 66, 3) := by decide +kernel
theorem dX7_round_4 : decode bX7_round 4 = .ok (.ifCond .eq 25, 3) := by decide +kernel
theorem dX7_round_7 : decode bX7_round 7 = .ok (.iload_n 2, 1) := by decide +kernel
theorem dX7_round_8 : decode bX7_round 8 = .ok (.invokestatic 66, 3) := by decide +kernel
theorem dX7_round_11 : decode bX7_round 11 = .ok (.ifCond .eq 18, 3) := by decide +kernel
theorem dX7_round_14 : decode bX7_round 14 = .ok (.iload_n 3, 1) := by decide +kernel
theorem dX7_round_15 : decode bX7_round 15 = .ok (.invokestatic 70, 3) := by decide +kernel
theorem dX7_round_18 : decode bX7_round 18 = .ok (.ifCond .eq 11, 3) := by decide +kernel
theorem dX7_round_21 : decode bX7_round 21 = .ok (.iload 4, 2) := by decide +kernel
theorem dX7_round_23 : decode bX7_round 23 = .ok (.invokestatic 118, 3) := by decide +kernel
theorem dX7_round_26 : decode bX7_round 26 = .ok (.ifCond .ne 13, 3) := by decide +kernel
theorem dX7_round_29 : decode bX7_round 29 = .ok (.new 73, 3) := by decide +kernel
theorem dX7_round_32 : decode bX7_round 32 = .ok (.dup, 1) := by decide +kernel
theorem dX7_round_33 : decode bX7_round 33 = .ok (.ldc 121, 2) := by decide +kernel
theorem dX7_round_35 : decode bX7_round 35 = .ok (.invokespecial 77, 3) := by decide +kernel
theorem dX7_round_38 : decode bX7_round 38 = .ok (.athrow, 1) := by decide +kernel
theorem dX7_round_39 : decode bX7_round 39 = .ok (.aload_n 0, 1) := by decide +kernel
theorem dX7_round_40 : decode bX7_round 40 = .ok (.getfield 31, 3) := by decide +kernel
theorem dX7_round_43 : decode bX7_round 43 = .ok (.aload_n 0, 1) := by decide +kernel
theorem dX7_round_44 : decode bX7_round 44 = .ok (.getfield 11, 3) := by decide +kernel
theorem dX7_round_47 : decode bX7_round 47 = .ok (.iload_n 2, 1) := by decide +kernel
theorem dX7_round_48 : decode bX7_round 48 = .ok (.aaload, 1) := by decide +kernel
theorem dX7_round_49 : decode bX7_round 49 = .ok (.invokevirtual 123, 3) := by decide +kernel
theorem dX7_round_52 : decode bX7_round 52 = .ok (.aload_n 0, 1) := by decide +kernel
theorem dX7_round_53 : decode bX7_round 53 = .ok (.getfield 31, 3) := by decide +kernel
theorem dX7_round_56 : decode bX7_round 56 = .ok (.iload_n 3, 1) := by decide +kernel
theorem dX7_round_57 : decode bX7_round 57 = .ok (.iload 4, 2) := by decide +kernel
theorem dX7_round_59 : decode bX7_round 59 = .ok (.invokevirtual 126, 3) := by decide +kernel
theorem dX7_round_62 : decode bX7_round 62 = .ok (.aload_n 0, 1) := by decide +kernel
theorem dX7_round_63 : decode bX7_round 63 = .ok (.getfield 31, 3) := by decide +kernel
theorem dX7_round_66 : decode bX7_round 66 = .ok (.aload_n 0, 1) := by decide +kernel
theorem dX7_round_67 : decode bX7_round 67 = .ok (.getfield 11, 3) := by decide +kernel
theorem dX7_round_70 : decode bX7_round 70 = .ok (.iload_n 1, 1) := by decide +kernel
theorem dX7_round_71 : decode bX7_round 71 = .ok (.aaload, 1) := by decide +kernel
theorem dX7_round_72 : decode bX7_round 72 = .ok (.invokevirtual 114, 3) := by decide +kernel
theorem dX7_round_75 : decode bX7_round 75 = .ok (.return_, 1) := by decide +kernel
abbrev bX7_trim : ByteArray := prog_1_method_10_code
def yX7_trim : MethodName := ⟨"WideDecimalDesk", "trim", "(II)V"⟩
def wsX7_trim : List Cond := Cond.code yX7_trim bX7_trim 3 none :: wsA
theorem dc_X7_trim : yX7_trim.cls ≠ "java/lang/invoke/MethodHandle" ∧ yX7_trim.cls ≠ "java/lang/invoke/VarHandle" ∧ (parseMethodDescriptor yX7_trim.desc).map (fun d => d.parameters.length) = some 2 := by decide +kernel
theorem dX7_trim_0 : decode bX7_trim 0 = .ok (.iload_n 1, 1) := by decide +kernel
theorem dX7_trim_1 : decode bX7_trim 1 = .ok (.invokestatic 66, 3) := by decide +kernel
theorem dX7_trim_4 : decode bX7_trim 4 = .ok (.ifCond .eq 10, 3) := by decide +kernel
theorem dX7_trim_7 : decode bX7_trim 7 = .ok (.iload_n 2, 1) := by decide +kernel
theorem dX7_trim_8 : decode bX7_trim 8 = .ok (.invokestatic 66, 3) := by decide +kernel
theorem dX7_trim_11 : decode bX7_trim 11 = .ok (.ifCond .ne 13, 3) := by decide +kernel
theorem dX7_trim_14 : decode bX7_trim 14 = .ok (.new 73, 3) := by decide +kernel
theorem dX7_trim_17 : decode bX7_trim 17 = .ok (.dup, 1) := by decide +kernel
theorem dX7_trim_18 : decode bX7_trim 18 = .ok (.ldc 130, 2) := by decide +kernel
theorem dX7_trim_20 : decode bX7_trim 20 = .ok (.invokespecial 77, 3) := by decide +kernel
theorem dX7_trim_23 : decode bX7_trim 23 = .ok (.athrow, 1) := by decide +kernel
theorem dX7_trim_24 : decode bX7_trim 24 = .ok (.aload_n 0, 1) := by decide +kernel
theorem dX7_trim_25 : decode bX7_trim 25 = .ok (.getfield 31, 3) := by decide +kernel
theorem dX7_trim_28 : decode bX7_trim 28 = .ok (.aload_n 0, 1) := by decide +kernel
theorem dX7_trim_29 : decode bX7_trim 29 = .ok (.getfield 11, 3) := by decide +kernel
theorem dX7_trim_32 : decode bX7_trim 32 = .ok (.iload_n 2, 1) := by decide +kernel
theorem dX7_trim_33 : decode bX7_trim 33 = .ok (.aaload, 1) := by decide +kernel
theorem dX7_trim_34 : decode bX7_trim 34 = .ok (.invokevirtual 123, 3) := by decide +kernel
theorem dX7_trim_37 : decode bX7_trim 37 = .ok (.aload_n 0, 1) := by decide +kernel
theorem dX7_trim_38 : decode bX7_trim 38 = .ok (.getfield 31, 3) := by decide +kernel
theorem dX7_trim_41 : decode bX7_trim 41 = .ok (.invokevirtual 132, 3) := by decide +kernel
theorem dX7_trim_44 : decode bX7_trim 44 = .ok (.aload_n 0, 1) := by decide +kernel
theorem dX7_trim_45 : decode bX7_trim 45 = .ok (.getfield 31, 3) := by decide +kernel
theorem dX7_trim_48 : decode bX7_trim 48 = .ok (.aload_n 0, 1) := by decide +kernel
theorem dX7_trim_49 : decode bX7_trim 49 = .ok (.getfield 11, 3) := by decide +kernel
theorem dX7_trim_52 : decode bX7_trim 52 = .ok (.iload_n 1, 1) := by decide +kernel
theorem dX7_trim_53 : decode bX7_trim 53 = .ok (.aaload, 1) := by decide +kernel
theorem dX7_trim_54 : decode bX7_trim 54 = .ok (.invokevirtual 114, 3) := by decide +kernel
theorem dX7_trim_57 : decode bX7_trim 57 = .ok (.return_, 1) := by decide +kernel
abbrev bX7_compare : ByteArray := prog_1_method_11_code
def yX7_compare : MethodName := ⟨"WideDecimalDesk", "compare", "(II)I"⟩
def wsX7_compare : List Cond := Cond.code yX7_compare bX7_compare 3 (some .int) :: wsA
theorem dc_X7_compare : yX7_compare.cls ≠ "java/lang/invoke/MethodHandle" ∧ yX7_compare.cls ≠ "java/lang/invoke/VarHandle" ∧ (parseMethodDescriptor yX7_compare.desc).map (fun d => d.parameters.length) = some 2 := by decide +kernel
theorem dX7_compare_0 : decode bX7_compare 0 = .ok (.iload_n 1, 1) := by decide +kernel
theorem dX7_compare_1 : decode bX7_compare 1 = .ok (.invokestatic 66, 3) := by decide +kernel
theorem dX7_compare_4 : decode bX7_compare 4 = .ok (.ifCond .eq 10, 3) := by decide +kernel
theorem dX7_compare_7 : decode bX7_compare 7 = .ok (.iload_n 2, 1) := by decide +kernel
theorem dX7_compare_8 : decode bX7_compare 8 = .ok (.invokestatic 66, 3) := by decide +kernel
theorem dX7_compare_11 : decode bX7_compare 11 = .ok (.ifCond .ne 13, 3) := by decide +kernel
theorem dX7_compare_14 : decode bX7_compare 14 = .ok (.new 73, 3) := by decide +kernel
theorem dX7_compare_17 : decode bX7_compare 17 = .ok (.dup, 1) := by decide +kernel
theorem dX7_compare_18 : decode bX7_compare 18 = .ok (.ldc 130, 2) := by decide +kernel
theorem dX7_compare_20 : decode bX7_compare 20 = .ok (.invokespecial 77, 3) := by decide +kernel
theorem dX7_compare_23 : decode bX7_compare 23 = .ok (.athrow, 1) := by decide +kernel
theorem dX7_compare_24 : decode bX7_compare 24 = .ok (.aload_n 0, 1) := by decide +kernel
theorem dX7_compare_25 : decode bX7_compare 25 = .ok (.aload_n 0, 1) := by decide +kernel
theorem dX7_compare_26 : decode bX7_compare 26 = .ok (.getfield 11, 3) := by decide +kernel
theorem dX7_compare_29 : decode bX7_compare 29 = .ok (.iload_n 1, 1) := by decide +kernel
theorem dX7_compare_30 : decode bX7_compare 30 = .ok (.aaload, 1) := by decide +kernel
theorem dX7_compare_31 : decode bX7_compare 31 = .ok (.aload_n 0, 1) := by decide +kernel
theorem dX7_compare_32 : decode bX7_compare 32 = .ok (.getfield 11, 3) := by decide +kernel
theorem dX7_compare_35 : decode bX7_compare 35 = .ok (.iload_n 2, 1) := by decide +kernel
theorem dX7_compare_36 : decode bX7_compare 36 = .ok (.aaload, 1) := by decide +kernel
theorem dX7_compare_37 : decode bX7_compare 37 = .ok (.invokevirtual 135, 3) := by decide +kernel
theorem dX7_compare_40 : decode bX7_compare 40 = .ok (.aload_n 0, 1) := by decide +kernel
theorem dX7_compare_41 : decode bX7_compare 41 = .ok (.getfield 31, 3) := by decide +kernel
theorem dX7_compare_44 : decode bX7_compare 44 = .ok (.aload_n 0, 1) := by decide +kernel
theorem dX7_compare_45 : decode bX7_compare 45 = .ok (.getfield 35, 3) := by decide +kernel
theorem dX7_compare_48 : decode bX7_compare 48 = .ok (.invokevirtual 139, 3) := by decide +kernel
theorem dX7_compare_51 : decode bX7_compare 51 = .ok (.ireturn, 1) := by decide +kernel
abbrev bX7_type : ByteArray := prog_1_method_12_code
def yX7_type : MethodName := ⟨"WideDecimalDesk", "type", "(C)Z"⟩
def wsX7_type : List Cond := Cond.code yX7_type bX7_type 2 (some .boolean) :: wsA
theorem dc_X7_type : yX7_type.cls ≠ "java/lang/invoke/MethodHandle" ∧ yX7_type.cls ≠ "java/lang/invoke/VarHandle" ∧ (parseMethodDescriptor yX7_type.desc).map (fun d => d.parameters.length) = some 1 := by decide +kernel
theorem dX7_type_0 : decode bX7_type 0 = .ok (.iload_n 1, 1) := by decide +kernel
theorem dX7_type_1 : decode bX7_type 1 = .ok (.bipush 32, 2) := by decide +kernel
theorem dX7_type_3 : decode bX7_type 3 = .ok (.if_icmp .lt 24, 3) := by decide +kernel
theorem dX7_type_6 : decode bX7_type 6 = .ok (.iload_n 1, 1) := by decide +kernel
theorem dX7_type_7 : decode bX7_type 7 = .ok (.bipush 126, 2) := by decide +kernel
theorem dX7_type_9 : decode bX7_type 9 = .ok (.if_icmp .gt 18, 3) := by decide +kernel
theorem dX7_type_12 : decode bX7_type 12 = .ok (.aload_n 0, 1) := by decide +kernel
theorem dX7_type_13 : decode bX7_type 13 = .ok (.getfield 21, 3) := by decide +kernel
theorem dX7_type_16 : decode bX7_type 16 = .ok (.iload_n 1, 1) := by decide +kernel
theorem dX7_type_17 : decode bX7_type 17 = .ok (.invokevirtual 143, 3) := by decide +kernel
theorem dX7_type_20 : decode bX7_type 20 = .ok (.ifCond .eq 7, 3) := by decide +kernel
theorem dX7_type_23 : decode bX7_type 23 = .ok (.iconst 1, 1) := by decide +kernel
theorem dX7_type_24 : decode bX7_type 24 = .ok (.goto 4, 3) := by decide +kernel
theorem dX7_type_27 : decode bX7_type 27 = .ok (.iconst 0, 1) := by decide +kernel
theorem dX7_type_28 : decode bX7_type 28 = .ok (.ireturn, 1) := by decide +kernel
abbrev bX7_clear : ByteArray := prog_1_method_13_code
def yX7_clear : MethodName := ⟨"WideDecimalDesk", "clear", "()V"⟩
def wsX7_clear : List Cond := Cond.code yX7_clear bX7_clear 1 none :: wsA
theorem dc_X7_clear : yX7_clear.cls ≠ "java/lang/invoke/MethodHandle" ∧ yX7_clear.cls ≠ "java/lang/invoke/VarHandle" ∧ (parseMethodDescriptor yX7_clear.desc).map (fun d => d.parameters.length) = some 0 := by decide +kernel
theorem dX7_clear_0 : decode bX7_clear 0 = .ok (.aload_n 0, 1) := by decide +kernel
theorem dX7_clear_1 : decode bX7_clear 1 = .ok (.getfield 21, 3) := by decide +kernel
theorem dX7_clear_4 : decode bX7_clear 4 = .ok (.invokevirtual 147, 3) := by decide +kernel
theorem dX7_clear_7 : decode bX7_clear 7 = .ok (.return_, 1) := by decide +kernel
abbrev bX7_parse : ByteArray := prog_1_method_14_code
def yX7_parse : MethodName := ⟨"WideDecimalDesk", "parse", "(I)V"⟩
def wsX7_parse : List Cond := Cond.code yX7_parse bX7_parse 2 none :: wsA
theorem dc_X7_parse : yX7_parse.cls ≠ "java/lang/invoke/MethodHandle" ∧ yX7_parse.cls ≠ "java/lang/invoke/VarHandle" ∧ (parseMethodDescriptor yX7_parse.desc).map (fun d => d.parameters.length) = some 1 := by decide +kernel
theorem dX7_parse_0 : decode bX7_parse 0 = .ok (.iload_n 1, 1) := by decide +kernel
theorem dX7_parse_1 : decode bX7_parse 1 = .ok (.invokestatic 66, 3) := by decide +kernel
theorem dX7_parse_4 : decode bX7_parse 4 = .ok (.ifCond .ne 13, 3) := by decide +kernel
theorem dX7_parse_7 : decode bX7_parse 7 = .ok (.new 73, 3) := by decide +kernel
theorem dX7_parse_10 : decode bX7_parse 10 = .ok (.dup, 1) := by decide +kernel
theorem dX7_parse_11 : decode bX7_parse 11 = .ok (.ldc 150, 2) := by decide +kernel
theorem dX7_parse_13 : decode bX7_parse 13 = .ok (.invokespecial 77, 3) := by decide +kernel
theorem dX7_parse_16 : decode bX7_parse 16 = .ok (.athrow, 1) := by decide +kernel
theorem dX7_parse_17 : decode bX7_parse 17 = .ok (.aload_n 0, 1) := by decide +kernel
theorem dX7_parse_18 : decode bX7_parse 18 = .ok (.getfield 31, 3) := by decide +kernel
theorem dX7_parse_21 : decode bX7_parse 21 = .ok (.aload_n 0, 1) := by decide +kernel
theorem dX7_parse_22 : decode bX7_parse 22 = .ok (.getfield 21, 3) := by decide +kernel
theorem dX7_parse_25 : decode bX7_parse 25 = .ok (.invokevirtual 152, 3) := by decide +kernel
theorem dX7_parse_28 : decode bX7_parse 28 = .ok (.ifCond .ne 13, 3) := by decide +kernel
theorem dX7_parse_31 : decode bX7_parse 31 = .ok (.new 156, 3) := by decide +kernel
theorem dX7_parse_34 : decode bX7_parse 34 = .ok (.dup, 1) := by decide +kernel
theorem dX7_parse_35 : decode bX7_parse 35 = .ok (.ldc 158, 2) := by decide +kernel
theorem dX7_parse_37 : decode bX7_parse 37 = .ok (.invokespecial 160, 3) := by decide +kernel
theorem dX7_parse_40 : decode bX7_parse 40 = .ok (.athrow, 1) := by decide +kernel
theorem dX7_parse_41 : decode bX7_parse 41 = .ok (.aload_n 0, 1) := by decide +kernel
theorem dX7_parse_42 : decode bX7_parse 42 = .ok (.getfield 31, 3) := by decide +kernel
theorem dX7_parse_45 : decode bX7_parse 45 = .ok (.invokevirtual 161, 3) := by decide +kernel
theorem dX7_parse_48 : decode bX7_parse 48 = .ok (.ifCond .ne 13, 3) := by decide +kernel
theorem dX7_parse_51 : decode bX7_parse 51 = .ok (.new 109, 3) := by decide +kernel
theorem dX7_parse_54 : decode bX7_parse 54 = .ok (.dup, 1) := by decide +kernel
theorem dX7_parse_55 : decode bX7_parse 55 = .ok (.ldc 165, 2) := by decide +kernel
theorem dX7_parse_57 : decode bX7_parse 57 = .ok (.invokespecial 113, 3) := by decide +kernel
theorem dX7_parse_60 : decode bX7_parse 60 = .ok (.athrow, 1) := by decide +kernel
theorem dX7_parse_61 : decode bX7_parse 61 = .ok (.aload_n 0, 1) := by decide +kernel
theorem dX7_parse_62 : decode bX7_parse 62 = .ok (.getfield 31, 3) := by decide +kernel
theorem dX7_parse_65 : decode bX7_parse 65 = .ok (.aload_n 0, 1) := by decide +kernel
theorem dX7_parse_66 : decode bX7_parse 66 = .ok (.getfield 11, 3) := by decide +kernel
theorem dX7_parse_69 : decode bX7_parse 69 = .ok (.iload_n 1, 1) := by decide +kernel
theorem dX7_parse_70 : decode bX7_parse 70 = .ok (.aaload, 1) := by decide +kernel
theorem dX7_parse_71 : decode bX7_parse 71 = .ok (.invokevirtual 114, 3) := by decide +kernel
theorem dX7_parse_74 : decode bX7_parse 74 = .ok (.return_, 1) := by decide +kernel
abbrev bX7_show : ByteArray := prog_1_method_15_code
def yX7_show : MethodName := ⟨"WideDecimalDesk", "show", "(I)I"⟩
def wsX7_show : List Cond := Cond.code yX7_show bX7_show 2 (some .int) :: wsA
theorem dc_X7_show : yX7_show.cls ≠ "java/lang/invoke/MethodHandle" ∧ yX7_show.cls ≠ "java/lang/invoke/VarHandle" ∧ (parseMethodDescriptor yX7_show.desc).map (fun d => d.parameters.length) = some 1 := by decide +kernel
theorem dX7_show_0 : decode bX7_show 0 = .ok (.iload_n 1, 1) := by decide +kernel
theorem dX7_show_1 : decode bX7_show 1 = .ok (.invokestatic 66, 3) := by decide +kernel
theorem dX7_show_4 : decode bX7_show 4 = .ok (.ifCond .ne 13, 3) := by decide +kernel
theorem dX7_show_7 : decode bX7_show 7 = .ok (.new 73, 3) := by decide +kernel
theorem dX7_show_10 : decode bX7_show 10 = .ok (.dup, 1) := by decide +kernel
theorem dX7_show_11 : decode bX7_show 11 = .ok (.ldc 150, 2) := by decide +kernel
theorem dX7_show_13 : decode bX7_show 13 = .ok (.invokespecial 77, 3) := by decide +kernel
theorem dX7_show_16 : decode bX7_show 16 = .ok (.athrow, 1) := by decide +kernel
theorem dX7_show_17 : decode bX7_show 17 = .ok (.aload_n 0, 1) := by decide +kernel
theorem dX7_show_18 : decode bX7_show 18 = .ok (.getfield 31, 3) := by decide +kernel
theorem dX7_show_21 : decode bX7_show 21 = .ok (.aload_n 0, 1) := by decide +kernel
theorem dX7_show_22 : decode bX7_show 22 = .ok (.getfield 11, 3) := by decide +kernel
theorem dX7_show_25 : decode bX7_show 25 = .ok (.iload_n 1, 1) := by decide +kernel
theorem dX7_show_26 : decode bX7_show 26 = .ok (.aaload, 1) := by decide +kernel
theorem dX7_show_27 : decode bX7_show 27 = .ok (.invokevirtual 123, 3) := by decide +kernel
theorem dX7_show_30 : decode bX7_show 30 = .ok (.aload_n 0, 1) := by decide +kernel
theorem dX7_show_31 : decode bX7_show 31 = .ok (.invokevirtual 167, 3) := by decide +kernel
theorem dX7_show_34 : decode bX7_show 34 = .ok (.aload_n 0, 1) := by decide +kernel
theorem dX7_show_35 : decode bX7_show 35 = .ok (.getfield 25, 3) := by decide +kernel
theorem dX7_show_38 : decode bX7_show 38 = .ok (.getfield 170, 3) := by decide +kernel
theorem dX7_show_41 : decode bX7_show 41 = .ok (.ireturn, 1) := by decide +kernel
abbrev bX7_format : ByteArray := prog_1_method_16_code
def yX7_format : MethodName := ⟨"WideDecimalDesk", "format", "(I)I"⟩
def wsX7_format : List Cond := Cond.code yX7_format bX7_format 2 (some .int) :: wsA
theorem dc_X7_format : yX7_format.cls ≠ "java/lang/invoke/MethodHandle" ∧ yX7_format.cls ≠ "java/lang/invoke/VarHandle" ∧ (parseMethodDescriptor yX7_format.desc).map (fun d => d.parameters.length) = some 1 := by decide +kernel
theorem dX7_format_0 : decode bX7_format 0 = .ok (.iload_n 1, 1) := by decide +kernel
theorem dX7_format_1 : decode bX7_format 1 = .ok (.invokestatic 66, 3) := by decide +kernel
theorem dX7_format_4 : decode bX7_format 4 = .ok (.ifCond .ne 13, 3) := by decide +kernel
theorem dX7_format_7 : decode bX7_format 7 = .ok (.new 73, 3) := by decide +kernel
theorem dX7_format_10 : decode bX7_format 10 = .ok (.dup, 1) := by decide +kernel
theorem dX7_format_11 : decode bX7_format 11 = .ok (.ldc 150, 2) := by decide +kernel
theorem dX7_format_13 : decode bX7_format 13 = .ok (.invokespecial 77, 3) := by decide +kernel
theorem dX7_format_16 : decode bX7_format 16 = .ok (.athrow, 1) := by decide +kernel
theorem dX7_format_17 : decode bX7_format 17 = .ok (.aload_n 0, 1) := by decide +kernel
theorem dX7_format_18 : decode bX7_format 18 = .ok (.getfield 62, 3) := by decide +kernel
theorem dX7_format_21 : decode bX7_format 21 = .ok (.aload_n 0, 1) := by decide +kernel
theorem dX7_format_22 : decode bX7_format 22 = .ok (.getfield 21, 3) := by decide +kernel
theorem dX7_format_25 : decode bX7_format 25 = .ok (.invokevirtual 173, 3) := by decide +kernel
theorem dX7_format_28 : decode bX7_format 28 = .ok (.ifCond .ne 13, 3) := by decide +kernel
theorem dX7_format_31 : decode bX7_format 31 = .ok (.new 156, 3) := by decide +kernel
theorem dX7_format_34 : decode bX7_format 34 = .ok (.dup, 1) := by decide +kernel
theorem dX7_format_35 : decode bX7_format 35 = .ok (.ldc 174, 2) := by decide +kernel
theorem dX7_format_37 : decode bX7_format 37 = .ok (.invokespecial 160, 3) := by decide +kernel
theorem dX7_format_40 : decode bX7_format 40 = .ok (.athrow, 1) := by decide +kernel
theorem dX7_format_41 : decode bX7_format 41 = .ok (.aload_n 0, 1) := by decide +kernel
theorem dX7_format_42 : decode bX7_format 42 = .ok (.getfield 31, 3) := by decide +kernel
theorem dX7_format_45 : decode bX7_format 45 = .ok (.aload_n 0, 1) := by decide +kernel
theorem dX7_format_46 : decode bX7_format 46 = .ok (.getfield 11, 3) := by decide +kernel
theorem dX7_format_49 : decode bX7_format 49 = .ok (.iload_n 1, 1) := by decide +kernel
theorem dX7_format_50 : decode bX7_format 50 = .ok (.aaload, 1) := by decide +kernel
theorem dX7_format_51 : decode bX7_format 51 = .ok (.invokevirtual 123, 3) := by decide +kernel
theorem dX7_format_54 : decode bX7_format 54 = .ok (.aload_n 0, 1) := by decide +kernel
theorem dX7_format_55 : decode bX7_format 55 = .ok (.invokevirtual 176, 3) := by decide +kernel
theorem dX7_format_58 : decode bX7_format 58 = .ok (.aload_n 0, 1) := by decide +kernel
theorem dX7_format_59 : decode bX7_format 59 = .ok (.getfield 25, 3) := by decide +kernel
theorem dX7_format_62 : decode bX7_format 62 = .ok (.getfield 170, 3) := by decide +kernel
theorem dX7_format_65 : decode bX7_format 65 = .ok (.ireturn, 1) := by decide +kernel
abbrev bX7_at : ByteArray := prog_1_method_17_code
def yX7_at : MethodName := ⟨"WideDecimalDesk", "at", "(I)I"⟩
def wsX7_at : List Cond := Cond.code yX7_at bX7_at 2 (some .int) :: wsA
theorem dc_X7_at : yX7_at.cls ≠ "java/lang/invoke/MethodHandle" ∧ yX7_at.cls ≠ "java/lang/invoke/VarHandle" ∧ (parseMethodDescriptor yX7_at.desc).map (fun d => d.parameters.length) = some 1 := by decide +kernel
theorem dX7_at_0 : decode bX7_at 0 = .ok (.aload_n 0, 1) := by decide +kernel
theorem dX7_at_1 : decode bX7_at 1 = .ok (.getfield 25, 3) := by decide +kernel
theorem dX7_at_4 : decode bX7_at 4 = .ok (.iload_n 1, 1) := by decide +kernel
theorem dX7_at_5 : decode bX7_at 5 = .ok (.invokevirtual 179, 3) := by decide +kernel
theorem dX7_at_8 : decode bX7_at 8 = .ok (.ireturn, 1) := by decide +kernel
abbrev bX7_reuse : ByteArray := prog_1_method_18_code
def yX7_reuse : MethodName := ⟨"WideDecimalDesk", "reuse", "()Z"⟩
def wsX7_reuse : List Cond := Cond.code yX7_reuse bX7_reuse 2 (some .boolean) :: wsA
theorem dc_X7_reuse : yX7_reuse.cls ≠ "java/lang/invoke/MethodHandle" ∧ yX7_reuse.cls ≠ "java/lang/invoke/VarHandle" ∧ (parseMethodDescriptor yX7_reuse.desc).map (fun d => d.parameters.length) = some 0 := by decide +kernel
theorem dX7_reuse_0 : decode bX7_reuse 0 = .ok (.aload_n 0, 1) := by decide +kernel
theorem dX7_reuse_1 : decode bX7_reuse 1 = .ok (.getfield 25, 3) := by decide +kernel
theorem dX7_reuse_4 : decode bX7_reuse 4 = .ok (.getfield 170, 3) := by decide +kernel
theorem dX7_reuse_7 : decode bX7_reuse 7 = .ok (.bipush 40, 2) := by decide +kernel
theorem dX7_reuse_9 : decode bX7_reuse 9 = .ok (.if_icmp .le 5, 3) := by decide +kernel
theorem dX7_reuse_12 : decode bX7_reuse 12 = .ok (.iconst 0, 1) := by decide +kernel
theorem dX7_reuse_13 : decode bX7_reuse 13 = .ok (.ireturn, 1) := by decide +kernel
theorem dX7_reuse_14 : decode bX7_reuse 14 = .ok (.aload_n 0, 1) := by decide +kernel
theorem dX7_reuse_15 : decode bX7_reuse 15 = .ok (.getfield 21, 3) := by decide +kernel
theorem dX7_reuse_18 : decode bX7_reuse 18 = .ok (.invokevirtual 147, 3) := by decide +kernel
theorem dX7_reuse_21 : decode bX7_reuse 21 = .ok (.iconst 0, 1) := by decide +kernel
theorem dX7_reuse_22 : decode bX7_reuse 22 = .ok (.istore_n 1, 1) := by decide +kernel
theorem dX7_reuse_23 : decode bX7_reuse 23 = .ok (.iload_n 1, 1) := by decide +kernel
theorem dX7_reuse_24 : decode bX7_reuse 24 = .ok (.aload_n 0, 1) := by decide +kernel
theorem dX7_reuse_25 : decode bX7_reuse 25 = .ok (.getfield 25, 3) := by decide +kernel
theorem dX7_reuse_28 : decode bX7_reuse 28 = .ok (.getfield 170, 3) := by decide +kernel
theorem dX7_reuse_31 : decode bX7_reuse 31 = .ok (.if_icmp .ge 26, 3) := by decide +kernel
theorem dX7_reuse_34 : decode bX7_reuse 34 = .ok (.aload_n 0, 1) := by decide +kernel
theorem dX7_reuse_35 : decode bX7_reuse 35 = .ok (.getfield 21, 3) := by decide +kernel
theorem dX7_reuse_38 : decode bX7_reuse 38 = .ok (.aload_n 0, 1) := by decide +kernel
theorem dX7_reuse_39 : decode bX7_reuse 39 = .ok (.getfield 25, 3) := by decide +kernel
theorem dX7_reuse_42 : decode bX7_reuse 42 = .ok (.iload_n 1, 1) := by decide +kernel
theorem dX7_reuse_43 : decode bX7_reuse 43 = .ok (.invokevirtual 179, 3) := by decide +kernel
theorem dX7_reuse_46 : decode bX7_reuse 46 = .ok (.i2c, 1) := by decide +kernel
theorem dX7_reuse_47 : decode bX7_reuse 47 = .ok (.invokevirtual 143, 3) := by decide +kernel
theorem dX7_reuse_50 : decode bX7_reuse 50 = .ok (.pop, 1) := by decide +kernel
theorem dX7_reuse_51 : decode bX7_reuse 51 = .ok (.iinc 1 1, 3) := by decide +kernel
theorem dX7_reuse_54 : decode bX7_reuse 54 = .ok (.goto (-31), 3) := by decide +kernel
theorem dX7_reuse_57 : decode bX7_reuse 57 = .ok (.iconst 1, 1) := by decide +kernel
theorem dX7_reuse_58 : decode bX7_reuse 58 = .ok (.ireturn, 1) := by decide +kernel
abbrev bX7_isRegister : ByteArray := prog_1_method_19_code
def yX7_isRegister : MethodName := ⟨"WideDecimalDesk", "isRegister", "(I)Z"⟩
def wsX7_isRegister : List Cond := Cond.code yX7_isRegister bX7_isRegister 1 (some .boolean) :: wsA
theorem dc_X7_isRegister : yX7_isRegister.cls ≠ "java/lang/invoke/MethodHandle" ∧ yX7_isRegister.cls ≠ "java/lang/invoke/VarHandle" ∧ (parseMethodDescriptor yX7_isRegister.desc).map (fun d => d.parameters.length) = some 1 := by decide +kernel
theorem dX7_isRegister_0 : decode bX7_isRegister 0 = .ok (.iload_n 0, 1) := by decide +kernel
theorem dX7_isRegister_1 : decode bX7_isRegister 1 = .ok (.ifCond .lt 13, 3) := by decide +kernel
theorem dX7_isRegister_4 : decode bX7_isRegister 4 = .ok (.iload_n 0, 1) := by decide +kernel
theorem dX7_isRegister_5 : decode bX7_isRegister 5 = .ok (.bipush 6, 2) := by decide +kernel
theorem dX7_isRegister_7 : decode bX7_isRegister 7 = .ok (.if_icmp .ge 7, 3) := by decide +kernel
theorem dX7_isRegister_10 : decode bX7_isRegister 10 = .ok (.iconst 1, 1) := by decide +kernel
theorem dX7_isRegister_11 : decode bX7_isRegister 11 = .ok (.goto 4, 3) := by decide +kernel
theorem dX7_isRegister_14 : decode bX7_isRegister 14 = .ok (.iconst 0, 1) := by decide +kernel
theorem dX7_isRegister_15 : decode bX7_isRegister 15 = .ok (.ireturn, 1) := by decide +kernel
abbrev bX7_isScale : ByteArray := prog_1_method_20_code
def yX7_isScale : MethodName := ⟨"WideDecimalDesk", "isScale", "(I)Z"⟩
def wsX7_isScale : List Cond := Cond.code yX7_isScale bX7_isScale 1 (some .boolean) :: wsA
theorem dc_X7_isScale : yX7_isScale.cls ≠ "java/lang/invoke/MethodHandle" ∧ yX7_isScale.cls ≠ "java/lang/invoke/VarHandle" ∧ (parseMethodDescriptor yX7_isScale.desc).map (fun d => d.parameters.length) = some 1 := by decide +kernel
theorem dX7_isScale_0 : decode bX7_isScale 0 = .ok (.iload_n 0, 1) := by decide +kernel
theorem dX7_isScale_1 : decode bX7_isScale 1 = .ok (.ifCond .lt 13, 3) := by decide +kernel
theorem dX7_isScale_4 : decode bX7_isScale 4 = .ok (.iload_n 0, 1) := by decide +kernel
theorem dX7_isScale_5 : decode bX7_isScale 5 = .ok (.bipush 28, 2) := by decide +kernel
theorem dX7_isScale_7 : decode bX7_isScale 7 = .ok (.if_icmp .gt 7, 3) := by decide +kernel
theorem dX7_isScale_10 : decode bX7_isScale 10 = .ok (.iconst 1, 1) := by decide +kernel
theorem dX7_isScale_11 : decode bX7_isScale 11 = .ok (.goto 4, 3) := by decide +kernel
theorem dX7_isScale_14 : decode bX7_isScale 14 = .ok (.iconst 0, 1) := by decide +kernel
theorem dX7_isScale_15 : decode bX7_isScale 15 = .ok (.ireturn, 1) := by decide +kernel
abbrev bX7_isMode : ByteArray := prog_1_method_21_code
def yX7_isMode : MethodName := ⟨"WideDecimalDesk", "isMode", "(I)Z"⟩
def wsX7_isMode : List Cond := Cond.code yX7_isMode bX7_isMode 1 (some .boolean) :: wsA
theorem dc_X7_isMode : yX7_isMode.cls ≠ "java/lang/invoke/MethodHandle" ∧ yX7_isMode.cls ≠ "java/lang/invoke/VarHandle" ∧ (parseMethodDescriptor yX7_isMode.desc).map (fun d => d.parameters.length) = some 1 := by decide +kernel
theorem dX7_isMode_0 : decode bX7_isMode 0 = .ok (.iload_n 0, 1) := by decide +kernel
theorem dX7_isMode_1 : decode bX7_isMode 1 = .ok (.ifCond .lt 12, 3) := by decide +kernel
theorem dX7_isMode_4 : decode bX7_isMode 4 = .ok (.iload_n 0, 1) := by decide +kernel
theorem dX7_isMode_5 : decode bX7_isMode 5 = .ok (.iconst 4, 1) := by decide +kernel
theorem dX7_isMode_6 : decode bX7_isMode 6 = .ok (.if_icmp .gt 7, 3) := by decide +kernel
theorem dX7_isMode_9 : decode bX7_isMode 9 = .ok (.iconst 1, 1) := by decide +kernel
theorem dX7_isMode_10 : decode bX7_isMode 10 = .ok (.goto 4, 3) := by decide +kernel
theorem dX7_isMode_13 : decode bX7_isMode 13 = .ok (.iconst 0, 1) := by decide +kernel
theorem dX7_isMode_14 : decode bX7_isMode 14 = .ok (.ireturn, 1) := by decide +kernel
abbrev bX7_isOrder : ByteArray := prog_1_method_22_code
def yX7_isOrder : MethodName := ⟨"WideDecimalDesk", "isOrder", "(IIII)Z"⟩
def wsX7_isOrder : List Cond := Cond.code yX7_isOrder bX7_isOrder 4 (some .boolean) :: wsA
theorem dc_X7_isOrder : yX7_isOrder.cls ≠ "java/lang/invoke/MethodHandle" ∧ yX7_isOrder.cls ≠ "java/lang/invoke/VarHandle" ∧ (parseMethodDescriptor yX7_isOrder.desc).map (fun d => d.parameters.length) = some 4 := by decide +kernel
theorem dX7_isOrder_0 : decode bX7_isOrder 0 = .ok (.iload_n 0, 1) := by decide +kernel
theorem dX7_isOrder_1 : decode bX7_isOrder 1 = .ok (.ifCond .lt 33, 3) := by decide +kernel
theorem dX7_isOrder_4 : decode bX7_isOrder 4 = .ok (.iload_n 0, 1) := by decide +kernel
theorem dX7_isOrder_5 : decode bX7_isOrder 5 = .ok (.iconst 4, 1) := by decide +kernel
theorem dX7_isOrder_6 : decode bX7_isOrder 6 = .ok (.if_icmp .gt 28, 3) := by decide +kernel
theorem dX7_isOrder_9 : decode bX7_isOrder 9 = .ok (.iload_n 1, 1) := by decide +kernel
theorem dX7_isOrder_10 : decode bX7_isOrder 10 = .ok (.invokestatic 66, 3) := by decide +kernel
theorem dX7_isOrder_13 : decode bX7_isOrder 13 = .ok (.ifCond .eq 21, 3) := by decide +kernel
theorem dX7_isOrder_16 : decode bX7_isOrder 16 = .ok (.iload_n 2, 1) := by decide +kernel
theorem dX7_isOrder_17 : decode bX7_isOrder 17 = .ok (.invokestatic 66, 3) := by decide +kernel
theorem dX7_isOrder_20 : decode bX7_isOrder 20 = .ok (.ifCond .eq 14, 3) := by decide +kernel
theorem dX7_isOrder_23 : decode bX7_isOrder 23 = .ok (.iload_n 3, 1) := by decide +kernel
theorem dX7_isOrder_24 : decode bX7_isOrder 24 = .ok (.invokestatic 66, 3) := by decide +kernel
theorem dX7_isOrder_27 : decode bX7_isOrder 27 = .ok (.ifCond .eq 7, 3) := by decide +kernel
theorem dX7_isOrder_30 : decode bX7_isOrder 30 = .ok (.iconst 1, 1) := by decide +kernel
theorem dX7_isOrder_31 : decode bX7_isOrder 31 = .ok (.goto 4, 3) := by decide +kernel
theorem dX7_isOrder_34 : decode bX7_isOrder 34 = .ok (.iconst 0, 1) := by decide +kernel
theorem dX7_isOrder_35 : decode bX7_isOrder 35 = .ok (.ireturn, 1) := by decide +kernel
abbrev bX7_carryOut : ByteArray := prog_1_method_23_code
def yX7_carryOut : MethodName := ⟨"WideDecimalDesk", "carryOut", "(ILWideDecimalDesk$Register;LWideDecimalDesk$Register;)Z"⟩
def wsX7_carryOut : List Cond := Cond.code yX7_carryOut bX7_carryOut 4 (some .boolean) :: wsA
theorem dc_X7_carryOut : yX7_carryOut.cls ≠ "java/lang/invoke/MethodHandle" ∧ yX7_carryOut.cls ≠ "java/lang/invoke/VarHandle" ∧ (parseMethodDescriptor yX7_carryOut.desc).map (fun d => d.parameters.length) = some 3 := by decide +kernel
theorem dX7_carryOut_0 : decode bX7_carryOut 0 = .ok (.iload_n 1, 1) := by decide +kernel
theorem dX7_carryOut_1 : decode bX7_carryOut 1 = .ok (.tableswitch 102 0 4 #[35, 43, 51, 58, 80], 35) := by decide +kernel
theorem dX7_carryOut_36 : decode bX7_carryOut 36 = .ok (.aload_n 0, 1) := by decide +kernel
theorem dX7_carryOut_37 : decode bX7_carryOut 37 = .ok (.aload_n 2, 1) := by decide +kernel
theorem dX7_carryOut_38 : decode bX7_carryOut 38 = .ok (.aload_n 3, 1) := by decide +kernel
theorem dX7_carryOut_39 : decode bX7_carryOut 39 = .ok (.iconst 0, 1) := by decide +kernel
theorem dX7_carryOut_40 : decode bX7_carryOut 40 = .ok (.invokevirtual 183, 3) := by decide +kernel
theorem dX7_carryOut_43 : decode bX7_carryOut 43 = .ok (.ireturn, 1) := by decide +kernel
theorem dX7_carryOut_44 : decode bX7_carryOut 44 = .ok (.aload_n 0, 1) := by decide +kernel
theorem dX7_carryOut_45 : decode bX7_carryOut 45 = .ok (.aload_n 2, 1) := by decide +kernel
theorem dX7_carryOut_46 : decode bX7_carryOut 46 = .ok (.aload_n 3, 1) := by decide +kernel
theorem dX7_carryOut_47 : decode bX7_carryOut 47 = .ok (.iconst 1, 1) := by decide +kernel
theorem dX7_carryOut_48 : decode bX7_carryOut 48 = .ok (.invokevirtual 183, 3) := by decide +kernel
theorem dX7_carryOut_51 : decode bX7_carryOut 51 = .ok (.ireturn, 1) := by decide +kernel
theorem dX7_carryOut_52 : decode bX7_carryOut 52 = .ok (.aload_n 0, 1) := by decide +kernel
theorem dX7_carryOut_53 : decode bX7_carryOut 53 = .ok (.aload_n 2, 1) := by decide +kernel
theorem dX7_carryOut_54 : decode bX7_carryOut 54 = .ok (.aload_n 3, 1) := by decide +kernel
theorem dX7_carryOut_55 : decode bX7_carryOut 55 = .ok (.invokevirtual 187, 3) := by decide +kernel
theorem dX7_carryOut_58 : decode bX7_carryOut 58 = .ok (.ireturn, 1) := by decide +kernel
theorem dX7_carryOut_59 : decode bX7_carryOut 59 = .ok (.aload_n 3, 1) := by decide +kernel
theorem dX7_carryOut_60 : decode bX7_carryOut 60 = .ok (.invokevirtual 191, 3) := by decide +kernel
theorem dX7_carryOut_63 : decode bX7_carryOut 63 = .ok (.ifCond .ne 16, 3) := by decide +kernel
theorem dX7_carryOut_66 : decode bX7_carryOut 66 = .ok (.aload_n 0, 1) := by decide +kernel
theorem dX7_carryOut_67 : decode bX7_carryOut 67 = .ok (.aload_n 2, 1) := by decide +kernel
theorem dX7_carryOut_68 : decode bX7_carryOut 68 = .ok (.aload_n 3, 1) := by decide +kernel
theorem dX7_carryOut_69 : decode bX7_carryOut 69 = .ok (.invokevirtual 194, 3) := by decide +kernel
theorem dX7_carryOut_72 : decode bX7_carryOut 72 = .ok (.ifCond .eq 7, 3) := by decide +kernel
theorem dX7_carryOut_75 : decode bX7_carryOut 75 = .ok (.iconst 1, 1) := by decide +kernel
theorem dX7_carryOut_76 : decode bX7_carryOut 76 = .ok (.goto 4, 3) := by decide +kernel
theorem dX7_carryOut_79 : decode bX7_carryOut 79 = .ok (.iconst 0, 1) := by decide +kernel
theorem dX7_carryOut_80 : decode bX7_carryOut 80 = .ok (.ireturn, 1) := by decide +kernel
theorem dX7_carryOut_81 : decode bX7_carryOut 81 = .ok (.aload_n 3, 1) := by decide +kernel
theorem dX7_carryOut_82 : decode bX7_carryOut 82 = .ok (.invokevirtual 191, 3) := by decide +kernel
theorem dX7_carryOut_85 : decode bX7_carryOut 85 = .ok (.ifCond .ne 16, 3) := by decide +kernel
theorem dX7_carryOut_88 : decode bX7_carryOut 88 = .ok (.aload_n 0, 1) := by decide +kernel
theorem dX7_carryOut_89 : decode bX7_carryOut 89 = .ok (.aload_n 2, 1) := by decide +kernel
theorem dX7_carryOut_90 : decode bX7_carryOut 90 = .ok (.aload_n 3, 1) := by decide +kernel
theorem dX7_carryOut_91 : decode bX7_carryOut 91 = .ok (.invokevirtual 197, 3) := by decide +kernel
theorem dX7_carryOut_94 : decode bX7_carryOut 94 = .ok (.ifCond .eq 7, 3) := by decide +kernel
theorem dX7_carryOut_97 : decode bX7_carryOut 97 = .ok (.iconst 1, 1) := by decide +kernel
theorem dX7_carryOut_98 : decode bX7_carryOut 98 = .ok (.goto 4, 3) := by decide +kernel
theorem dX7_carryOut_101 : decode bX7_carryOut 101 = .ok (.iconst 0, 1) := by decide +kernel
theorem dX7_carryOut_102 : decode bX7_carryOut 102 = .ok (.ireturn, 1) := by decide +kernel
theorem dX7_carryOut_103 : decode bX7_carryOut 103 = .ok (.iconst 0, 1) := by decide +kernel
theorem dX7_carryOut_104 : decode bX7_carryOut 104 = .ok (.ireturn, 1) := by decide +kernel
abbrev bX7_addUp : ByteArray := prog_1_method_24_code
def yX7_addUp : MethodName := ⟨"WideDecimalDesk", "addUp", "(LWideDecimalDesk$Register;LWideDecimalDesk$Register;Z)Z"⟩
def wsX7_addUp : List Cond := Cond.code yX7_addUp bX7_addUp 4 (some .boolean) :: wsA
theorem dc_X7_addUp : yX7_addUp.cls ≠ "java/lang/invoke/MethodHandle" ∧ yX7_addUp.cls ≠ "java/lang/invoke/VarHandle" ∧ (parseMethodDescriptor yX7_addUp.desc).map (fun d => d.parameters.length) = some 3 := by decide +kernel
theorem dX7_addUp_0 : decode bX7_addUp 0 = .ok (.aload_n 0, 1) := by decide +kernel
theorem dX7_addUp_1 : decode bX7_addUp 1 = .ok (.aload_n 1, 1) := by decide +kernel
theorem dX7_addUp_2 : decode bX7_addUp 2 = .ok (.aload_n 2, 1) := by decide +kernel
theorem dX7_addUp_3 : decode bX7_addUp 3 = .ok (.invokevirtual 135, 3) := by decide +kernel
theorem dX7_addUp_6 : decode bX7_addUp 6 = .ok (.iload_n 3, 1) := by decide +kernel
theorem dX7_addUp_7 : decode bX7_addUp 7 = .ok (.ifCond .eq 25, 3) := by decide +kernel
theorem dX7_addUp_10 : decode bX7_addUp 10 = .ok (.aload_n 0, 1) := by decide +kernel
theorem dX7_addUp_11 : decode bX7_addUp 11 = .ok (.getfield 35, 3) := by decide +kernel
theorem dX7_addUp_14 : decode bX7_addUp 14 = .ok (.aload_n 0, 1) := by decide +kernel
theorem dX7_addUp_15 : decode bX7_addUp 15 = .ok (.getfield 35, 3) := by decide +kernel
theorem dX7_addUp_18 : decode bX7_addUp 18 = .ok (.getfield 200, 3) := by decide +kernel
theorem dX7_addUp_21 : decode bX7_addUp 21 = .ok (.ifCond .ne 7, 3) := by decide +kernel
theorem dX7_addUp_24 : decode bX7_addUp 24 = .ok (.iconst 1, 1) := by decide +kernel
theorem dX7_addUp_25 : decode bX7_addUp 25 = .ok (.goto 4, 3) := by decide +kernel
theorem dX7_addUp_28 : decode bX7_addUp 28 = .ok (.iconst 0, 1) := by decide +kernel
theorem dX7_addUp_29 : decode bX7_addUp 29 = .ok (.putfield 200, 3) := by decide +kernel
theorem dX7_addUp_32 : decode bX7_addUp 32 = .ok (.aload_n 0, 1) := by decide +kernel
theorem dX7_addUp_33 : decode bX7_addUp 33 = .ok (.getfield 31, 3) := by decide +kernel
theorem dX7_addUp_36 : decode bX7_addUp 36 = .ok (.aload_n 0, 1) := by decide +kernel
theorem dX7_addUp_37 : decode bX7_addUp 37 = .ok (.getfield 35, 3) := by decide +kernel
theorem dX7_addUp_40 : decode bX7_addUp 40 = .ok (.invokevirtual 201, 3) := by decide +kernel
theorem dX7_addUp_43 : decode bX7_addUp 43 = .ok (.aload_n 0, 1) := by decide +kernel
theorem dX7_addUp_44 : decode bX7_addUp 44 = .ok (.getfield 31, 3) := by decide +kernel
theorem dX7_addUp_47 : decode bX7_addUp 47 = .ok (.invokevirtual 161, 3) := by decide +kernel
theorem dX7_addUp_50 : decode bX7_addUp 50 = .ok (.ireturn, 1) := by decide +kernel
abbrev bX7_multiply : ByteArray := prog_1_method_25_code
def yX7_multiply : MethodName := ⟨"WideDecimalDesk", "multiply", "(LWideDecimalDesk$Register;LWideDecimalDesk$Register;)Z"⟩
def wsX7_multiply : List Cond := Cond.code yX7_multiply bX7_multiply 3 (some .boolean) :: wsA
theorem dc_X7_multiply : yX7_multiply.cls ≠ "java/lang/invoke/MethodHandle" ∧ yX7_multiply.cls ≠ "java/lang/invoke/VarHandle" ∧ (parseMethodDescriptor yX7_multiply.desc).map (fun d => d.parameters.length) = some 2 := by decide +kernel
theorem dX7_multiply_0 : decode bX7_multiply 0 = .ok (.aload_n 0, 1) := by decide +kernel
theorem dX7_multiply_1 : decode bX7_multiply 1 = .ok (.getfield 41, 3) := by decide +kernel
theorem dX7_multiply_4 : decode bX7_multiply 4 = .ok (.aload_n 1, 1) := by decide +kernel
theorem dX7_multiply_5 : decode bX7_multiply 5 = .ok (.getfield 84, 3) := by decide +kernel
theorem dX7_multiply_8 : decode bX7_multiply 8 = .ok (.aload_n 1, 1) := by decide +kernel
theorem dX7_multiply_9 : decode bX7_multiply 9 = .ok (.getfield 88, 3) := by decide +kernel
theorem dX7_multiply_12 : decode bX7_multiply 12 = .ok (.invokevirtual 205, 3) := by decide +kernel
theorem dX7_multiply_15 : decode bX7_multiply 15 = .ok (.aload_n 0, 1) := by decide +kernel
theorem dX7_multiply_16 : decode bX7_multiply 16 = .ok (.getfield 35, 3) := by decide +kernel
theorem dX7_multiply_19 : decode bX7_multiply 19 = .ok (.aload_n 2, 1) := by decide +kernel
theorem dX7_multiply_20 : decode bX7_multiply 20 = .ok (.invokevirtual 123, 3) := by decide +kernel
theorem dX7_multiply_23 : decode bX7_multiply 23 = .ok (.aload_n 0, 1) := by decide +kernel
theorem dX7_multiply_24 : decode bX7_multiply 24 = .ok (.getfield 31, 3) := by decide +kernel
theorem dX7_multiply_27 : decode bX7_multiply 27 = .ok (.aload_n 1, 1) := by decide +kernel
theorem dX7_multiply_28 : decode bX7_multiply 28 = .ok (.getfield 92, 3) := by decide +kernel
theorem dX7_multiply_31 : decode bX7_multiply 31 = .ok (.aload_n 2, 1) := by decide +kernel
theorem dX7_multiply_32 : decode bX7_multiply 32 = .ok (.getfield 92, 3) := by decide +kernel
theorem dX7_multiply_35 : decode bX7_multiply 35 = .ok (.iadd, 1) := by decide +kernel
theorem dX7_multiply_36 : decode bX7_multiply 36 = .ok (.aload_n 1, 1) := by decide +kernel
theorem dX7_multiply_37 : decode bX7_multiply 37 = .ok (.getfield 95, 3) := by decide +kernel
theorem dX7_multiply_40 : decode bX7_multiply 40 = .ok (.aload_n 2, 1) := by decide +kernel
theorem dX7_multiply_41 : decode bX7_multiply 41 = .ok (.getfield 95, 3) := by decide +kernel
theorem dX7_multiply_44 : decode bX7_multiply 44 = .ok (.if_icmp .eq 7, 3) := by decide +kernel
theorem dX7_multiply_47 : decode bX7_multiply 47 = .ok (.iconst 1, 1) := by decide +kernel
theorem dX7_multiply_48 : decode bX7_multiply 48 = .ok (.goto 4, 3) := by decide +kernel
theorem dX7_multiply_51 : decode bX7_multiply 51 = .ok (.iconst 0, 1) := by decide +kernel
theorem dX7_multiply_52 : decode bX7_multiply 52 = .ok (.invokevirtual 209, 3) := by decide +kernel
theorem dX7_multiply_55 : decode bX7_multiply 55 = .ok (.aload_n 0, 1) := by decide +kernel
theorem dX7_multiply_56 : decode bX7_multiply 56 = .ok (.getfield 31, 3) := by decide +kernel
theorem dX7_multiply_59 : decode bX7_multiply 59 = .ok (.getfield 213, 3) := by decide +kernel
theorem dX7_multiply_62 : decode bX7_multiply 62 = .ok (.aload_n 0, 1) := by decide +kernel
theorem dX7_multiply_63 : decode bX7_multiply 63 = .ok (.getfield 41, 3) := by decide +kernel
theorem dX7_multiply_66 : decode bX7_multiply 66 = .ok (.aload_n 0, 1) := by decide +kernel
theorem dX7_multiply_67 : decode bX7_multiply 67 = .ok (.getfield 35, 3) := by decide +kernel
theorem dX7_multiply_70 : decode bX7_multiply 70 = .ok (.getfield 213, 3) := by decide +kernel
theorem dX7_multiply_73 : decode bX7_multiply 73 = .ok (.invokevirtual 216, 3) := by decide +kernel
theorem dX7_multiply_76 : decode bX7_multiply 76 = .ok (.aload_n 0, 1) := by decide +kernel
theorem dX7_multiply_77 : decode bX7_multiply 77 = .ok (.getfield 31, 3) := by decide +kernel
theorem dX7_multiply_80 : decode bX7_multiply 80 = .ok (.invokevirtual 161, 3) := by decide +kernel
theorem dX7_multiply_83 : decode bX7_multiply 83 = .ok (.ireturn, 1) := by decide +kernel
abbrev bX7_divide : ByteArray := prog_1_method_26_code
def yX7_divide : MethodName := ⟨"WideDecimalDesk", "divide", "(LWideDecimalDesk$Register;LWideDecimalDesk$Register;)Z"⟩
def wsX7_divide : List Cond := Cond.code yX7_divide bX7_divide 4 (some .boolean) :: wsA
theorem dc_X7_divide : yX7_divide.cls ≠ "java/lang/invoke/MethodHandle" ∧ yX7_divide.cls ≠ "java/lang/invoke/VarHandle" ∧ (parseMethodDescriptor yX7_divide.desc).map (fun d => d.parameters.length) = some 2 := by decide +kernel
theorem dX7_divide_0 : decode bX7_divide 0 = .ok (.aload_n 0, 1) := by decide +kernel
theorem dX7_divide_1 : decode bX7_divide 1 = .ok (.getfield 35, 3) := by decide +kernel
theorem dX7_divide_4 : decode bX7_divide 4 = .ok (.aload_n 2, 1) := by decide +kernel
theorem dX7_divide_5 : decode bX7_divide 5 = .ok (.invokevirtual 123, 3) := by decide +kernel
theorem dX7_divide_8 : decode bX7_divide 8 = .ok (.aload_n 0, 1) := by decide +kernel
theorem dX7_divide_9 : decode bX7_divide 9 = .ok (.aload_n 1, 1) := by decide +kernel
theorem dX7_divide_10 : decode bX7_divide 10 = .ok (.invokevirtual 220, 3) := by decide +kernel
theorem dX7_divide_13 : decode bX7_divide 13 = .ok (.aload_n 1, 1) := by decide +kernel
theorem dX7_divide_14 : decode bX7_divide 14 = .ok (.getfield 92, 3) := by decide +kernel
theorem dX7_divide_17 : decode bX7_divide 17 = .ok (.aload_n 2, 1) := by decide +kernel
theorem dX7_divide_18 : decode bX7_divide 18 = .ok (.getfield 92, 3) := by decide +kernel
theorem dX7_divide_21 : decode bX7_divide 21 = .ok (.isub, 1) := by decide +kernel
theorem dX7_divide_22 : decode bX7_divide 22 = .ok (.istore_n 3, 1) := by decide +kernel
theorem dX7_divide_23 : decode bX7_divide 23 = .ok (.iload_n 3, 1) := by decide +kernel
theorem dX7_divide_24 : decode bX7_divide 24 = .ok (.bipush 28, 2) := by decide +kernel
theorem dX7_divide_26 : decode bX7_divide 26 = .ok (.if_icmp .ge 31, 3) := by decide +kernel
theorem dX7_divide_29 : decode bX7_divide 29 = .ok (.iload_n 3, 1) := by decide +kernel
theorem dX7_divide_30 : decode bX7_divide 30 = .ok (.ifCond .lt 13, 3) := by decide +kernel
theorem dX7_divide_33 : decode bX7_divide 33 = .ok (.aload_n 0, 1) := by decide +kernel
theorem dX7_divide_34 : decode bX7_divide 34 = .ok (.getfield 48, 3) := by decide +kernel
theorem dX7_divide_37 : decode bX7_divide 37 = .ok (.invokevirtual 223, 3) := by decide +kernel
theorem dX7_divide_40 : decode bX7_divide 40 = .ok (.ifCond .eq 17, 3) := by decide +kernel
theorem dX7_divide_43 : decode bX7_divide 43 = .ok (.aload_n 0, 1) := by decide +kernel
theorem dX7_divide_44 : decode bX7_divide 44 = .ok (.getfield 48, 3) := by decide +kernel
theorem dX7_divide_47 : decode bX7_divide 47 = .ok (.iconst 0, 1) := by decide +kernel
theorem dX7_divide_48 : decode bX7_divide 48 = .ok (.invokevirtual 226, 3) := by decide +kernel
theorem dX7_divide_51 : decode bX7_divide 51 = .ok (.iinc 3 1, 3) := by decide +kernel
theorem dX7_divide_54 : decode bX7_divide 54 = .ok (.goto (-31), 3) := by decide +kernel
theorem dX7_divide_57 : decode bX7_divide 57 = .ok (.aload_n 0, 1) := by decide +kernel
theorem dX7_divide_58 : decode bX7_divide 58 = .ok (.getfield 31, 3) := by decide +kernel
theorem dX7_divide_61 : decode bX7_divide 61 = .ok (.iload_n 3, 1) := by decide +kernel
theorem dX7_divide_62 : decode bX7_divide 62 = .ok (.aload_n 1, 1) := by decide +kernel
theorem dX7_divide_63 : decode bX7_divide 63 = .ok (.getfield 95, 3) := by decide +kernel
theorem dX7_divide_66 : decode bX7_divide 66 = .ok (.aload_n 2, 1) := by decide +kernel
theorem dX7_divide_67 : decode bX7_divide 67 = .ok (.getfield 95, 3) := by decide +kernel
theorem dX7_divide_70 : decode bX7_divide 70 = .ok (.if_icmp .eq 7, 3) := by decide +kernel
theorem dX7_divide_73 : decode bX7_divide 73 = .ok (.iconst 1, 1) := by decide +kernel
theorem dX7_divide_74 : decode bX7_divide 74 = .ok (.goto 4, 3) := by decide +kernel
theorem dX7_divide_77 : decode bX7_divide 77 = .ok (.iconst 0, 1) := by decide +kernel
theorem dX7_divide_78 : decode bX7_divide 78 = .ok (.invokevirtual 209, 3) := by decide +kernel
theorem dX7_divide_81 : decode bX7_divide 81 = .ok (.aload_n 0, 1) := by decide +kernel
theorem dX7_divide_82 : decode bX7_divide 82 = .ok (.getfield 31, 3) := by decide +kernel
theorem dX7_divide_85 : decode bX7_divide 85 = .ok (.aload_n 0, 1) := by decide +kernel
theorem dX7_divide_86 : decode bX7_divide 86 = .ok (.getfield 48, 3) := by decide +kernel
theorem dX7_divide_89 : decode bX7_divide 89 = .ok (.invokevirtual 229, 3) := by decide +kernel
theorem dX7_divide_92 : decode bX7_divide 92 = .ok (.aload_n 0, 1) := by decide +kernel
theorem dX7_divide_93 : decode bX7_divide 93 = .ok (.getfield 31, 3) := by decide +kernel
theorem dX7_divide_96 : decode bX7_divide 96 = .ok (.invokevirtual 161, 3) := by decide +kernel
theorem dX7_divide_99 : decode bX7_divide 99 = .ok (.ireturn, 1) := by decide +kernel
abbrev bX7_divideForRest : ByteArray := prog_1_method_27_code
def yX7_divideForRest : MethodName := ⟨"WideDecimalDesk", "divideForRest", "(LWideDecimalDesk$Register;LWideDecimalDesk$Register;)Z"⟩
def wsX7_divideForRest : List Cond := Cond.code yX7_divideForRest bX7_divideForRest 4 (some .boolean) :: wsA
theorem dc_X7_divideForRest : yX7_divideForRest.cls ≠ "java/lang/invoke/MethodHandle" ∧ yX7_divideForRest.cls ≠ "java/lang/invoke/VarHandle" ∧ (parseMethodDescriptor yX7_divideForRest.desc).map (fun d => d.parameters.length) = some 2 := by decide +kernel
theorem dX7_divideForRest_0 : decode bX7_divideForRest 0 = .ok (.aload_n 0, 1) := by decide +kernel
theorem dX7_divideForRest_1 : decode bX7_divideForRest 1 = .ok (.getfield 35, 3) := by decide +kernel
theorem dX7_divideForRest_4 : decode bX7_divideForRest 4 = .ok (.aload_n 2, 1) := by decide +kernel
theorem dX7_divideForRest_5 : decode bX7_divideForRest 5 = .ok (.invokevirtual 123, 3) := by decide +kernel
theorem dX7_divideForRest_8 : decode bX7_divideForRest 8 = .ok (.aload_n 0, 1) := by decide +kernel
theorem dX7_divideForRest_9 : decode bX7_divideForRest 9 = .ok (.getfield 35, 3) := by decide +kernel
theorem dX7_divideForRest_12 : decode bX7_divideForRest 12 = .ok (.aload_n 1, 1) := by decide +kernel
theorem dX7_divideForRest_13 : decode bX7_divideForRest 13 = .ok (.getfield 92, 3) := by decide +kernel
theorem dX7_divideForRest_16 : decode bX7_divideForRest 16 = .ok (.invokevirtual 233, 3) := by decide +kernel
theorem dX7_divideForRest_19 : decode bX7_divideForRest 19 = .ok (.aload_n 0, 1) := by decide +kernel
theorem dX7_divideForRest_20 : decode bX7_divideForRest 20 = .ok (.aload_n 1, 1) := by decide +kernel
theorem dX7_divideForRest_21 : decode bX7_divideForRest 21 = .ok (.invokevirtual 220, 3) := by decide +kernel
theorem dX7_divideForRest_24 : decode bX7_divideForRest 24 = .ok (.aload_n 1, 1) := by decide +kernel
theorem dX7_divideForRest_25 : decode bX7_divideForRest 25 = .ok (.getfield 92, 3) := by decide +kernel
theorem dX7_divideForRest_28 : decode bX7_divideForRest 28 = .ok (.istore_n 3, 1) := by decide +kernel
theorem dX7_divideForRest_29 : decode bX7_divideForRest 29 = .ok (.iload_n 3, 1) := by decide +kernel
theorem dX7_divideForRest_30 : decode bX7_divideForRest 30 = .ok (.aload_n 2, 1) := by decide +kernel
theorem dX7_divideForRest_31 : decode bX7_divideForRest 31 = .ok (.getfield 92, 3) := by decide +kernel
theorem dX7_divideForRest_34 : decode bX7_divideForRest 34 = .ok (.if_icmp .ge 17, 3) := by decide +kernel
theorem dX7_divideForRest_37 : decode bX7_divideForRest 37 = .ok (.aload_n 0, 1) := by decide +kernel
theorem dX7_divideForRest_38 : decode bX7_divideForRest 38 = .ok (.getfield 48, 3) := by decide +kernel
theorem dX7_divideForRest_41 : decode bX7_divideForRest 41 = .ok (.iconst 0, 1) := by decide +kernel
theorem dX7_divideForRest_42 : decode bX7_divideForRest 42 = .ok (.invokevirtual 226, 3) := by decide +kernel
theorem dX7_divideForRest_45 : decode bX7_divideForRest 45 = .ok (.iinc 3 1, 3) := by decide +kernel
theorem dX7_divideForRest_48 : decode bX7_divideForRest 48 = .ok (.goto (-19), 3) := by decide +kernel
theorem dX7_divideForRest_51 : decode bX7_divideForRest 51 = .ok (.aload_n 0, 1) := by decide +kernel
theorem dX7_divideForRest_52 : decode bX7_divideForRest 52 = .ok (.getfield 31, 3) := by decide +kernel
theorem dX7_divideForRest_55 : decode bX7_divideForRest 55 = .ok (.aload_n 1, 1) := by decide +kernel
theorem dX7_divideForRest_56 : decode bX7_divideForRest 56 = .ok (.getfield 92, 3) := by decide +kernel
theorem dX7_divideForRest_59 : decode bX7_divideForRest 59 = .ok (.aload_n 2, 1) := by decide +kernel
theorem dX7_divideForRest_60 : decode bX7_divideForRest 60 = .ok (.getfield 92, 3) := by decide +kernel
theorem dX7_divideForRest_63 : decode bX7_divideForRest 63 = .ok (.invokestatic 236, 3) := by decide +kernel
theorem dX7_divideForRest_66 : decode bX7_divideForRest 66 = .ok (.aload_n 1, 1) := by decide +kernel
theorem dX7_divideForRest_67 : decode bX7_divideForRest 67 = .ok (.getfield 95, 3) := by decide +kernel
theorem dX7_divideForRest_70 : decode bX7_divideForRest 70 = .ok (.invokevirtual 209, 3) := by decide +kernel
theorem dX7_divideForRest_73 : decode bX7_divideForRest 73 = .ok (.aload_n 0, 1) := by decide +kernel
theorem dX7_divideForRest_74 : decode bX7_divideForRest 74 = .ok (.getfield 31, 3) := by decide +kernel
theorem dX7_divideForRest_77 : decode bX7_divideForRest 77 = .ok (.getfield 213, 3) := by decide +kernel
theorem dX7_divideForRest_80 : decode bX7_divideForRest 80 = .ok (.aload_n 0, 1) := by decide +kernel
theorem dX7_divideForRest_81 : decode bX7_divideForRest 81 = .ok (.getfield 48, 3) := by decide +kernel
theorem dX7_divideForRest_84 : decode bX7_divideForRest 84 = .ok (.getfield 242, 3) := by decide +kernel
theorem dX7_divideForRest_87 : decode bX7_divideForRest 87 = .ok (.invokevirtual 245, 3) := by decide +kernel
theorem dX7_divideForRest_90 : decode bX7_divideForRest 90 = .ok (.aload_n 0, 1) := by decide +kernel
theorem dX7_divideForRest_91 : decode bX7_divideForRest 91 = .ok (.getfield 31, 3) := by decide +kernel
theorem dX7_divideForRest_94 : decode bX7_divideForRest 94 = .ok (.invokevirtual 161, 3) := by decide +kernel
theorem dX7_divideForRest_97 : decode bX7_divideForRest 97 = .ok (.ireturn, 1) := by decide +kernel
abbrev bX7_divideCoefficient : ByteArray := prog_1_method_28_code
def yX7_divideCoefficient : MethodName := ⟨"WideDecimalDesk", "divideCoefficient", "(LWideDecimalDesk$Register;)V"⟩
def wsX7_divideCoefficient : List Cond := Cond.code yX7_divideCoefficient bX7_divideCoefficient 2 none :: wsA
theorem dc_X7_divideCoefficient : yX7_divideCoefficient.cls ≠ "java/lang/invoke/MethodHandle" ∧ yX7_divideCoefficient.cls ≠ "java/lang/invoke/VarHandle" ∧ (parseMethodDescriptor yX7_divideCoefficient.desc).map (fun d => d.parameters.length) = some 1 := by decide +kernel
theorem dX7_divideCoefficient_0 : decode bX7_divideCoefficient 0 = .ok (.aload_n 0, 1) := by decide +kernel
theorem dX7_divideCoefficient_1 : decode bX7_divideCoefficient 1 = .ok (.getfield 31, 3) := by decide +kernel
theorem dX7_divideCoefficient_4 : decode bX7_divideCoefficient 4 = .ok (.aload_n 1, 1) := by decide +kernel
theorem dX7_divideCoefficient_5 : decode bX7_divideCoefficient 5 = .ok (.invokevirtual 123, 3) := by decide +kernel
theorem dX7_divideCoefficient_8 : decode bX7_divideCoefficient 8 = .ok (.aload_n 0, 1) := by decide +kernel
theorem dX7_divideCoefficient_9 : decode bX7_divideCoefficient 9 = .ok (.getfield 55, 3) := by decide +kernel
theorem dX7_divideCoefficient_12 : decode bX7_divideCoefficient 12 = .ok (.aload_n 0, 1) := by decide +kernel
theorem dX7_divideCoefficient_13 : decode bX7_divideCoefficient 13 = .ok (.getfield 31, 3) := by decide +kernel
theorem dX7_divideCoefficient_16 : decode bX7_divideCoefficient 16 = .ok (.getfield 213, 3) := by decide +kernel
theorem dX7_divideCoefficient_19 : decode bX7_divideCoefficient 19 = .ok (.invokevirtual 249, 3) := by decide +kernel
theorem dX7_divideCoefficient_22 : decode bX7_divideCoefficient 22 = .ok (.aload_n 0, 1) := by decide +kernel
theorem dX7_divideCoefficient_23 : decode bX7_divideCoefficient 23 = .ok (.getfield 48, 3) := by decide +kernel
theorem dX7_divideCoefficient_26 : decode bX7_divideCoefficient 26 = .ok (.aload_n 0, 1) := by decide +kernel
theorem dX7_divideCoefficient_27 : decode bX7_divideCoefficient 27 = .ok (.getfield 35, 3) := by decide +kernel
theorem dX7_divideCoefficient_30 : decode bX7_divideCoefficient 30 = .ok (.getfield 213, 3) := by decide +kernel
theorem dX7_divideCoefficient_33 : decode bX7_divideCoefficient 33 = .ok (.invokevirtual 252, 3) := by decide +kernel
theorem dX7_divideCoefficient_36 : decode bX7_divideCoefficient 36 = .ok (.aload_n 0, 1) := by decide +kernel
theorem dX7_divideCoefficient_37 : decode bX7_divideCoefficient 37 = .ok (.getfield 48, 3) := by decide +kernel
theorem dX7_divideCoefficient_40 : decode bX7_divideCoefficient 40 = .ok (.aload_n 0, 1) := by decide +kernel
theorem dX7_divideCoefficient_41 : decode bX7_divideCoefficient 41 = .ok (.getfield 55, 3) := by decide +kernel
theorem dX7_divideCoefficient_44 : decode bX7_divideCoefficient 44 = .ok (.invokevirtual 254, 3) := by decide +kernel
theorem dX7_divideCoefficient_47 : decode bX7_divideCoefficient 47 = .ok (.return_, 1) := by decide +kernel
abbrev bX7_loadAlike : ByteArray := prog_1_method_29_code
def yX7_loadAlike : MethodName := ⟨"WideDecimalDesk", "loadAlike", "(LWideDecimalDesk$Register;LWideDecimalDesk$Register;)V"⟩
def wsX7_loadAlike : List Cond := Cond.code yX7_loadAlike bX7_loadAlike 3 none :: wsA
theorem dc_X7_loadAlike : yX7_loadAlike.cls ≠ "java/lang/invoke/MethodHandle" ∧ yX7_loadAlike.cls ≠ "java/lang/invoke/VarHandle" ∧ (parseMethodDescriptor yX7_loadAlike.desc).map (fun d => d.parameters.length) = some 2 := by decide +kernel
theorem dX7_loadAlike_0 : decode bX7_loadAlike 0 = .ok (.aload_n 0, 1) := by decide +kernel
theorem dX7_loadAlike_1 : decode bX7_loadAlike 1 = .ok (.getfield 31, 3) := by decide +kernel
theorem dX7_loadAlike_4 : decode bX7_loadAlike 4 = .ok (.aload_n 1, 1) := by decide +kernel
theorem dX7_loadAlike_5 : decode bX7_loadAlike 5 = .ok (.invokevirtual 123, 3) := by decide +kernel
theorem dX7_loadAlike_8 : decode bX7_loadAlike 8 = .ok (.aload_n 0, 1) := by decide +kernel
theorem dX7_loadAlike_9 : decode bX7_loadAlike 9 = .ok (.getfield 35, 3) := by decide +kernel
theorem dX7_loadAlike_12 : decode bX7_loadAlike 12 = .ok (.aload_n 2, 1) := by decide +kernel
theorem dX7_loadAlike_13 : decode bX7_loadAlike 13 = .ok (.invokevirtual 123, 3) := by decide +kernel
theorem dX7_loadAlike_16 : decode bX7_loadAlike 16 = .ok (.aload_n 0, 1) := by decide +kernel
theorem dX7_loadAlike_17 : decode bX7_loadAlike 17 = .ok (.getfield 31, 3) := by decide +kernel
theorem dX7_loadAlike_20 : decode bX7_loadAlike 20 = .ok (.aload_n 2, 1) := by decide +kernel
theorem dX7_loadAlike_21 : decode bX7_loadAlike 21 = .ok (.getfield 92, 3) := by decide +kernel
theorem dX7_loadAlike_24 : decode bX7_loadAlike 24 = .ok (.invokevirtual 233, 3) := by decide +kernel
theorem dX7_loadAlike_27 : decode bX7_loadAlike 27 = .ok (.aload_n 0, 1) := by decide +kernel
theorem dX7_loadAlike_28 : decode bX7_loadAlike 28 = .ok (.getfield 35, 3) := by decide +kernel
theorem dX7_loadAlike_31 : decode bX7_loadAlike 31 = .ok (.aload_n 1, 1) := by decide +kernel
theorem dX7_loadAlike_32 : decode bX7_loadAlike 32 = .ok (.getfield 92, 3) := by decide +kernel
theorem dX7_loadAlike_35 : decode bX7_loadAlike 35 = .ok (.invokevirtual 233, 3) := by decide +kernel
theorem dX7_loadAlike_38 : decode bX7_loadAlike 38 = .ok (.return_, 1) := by decide +kernel
abbrev bX7_writePlainly : ByteArray := prog_1_method_30_code
def yX7_writePlainly : MethodName := ⟨"WideDecimalDesk", "writePlainly", "()V"⟩
def wsX7_writePlainly : List Cond := Cond.code yX7_writePlainly bX7_writePlainly 2 none :: wsA
theorem dc_X7_writePlainly : yX7_writePlainly.cls ≠ "java/lang/invoke/MethodHandle" ∧ yX7_writePlainly.cls ≠ "java/lang/invoke/VarHandle" ∧ (parseMethodDescriptor yX7_writePlainly.desc).map (fun d => d.parameters.length) = some 0 := by decide +kernel
theorem dX7_writePlainly_0 : decode bX7_writePlainly 0 = .ok (.aload_n 0, 1) := by decide +kernel
theorem dX7_writePlainly_1 : decode bX7_writePlainly 1 = .ok (.getfield 25, 3) := by decide +kernel
theorem dX7_writePlainly_4 : decode bX7_writePlainly 4 = .ok (.invokevirtual 147, 3) := by decide +kernel
theorem dX7_writePlainly_7 : decode bX7_writePlainly 7 = .ok (.aload_n 0, 1) := by decide +kernel
theorem dX7_writePlainly_8 : decode bX7_writePlainly 8 = .ok (.invokevirtual 258, 3) := by decide +kernel
theorem dX7_writePlainly_11 : decode bX7_writePlainly 11 = .ok (.aload_n 0, 1) := by decide +kernel
theorem dX7_writePlainly_12 : decode bX7_writePlainly 12 = .ok (.getfield 31, 3) := by decide +kernel
theorem dX7_writePlainly_15 : decode bX7_writePlainly 15 = .ok (.getfield 261, 3) := by decide +kernel
theorem dX7_writePlainly_18 : decode bX7_writePlainly 18 = .ok (.istore_n 1, 1) := by decide +kernel
theorem dX7_writePlainly_19 : decode bX7_writePlainly 19 = .ok (.aload_n 0, 1) := by decide +kernel
theorem dX7_writePlainly_20 : decode bX7_writePlainly 20 = .ok (.getfield 55, 3) := by decide +kernel
theorem dX7_writePlainly_23 : decode bX7_writePlainly 23 = .ok (.aload_n 0, 1) := by decide +kernel
theorem dX7_writePlainly_24 : decode bX7_writePlainly 24 = .ok (.getfield 31, 3) := by decide +kernel
theorem dX7_writePlainly_27 : decode bX7_writePlainly 27 = .ok (.getfield 213, 3) := by decide +kernel
theorem dX7_writePlainly_30 : decode bX7_writePlainly 30 = .ok (.invokevirtual 249, 3) := by decide +kernel
theorem dX7_writePlainly_33 : decode bX7_writePlainly 33 = .ok (.aload_n 0, 1) := by decide +kernel
theorem dX7_writePlainly_34 : decode bX7_writePlainly 34 = .ok (.iload_n 1, 1) := by decide +kernel
theorem dX7_writePlainly_35 : decode bX7_writePlainly 35 = .ok (.aload_n 0, 1) := by decide +kernel
theorem dX7_writePlainly_36 : decode bX7_writePlainly 36 = .ok (.getfield 55, 3) := by decide +kernel
theorem dX7_writePlainly_39 : decode bX7_writePlainly 39 = .ok (.getfield 262, 3) := by decide +kernel
theorem dX7_writePlainly_42 : decode bX7_writePlainly 42 = .ok (.iload_n 1, 1) := by decide +kernel
theorem dX7_writePlainly_43 : decode bX7_writePlainly 43 = .ok (.isub, 1) := by decide +kernel
theorem dX7_writePlainly_44 : decode bX7_writePlainly 44 = .ok (.iconst 1, 1) := by decide +kernel
theorem dX7_writePlainly_45 : decode bX7_writePlainly 45 = .ok (.invokestatic 236, 3) := by decide +kernel
theorem dX7_writePlainly_48 : decode bX7_writePlainly 48 = .ok (.iconst 0, 1) := by decide +kernel
theorem dX7_writePlainly_49 : decode bX7_writePlainly 49 = .ok (.invokevirtual 265, 3) := by decide +kernel
theorem dX7_writePlainly_52 : decode bX7_writePlainly 52 = .ok (.aload_n 0, 1) := by decide +kernel
theorem dX7_writePlainly_53 : decode bX7_writePlainly 53 = .ok (.iload_n 1, 1) := by decide +kernel
theorem dX7_writePlainly_54 : decode bX7_writePlainly 54 = .ok (.iload_n 1, 1) := by decide +kernel
theorem dX7_writePlainly_55 : decode bX7_writePlainly 55 = .ok (.invokevirtual 269, 3) := by decide +kernel
theorem dX7_writePlainly_58 : decode bX7_writePlainly 58 = .ok (.return_, 1) := by decide +kernel
abbrev bX7_writeByPattern : ByteArray := prog_1_method_31_code
def yX7_writeByPattern : MethodName := ⟨"WideDecimalDesk", "writeByPattern", "()V"⟩
def wsX7_writeByPattern : List Cond := Cond.code yX7_writeByPattern bX7_writeByPattern 2 none :: wsA
theorem dc_X7_writeByPattern : yX7_writeByPattern.cls ≠ "java/lang/invoke/MethodHandle" ∧ yX7_writeByPattern.cls ≠ "java/lang/invoke/VarHandle" ∧ (parseMethodDescriptor yX7_writeByPattern.desc).map (fun d => d.parameters.length) = some 0 := by decide +kernel
theorem dX7_writeByPattern_0 : decode bX7_writeByPattern 0 = .ok (.aload_n 0, 1) := by decide +kernel
theorem dX7_writeByPattern_1 : decode bX7_writeByPattern 1 = .ok (.getfield 62, 3) := by decide +kernel
theorem dX7_writeByPattern_4 : decode bX7_writeByPattern 4 = .ok (.getfield 272, 3) := by decide +kernel
theorem dX7_writeByPattern_7 : decode bX7_writeByPattern 7 = .ok (.ifCond .eq 10, 3) := by decide +kernel
theorem dX7_writeByPattern_10 : decode bX7_writeByPattern 10 = .ok (.aload_n 0, 1) := by decide +kernel
theorem dX7_writeByPattern_11 : decode bX7_writeByPattern 11 = .ok (.getfield 31, 3) := by decide +kernel
theorem dX7_writeByPattern_14 : decode bX7_writeByPattern 14 = .ok (.invokevirtual 275, 3) := by decide +kernel
theorem dX7_writeByPattern_17 : decode bX7_writeByPattern 17 = .ok (.aload_n 0, 1) := by decide +kernel
theorem dX7_writeByPattern_18 : decode bX7_writeByPattern 18 = .ok (.getfield 31, 3) := by decide +kernel
theorem dX7_writeByPattern_21 : decode bX7_writeByPattern 21 = .ok (.aload_n 0, 1) := by decide +kernel
theorem dX7_writeByPattern_22 : decode bX7_writeByPattern 22 = .ok (.getfield 62, 3) := by decide +kernel
theorem dX7_writeByPattern_25 : decode bX7_writeByPattern 25 = .ok (.getfield 278, 3) := by decide +kernel
theorem dX7_writeByPattern_28 : decode bX7_writeByPattern 28 = .ok (.iconst 1, 1) := by decide +kernel
theorem dX7_writeByPattern_29 : decode bX7_writeByPattern 29 = .ok (.invokevirtual 126, 3) := by decide +kernel
theorem dX7_writeByPattern_32 : decode bX7_writeByPattern 32 = .ok (.aload_n 0, 1) := by decide +kernel
theorem dX7_writeByPattern_33 : decode bX7_writeByPattern 33 = .ok (.getfield 25, 3) := by decide +kernel
theorem dX7_writeByPattern_36 : decode bX7_writeByPattern 36 = .ok (.invokevirtual 147, 3) := by decide +kernel
theorem dX7_writeByPattern_39 : decode bX7_writeByPattern 39 = .ok (.aload_n 0, 1) := by decide +kernel
theorem dX7_writeByPattern_40 : decode bX7_writeByPattern 40 = .ok (.invokevirtual 258, 3) := by decide +kernel
theorem dX7_writeByPattern_43 : decode bX7_writeByPattern 43 = .ok (.aload_n 0, 1) := by decide +kernel
theorem dX7_writeByPattern_44 : decode bX7_writeByPattern 44 = .ok (.getfield 31, 3) := by decide +kernel
theorem dX7_writeByPattern_47 : decode bX7_writeByPattern 47 = .ok (.getfield 261, 3) := by decide +kernel
theorem dX7_writeByPattern_50 : decode bX7_writeByPattern 50 = .ok (.istore_n 1, 1) := by decide +kernel
theorem dX7_writeByPattern_51 : decode bX7_writeByPattern 51 = .ok (.aload_n 0, 1) := by decide +kernel
theorem dX7_writeByPattern_52 : decode bX7_writeByPattern 52 = .ok (.getfield 55, 3) := by decide +kernel
theorem dX7_writeByPattern_55 : decode bX7_writeByPattern 55 = .ok (.aload_n 0, 1) := by decide +kernel
theorem dX7_writeByPattern_56 : decode bX7_writeByPattern 56 = .ok (.getfield 31, 3) := by decide +kernel
theorem dX7_writeByPattern_59 : decode bX7_writeByPattern 59 = .ok (.getfield 213, 3) := by decide +kernel
theorem dX7_writeByPattern_62 : decode bX7_writeByPattern 62 = .ok (.invokevirtual 249, 3) := by decide +kernel
theorem dX7_writeByPattern_65 : decode bX7_writeByPattern 65 = .ok (.aload_n 0, 1) := by decide +kernel
theorem dX7_writeByPattern_66 : decode bX7_writeByPattern 66 = .ok (.iload_n 1, 1) := by decide +kernel
theorem dX7_writeByPattern_67 : decode bX7_writeByPattern 67 = .ok (.aload_n 0, 1) := by decide +kernel
theorem dX7_writeByPattern_68 : decode bX7_writeByPattern 68 = .ok (.getfield 55, 3) := by decide +kernel
theorem dX7_writeByPattern_71 : decode bX7_writeByPattern 71 = .ok (.getfield 262, 3) := by decide +kernel
theorem dX7_writeByPattern_74 : decode bX7_writeByPattern 74 = .ok (.iload_n 1, 1) := by decide +kernel
theorem dX7_writeByPattern_75 : decode bX7_writeByPattern 75 = .ok (.isub, 1) := by decide +kernel
theorem dX7_writeByPattern_76 : decode bX7_writeByPattern 76 = .ok (.aload_n 0, 1) := by decide +kernel
theorem dX7_writeByPattern_77 : decode bX7_writeByPattern 77 = .ok (.getfield 62, 3) := by decide +kernel
theorem dX7_writeByPattern_80 : decode bX7_writeByPattern 80 = .ok (.getfield 281, 3) := by decide +kernel
theorem dX7_writeByPattern_83 : decode bX7_writeByPattern 83 = .ok (.invokestatic 236, 3) := by decide +kernel
theorem dX7_writeByPattern_86 : decode bX7_writeByPattern 86 = .ok (.aload_n 0, 1) := by decide +kernel
theorem dX7_writeByPattern_87 : decode bX7_writeByPattern 87 = .ok (.getfield 62, 3) := by decide +kernel
theorem dX7_writeByPattern_90 : decode bX7_writeByPattern 90 = .ok (.getfield 284, 3) := by decide +kernel
theorem dX7_writeByPattern_93 : decode bX7_writeByPattern 93 = .ok (.invokevirtual 265, 3) := by decide +kernel
theorem dX7_writeByPattern_96 : decode bX7_writeByPattern 96 = .ok (.aload_n 0, 1) := by decide +kernel
theorem dX7_writeByPattern_97 : decode bX7_writeByPattern 97 = .ok (.iload_n 1, 1) := by decide +kernel
theorem dX7_writeByPattern_98 : decode bX7_writeByPattern 98 = .ok (.aload_n 0, 1) := by decide +kernel
theorem dX7_writeByPattern_99 : decode bX7_writeByPattern 99 = .ok (.iload_n 1, 1) := by decide +kernel
theorem dX7_writeByPattern_100 : decode bX7_writeByPattern 100 = .ok (.invokevirtual 287, 3) := by decide +kernel
theorem dX7_writeByPattern_103 : decode bX7_writeByPattern 103 = .ok (.invokevirtual 269, 3) := by decide +kernel
theorem dX7_writeByPattern_106 : decode bX7_writeByPattern 106 = .ok (.aload_n 0, 1) := by decide +kernel
theorem dX7_writeByPattern_107 : decode bX7_writeByPattern 107 = .ok (.getfield 62, 3) := by decide +kernel
theorem dX7_writeByPattern_110 : decode bX7_writeByPattern 110 = .ok (.getfield 272, 3) := by decide +kernel
theorem dX7_writeByPattern_113 : decode bX7_writeByPattern 113 = .ok (.ifCond .eq 13, 3) := by decide +kernel
theorem dX7_writeByPattern_116 : decode bX7_writeByPattern 116 = .ok (.aload_n 0, 1) := by decide +kernel
theorem dX7_writeByPattern_117 : decode bX7_writeByPattern 117 = .ok (.getfield 25, 3) := by decide +kernel
theorem dX7_writeByPattern_120 : decode bX7_writeByPattern 120 = .ok (.bipush 37, 2) := by decide +kernel
theorem dX7_writeByPattern_122 : decode bX7_writeByPattern 122 = .ok (.invokevirtual 143, 3) := by decide +kernel
theorem dX7_writeByPattern_125 : decode bX7_writeByPattern 125 = .ok (.pop, 1) := by decide +kernel
theorem dX7_writeByPattern_126 : decode bX7_writeByPattern 126 = .ok (.return_, 1) := by decide +kernel
abbrev bX7_writeSign : ByteArray := prog_1_method_32_code
def yX7_writeSign : MethodName := ⟨"WideDecimalDesk", "writeSign", "()V"⟩
def wsX7_writeSign : List Cond := Cond.code yX7_writeSign bX7_writeSign 1 none :: wsA
theorem dc_X7_writeSign : yX7_writeSign.cls ≠ "java/lang/invoke/MethodHandle" ∧ yX7_writeSign.cls ≠ "java/lang/invoke/VarHandle" ∧ (parseMethodDescriptor yX7_writeSign.desc).map (fun d => d.parameters.length) = some 0 := by decide +kernel
theorem dX7_writeSign_0 : decode bX7_writeSign 0 = .ok (.aload_n 0, 1) := by decide +kernel
theorem dX7_writeSign_1 : decode bX7_writeSign 1 = .ok (.getfield 31, 3) := by decide +kernel
theorem dX7_writeSign_4 : decode bX7_writeSign 4 = .ok (.getfield 200, 3) := by decide +kernel
theorem dX7_writeSign_7 : decode bX7_writeSign 7 = .ok (.ifCond .eq 26, 3) := by decide +kernel
theorem dX7_writeSign_10 : decode bX7_writeSign 10 = .ok (.aload_n 0, 1) := by decide +kernel
theorem dX7_writeSign_11 : decode bX7_writeSign 11 = .ok (.getfield 31, 3) := by decide +kernel
theorem dX7_writeSign_14 : decode bX7_writeSign 14 = .ok (.getfield 213, 3) := by decide +kernel
theorem dX7_writeSign_17 : decode bX7_writeSign 17 = .ok (.invokevirtual 290, 3) := by decide +kernel
theorem dX7_writeSign_20 : decode bX7_writeSign 20 = .ok (.ifCond .ne 13, 3) := by decide +kernel
theorem dX7_writeSign_23 : decode bX7_writeSign 23 = .ok (.aload_n 0, 1) := by decide +kernel
theorem dX7_writeSign_24 : decode bX7_writeSign 24 = .ok (.getfield 25, 3) := by decide +kernel
theorem dX7_writeSign_27 : decode bX7_writeSign 27 = .ok (.bipush 45, 2) := by decide +kernel
theorem dX7_writeSign_29 : decode bX7_writeSign 29 = .ok (.invokevirtual 143, 3) := by decide +kernel
theorem dX7_writeSign_32 : decode bX7_writeSign 32 = .ok (.pop, 1) := by decide +kernel
theorem dX7_writeSign_33 : decode bX7_writeSign 33 = .ok (.return_, 1) := by decide +kernel
abbrev bX7_writeBeforePoint : ByteArray := prog_1_method_33_code
def yX7_writeBeforePoint : MethodName := ⟨"WideDecimalDesk", "writeBeforePoint", "(IIZ)V"⟩
def wsX7_writeBeforePoint : List Cond := Cond.code yX7_writeBeforePoint bX7_writeBeforePoint 5 none :: wsA
theorem dc_X7_writeBeforePoint : yX7_writeBeforePoint.cls ≠ "java/lang/invoke/MethodHandle" ∧ yX7_writeBeforePoint.cls ≠ "java/lang/invoke/VarHandle" ∧ (parseMethodDescriptor yX7_writeBeforePoint.desc).map (fun d => d.parameters.length) = some 3 := by decide +kernel
theorem dX7_writeBeforePoint_0 : decode bX7_writeBeforePoint 0 = .ok (.iload_n 2, 1) := by decide +kernel
theorem dX7_writeBeforePoint_1 : decode bX7_writeBeforePoint 1 = .ok (.iconst 1, 1) := by decide +kernel
theorem dX7_writeBeforePoint_2 : decode bX7_writeBeforePoint 2 = .ok (.isub, 1) := by decide +kernel
theorem dX7_writeBeforePoint_3 : decode bX7_writeBeforePoint 3 = .ok (.istore 4, 2) := by decide +kernel
theorem dX7_writeBeforePoint_5 : decode bX7_writeBeforePoint 5 = .ok (.iload 4, 2) := by decide +kernel
theorem dX7_writeBeforePoint_7 : decode bX7_writeBeforePoint 7 = .ok (.ifCond .lt 54, 3) := by decide +kernel
theorem dX7_writeBeforePoint_10 : decode bX7_writeBeforePoint 10 = .ok (.aload_n 0, 1) := by decide +kernel
theorem dX7_writeBeforePoint_11 : decode bX7_writeBeforePoint 11 = .ok (.getfield 25, 3) := by decide +kernel
theorem dX7_writeBeforePoint_14 : decode bX7_writeBeforePoint 14 = .ok (.aload_n 0, 1) := by decide +kernel
theorem dX7_writeBeforePoint_15 : decode bX7_writeBeforePoint 15 = .ok (.getfield 55, 3) := by decide +kernel
theorem dX7_writeBeforePoint_18 : decode bX7_writeBeforePoint 18 = .ok (.iload_n 1, 1) := by decide +kernel
theorem dX7_writeBeforePoint_19 : decode bX7_writeBeforePoint 19 = .ok (.iload 4, 2) := by decide +kernel
theorem dX7_writeBeforePoint_21 : decode bX7_writeBeforePoint 21 = .ok (.iadd, 1) := by decide +kernel
theorem dX7_writeBeforePoint_22 : decode bX7_writeBeforePoint 22 = .ok (.invokevirtual 291, 3) := by decide +kernel
theorem dX7_writeBeforePoint_25 : decode bX7_writeBeforePoint 25 = .ok (.invokevirtual 143, 3) := by decide +kernel
theorem dX7_writeBeforePoint_28 : decode bX7_writeBeforePoint 28 = .ok (.pop, 1) := by decide +kernel
theorem dX7_writeBeforePoint_29 : decode bX7_writeBeforePoint 29 = .ok (.iload_n 3, 1) := by decide +kernel
theorem dX7_writeBeforePoint_30 : decode bX7_writeBeforePoint 30 = .ok (.ifCond .eq 25, 3) := by decide +kernel
theorem dX7_writeBeforePoint_33 : decode bX7_writeBeforePoint 33 = .ok (.iload 4, 2) := by decide +kernel
theorem dX7_writeBeforePoint_35 : decode bX7_writeBeforePoint 35 = .ok (.ifCond .le 20, 3) := by decide +kernel
theorem dX7_writeBeforePoint_38 : decode bX7_writeBeforePoint 38 = .ok (.iload 4, 2) := by decide +kernel
theorem dX7_writeBeforePoint_40 : decode bX7_writeBeforePoint 40 = .ok (.iconst 3, 1) := by decide +kernel
theorem dX7_writeBeforePoint_41 : decode bX7_writeBeforePoint 41 = .ok (.irem, 1) := by decide +kernel
theorem dX7_writeBeforePoint_42 : decode bX7_writeBeforePoint 42 = .ok (.ifCond .ne 13, 3) := by decide +kernel
theorem dX7_writeBeforePoint_45 : decode bX7_writeBeforePoint 45 = .ok (.aload_n 0, 1) := by decide +kernel
theorem dX7_writeBeforePoint_46 : decode bX7_writeBeforePoint 46 = .ok (.getfield 25, 3) := by decide +kernel
theorem dX7_writeBeforePoint_49 : decode bX7_writeBeforePoint 49 = .ok (.bipush 44, 2) := by decide +kernel
theorem dX7_writeBeforePoint_51 : decode bX7_writeBeforePoint 51 = .ok (.invokevirtual 143, 3) := by decide +kernel
theorem dX7_writeBeforePoint_54 : decode bX7_writeBeforePoint 54 = .ok (.pop, 1) := by decide +kernel
theorem dX7_writeBeforePoint_55 : decode bX7_writeBeforePoint 55 = .ok (.iinc 4 (-1), 3) := by decide +kernel
theorem dX7_writeBeforePoint_58 : decode bX7_writeBeforePoint 58 = .ok (.goto (-53), 3) := by decide +kernel
theorem dX7_writeBeforePoint_61 : decode bX7_writeBeforePoint 61 = .ok (.return_, 1) := by decide +kernel
abbrev bX7_writeBehindPoint : ByteArray := prog_1_method_34_code
def yX7_writeBehindPoint : MethodName := ⟨"WideDecimalDesk", "writeBehindPoint", "(II)V"⟩
def wsX7_writeBehindPoint : List Cond := Cond.code yX7_writeBehindPoint bX7_writeBehindPoint 4 none :: wsA
theorem dc_X7_writeBehindPoint : yX7_writeBehindPoint.cls ≠ "java/lang/invoke/MethodHandle" ∧ yX7_writeBehindPoint.cls ≠ "java/lang/invoke/VarHandle" ∧ (parseMethodDescriptor yX7_writeBehindPoint.desc).map (fun d => d.parameters.length) = some 2 := by decide +kernel
theorem dX7_writeBehindPoint_0 : decode bX7_writeBehindPoint 0 = .ok (.iload_n 2, 1) := by decide +kernel
theorem dX7_writeBehindPoint_1 : decode bX7_writeBehindPoint 1 = .ok (.ifCond .le 13, 3) := by decide +kernel
theorem dX7_writeBehindPoint_4 : decode bX7_writeBehindPoint 4 = .ok (.aload_n 0, 1) := by decide +kernel
theorem dX7_writeBehindPoint_5 : decode bX7_writeBehindPoint 5 = .ok (.getfield 25, 3) := by decide +kernel
theorem dX7_writeBehindPoint_8 : decode bX7_writeBehindPoint 8 = .ok (.bipush 46, 2) := by decide +kernel
theorem dX7_writeBehindPoint_10 : decode bX7_writeBehindPoint 10 = .ok (.invokevirtual 143, 3) := by decide +kernel
theorem dX7_writeBehindPoint_13 : decode bX7_writeBehindPoint 13 = .ok (.pop, 1) := by decide +kernel
theorem dX7_writeBehindPoint_14 : decode bX7_writeBehindPoint 14 = .ok (.iconst 1, 1) := by decide +kernel
theorem dX7_writeBehindPoint_15 : decode bX7_writeBehindPoint 15 = .ok (.istore_n 3, 1) := by decide +kernel
theorem dX7_writeBehindPoint_16 : decode bX7_writeBehindPoint 16 = .ok (.iload_n 3, 1) := by decide +kernel
theorem dX7_writeBehindPoint_17 : decode bX7_writeBehindPoint 17 = .ok (.iload_n 2, 1) := by decide +kernel
theorem dX7_writeBehindPoint_18 : decode bX7_writeBehindPoint 18 = .ok (.if_icmp .gt 27, 3) := by decide +kernel
theorem dX7_writeBehindPoint_21 : decode bX7_writeBehindPoint 21 = .ok (.aload_n 0, 1) := by decide +kernel
theorem dX7_writeBehindPoint_22 : decode bX7_writeBehindPoint 22 = .ok (.getfield 25, 3) := by decide +kernel
theorem dX7_writeBehindPoint_25 : decode bX7_writeBehindPoint 25 = .ok (.aload_n 0, 1) := by decide +kernel
theorem dX7_writeBehindPoint_26 : decode bX7_writeBehindPoint 26 = .ok (.getfield 55, 3) := by decide +kernel
theorem dX7_writeBehindPoint_29 : decode bX7_writeBehindPoint 29 = .ok (.iload_n 1, 1) := by decide +kernel
theorem dX7_writeBehindPoint_30 : decode bX7_writeBehindPoint 30 = .ok (.iload_n 3, 1) := by decide +kernel
theorem dX7_writeBehindPoint_31 : decode bX7_writeBehindPoint 31 = .ok (.isub, 1) := by decide +kernel
theorem dX7_writeBehindPoint_32 : decode bX7_writeBehindPoint 32 = .ok (.invokevirtual 291, 3) := by decide +kernel
theorem dX7_writeBehindPoint_35 : decode bX7_writeBehindPoint 35 = .ok (.invokevirtual 143, 3) := by decide +kernel
theorem dX7_writeBehindPoint_38 : decode bX7_writeBehindPoint 38 = .ok (.pop, 1) := by decide +kernel
theorem dX7_writeBehindPoint_39 : decode bX7_writeBehindPoint 39 = .ok (.iinc 3 1, 3) := by decide +kernel
theorem dX7_writeBehindPoint_42 : decode bX7_writeBehindPoint 42 = .ok (.goto (-26), 3) := by decide +kernel
theorem dX7_writeBehindPoint_45 : decode bX7_writeBehindPoint 45 = .ok (.return_, 1) := by decide +kernel
abbrev bX7_placesBehind : ByteArray := prog_1_method_35_code
def yX7_placesBehind : MethodName := ⟨"WideDecimalDesk", "placesBehind", "(I)I"⟩
def wsX7_placesBehind : List Cond := Cond.code yX7_placesBehind bX7_placesBehind 3 (some .int) :: wsA
theorem dc_X7_placesBehind : yX7_placesBehind.cls ≠ "java/lang/invoke/MethodHandle" ∧ yX7_placesBehind.cls ≠ "java/lang/invoke/VarHandle" ∧ (parseMethodDescriptor yX7_placesBehind.desc).map (fun d => d.parameters.length) = some 1 := by decide +kernel
theorem dX7_placesBehind_0 : decode bX7_placesBehind 0 = .ok (.aload_n 0, 1) := by decide +kernel
theorem dX7_placesBehind_1 : decode bX7_placesBehind 1 = .ok (.getfield 62, 3) := by decide +kernel
theorem dX7_placesBehind_4 : decode bX7_placesBehind 4 = .ok (.getfield 278, 3) := by decide +kernel
theorem dX7_placesBehind_7 : decode bX7_placesBehind 7 = .ok (.istore_n 2, 1) := by decide +kernel
theorem dX7_placesBehind_8 : decode bX7_placesBehind 8 = .ok (.iload_n 2, 1) := by decide +kernel
theorem dX7_placesBehind_9 : decode bX7_placesBehind 9 = .ok (.aload_n 0, 1) := by decide +kernel
theorem dX7_placesBehind_10 : decode bX7_placesBehind 10 = .ok (.getfield 62, 3) := by decide +kernel
theorem dX7_placesBehind_13 : decode bX7_placesBehind 13 = .ok (.getfield 295, 3) := by decide +kernel
theorem dX7_placesBehind_16 : decode bX7_placesBehind 16 = .ok (.if_icmp .le 24, 3) := by decide +kernel
theorem dX7_placesBehind_19 : decode bX7_placesBehind 19 = .ok (.aload_n 0, 1) := by decide +kernel
theorem dX7_placesBehind_20 : decode bX7_placesBehind 20 = .ok (.getfield 55, 3) := by decide +kernel
theorem dX7_placesBehind_23 : decode bX7_placesBehind 23 = .ok (.iload_n 1, 1) := by decide +kernel
theorem dX7_placesBehind_24 : decode bX7_placesBehind 24 = .ok (.iload_n 2, 1) := by decide +kernel
theorem dX7_placesBehind_25 : decode bX7_placesBehind 25 = .ok (.isub, 1) := by decide +kernel
theorem dX7_placesBehind_26 : decode bX7_placesBehind 26 = .ok (.invokevirtual 291, 3) := by decide +kernel
theorem dX7_placesBehind_29 : decode bX7_placesBehind 29 = .ok (.bipush 48, 2) := by decide +kernel
theorem dX7_placesBehind_31 : decode bX7_placesBehind 31 = .ok (.if_icmp .ne 9, 3) := by decide +kernel
theorem dX7_placesBehind_34 : decode bX7_placesBehind 34 = .ok (.iinc 2 (-1), 3) := by decide +kernel
theorem dX7_placesBehind_37 : decode bX7_placesBehind 37 = .ok (.goto (-29), 3) := by decide +kernel
theorem dX7_placesBehind_40 : decode bX7_placesBehind 40 = .ok (.iload_n 2, 1) := by decide +kernel
theorem dX7_placesBehind_41 : decode bX7_placesBehind 41 = .ok (.ireturn, 1) := by decide +kernel
