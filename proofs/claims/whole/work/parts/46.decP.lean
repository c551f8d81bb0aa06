abbrev bX4_init : ByteArray := prog_6_method_1_code
def yX4_init : MethodName := ⟨"WideDecimalDesk$Pattern", "<init>", "()V"⟩
def wsX4_init : List Cond := Cond.code yX4_init bX4_init 1 none :: wsA
theorem dc_X4_init : yX4_init.cls ≠ "java/lang/invoke/MethodHandle" ∧ yX4_init.cls ≠ "java/lang/invoke/VarHandle" ∧ (parseMethodDescriptor yX4_init.desc).map (fun d => d.parameters.length) = some 0 := by decide +kernel
theorem dX4_init_0 : decode bX4_init 0 = .ok (.aload_n 0, 1) := by decide +kernel
theorem dX4_init_1 : decode bX4_init 1 = .ok (.invokespecial 1, 3) := by decide +kernel
theorem dX4_init_4 : decode bX4_init 4 = .ok (.return_, 1) := by decide +kernel
abbrev bX4_read : ByteArray := prog_6_method_2_code
def yX4_read : MethodName := ⟨"WideDecimalDesk$Pattern", "read", "(LWideDecimalDesk$Line;)Z"⟩
def wsX4_read : List Cond := Cond.code yX4_read bX4_read 5 (some .boolean) :: wsA
theorem dc_X4_read : yX4_read.cls ≠ "java/lang/invoke/MethodHandle" ∧ yX4_read.cls ≠ "java/lang/invoke/VarHandle" ∧ (parseMethodDescriptor yX4_read.desc).map (fun d => d.parameters.length) = some 1 := by decide +kernel
theorem dX4_read_0 : decode bX4_read 0 = .ok (.aload_n 0, 1) := by decide +kernel
theorem dX4_read_1 : decode bX4_read 1 = .ok (.aload_n 1, 1) := by decide +kernel
theorem dX4_read_2 : decode bX4_read 2 = .ok (.invokevirtual 7, 3) := by decide +kernel
theorem dX4_read_5 : decode bX4_read 5 = .ok (.istore_n 2, 1) := by decide +kernel
theorem dX4_read_6 : decode bX4_read 6 = .ok (.aload_n 0, 1) := by decide +kernel
theorem dX4_read_7 : decode bX4_read 7 = .ok (.aload_n 1, 1) := by decide +kernel
theorem dX4_read_8 : decode bX4_read 8 = .ok (.iload_n 2, 1) := by decide +kernel
theorem dX4_read_9 : decode bX4_read 9 = .ok (.invokevirtual 13, 3) := by decide +kernel
theorem dX4_read_12 : decode bX4_read 12 = .ok (.istore_n 3, 1) := by decide +kernel
theorem dX4_read_13 : decode bX4_read 13 = .ok (.aload_n 0, 1) := by decide +kernel
theorem dX4_read_14 : decode bX4_read 14 = .ok (.aload_n 1, 1) := by decide +kernel
theorem dX4_read_15 : decode bX4_read 15 = .ok (.iload_n 3, 1) := by decide +kernel
theorem dX4_read_16 : decode bX4_read 16 = .ok (.invokevirtual 17, 3) := by decide +kernel
theorem dX4_read_19 : decode bX4_read 19 = .ok (.bipush 37, 2) := by decide +kernel
theorem dX4_read_21 : decode bX4_read 21 = .ok (.if_icmp .ne 7, 3) := by decide +kernel
theorem dX4_read_24 : decode bX4_read 24 = .ok (.iconst 1, 1) := by decide +kernel
theorem dX4_read_25 : decode bX4_read 25 = .ok (.goto 4, 3) := by decide +kernel
theorem dX4_read_28 : decode bX4_read 28 = .ok (.iconst 0, 1) := by decide +kernel
theorem dX4_read_29 : decode bX4_read 29 = .ok (.putfield 23, 3) := by decide +kernel
theorem dX4_read_32 : decode bX4_read 32 = .ok (.aload_n 0, 1) := by decide +kernel
theorem dX4_read_33 : decode bX4_read 33 = .ok (.getfield 23, 3) := by decide +kernel
theorem dX4_read_36 : decode bX4_read 36 = .ok (.ifCond .eq 9, 3) := by decide +kernel
theorem dX4_read_39 : decode bX4_read 39 = .ok (.iload_n 3, 1) := by decide +kernel
theorem dX4_read_40 : decode bX4_read 40 = .ok (.iconst 1, 1) := by decide +kernel
theorem dX4_read_41 : decode bX4_read 41 = .ok (.iadd, 1) := by decide +kernel
theorem dX4_read_42 : decode bX4_read 42 = .ok (.goto 4, 3) := by decide +kernel
theorem dX4_read_45 : decode bX4_read 45 = .ok (.iload_n 3, 1) := by decide +kernel
theorem dX4_read_46 : decode bX4_read 46 = .ok (.istore 4, 2) := by decide +kernel
theorem dX4_read_48 : decode bX4_read 48 = .ok (.iload 4, 2) := by decide +kernel
theorem dX4_read_50 : decode bX4_read 50 = .ok (.aload_n 1, 1) := by decide +kernel
theorem dX4_read_51 : decode bX4_read 51 = .ok (.getfield 27, 3) := by decide +kernel
theorem dX4_read_54 : decode bX4_read 54 = .ok (.if_icmp .ne 21, 3) := by decide +kernel
theorem dX4_read_57 : decode bX4_read 57 = .ok (.aload_n 0, 1) := by decide +kernel
theorem dX4_read_58 : decode bX4_read 58 = .ok (.getfield 31, 3) := by decide +kernel
theorem dX4_read_61 : decode bX4_read 61 = .ok (.ifCond .ne 10, 3) := by decide +kernel
theorem dX4_read_64 : decode bX4_read 64 = .ok (.aload_n 0, 1) := by decide +kernel
theorem dX4_read_65 : decode bX4_read 65 = .ok (.getfield 34, 3) := by decide +kernel
theorem dX4_read_68 : decode bX4_read 68 = .ok (.ifCond .le 7, 3) := by decide +kernel
theorem dX4_read_71 : decode bX4_read 71 = .ok (.iconst 1, 1) := by decide +kernel
theorem dX4_read_72 : decode bX4_read 72 = .ok (.goto 4, 3) := by decide +kernel
theorem dX4_read_75 : decode bX4_read 75 = .ok (.iconst 0, 1) := by decide +kernel
theorem dX4_read_76 : decode bX4_read 76 = .ok (.ireturn, 1) := by decide +kernel
abbrev bX4_readFront : ByteArray := prog_6_method_3_code
def yX4_readFront : MethodName := ⟨"WideDecimalDesk$Pattern", "readFront", "(LWideDecimalDesk$Line;)I"⟩
def wsX4_readFront : List Cond := Cond.code yX4_readFront bX4_readFront 5 (some .int) :: wsA
theorem dc_X4_readFront : yX4_readFront.cls ≠ "java/lang/invoke/MethodHandle" ∧ yX4_readFront.cls ≠ "java/lang/invoke/VarHandle" ∧ (parseMethodDescriptor yX4_readFront.desc).map (fun d => d.parameters.length) = some 1 := by decide +kernel
theorem dX4_readFront_0 : decode bX4_readFront 0 = .ok (.aload_n 0, 1) := by decide +kernel
theorem dX4_readFront_1 : decode bX4_readFront 1 = .ok (.iconst 0, 1) := by decide +kernel
theorem dX4_readFront_2 : decode bX4_readFront 2 = .ok (.putfield 31, 3) := by decide +kernel
theorem dX4_readFront_5 : decode bX4_readFront 5 = .ok (.aload_n 0, 1) := by decide +kernel
theorem dX4_readFront_6 : decode bX4_readFront 6 = .ok (.iconst 0, 1) := by decide +kernel
theorem dX4_readFront_7 : decode bX4_readFront 7 = .ok (.putfield 37, 3) := by decide +kernel
theorem dX4_readFront_10 : decode bX4_readFront 10 = .ok (.aload_n 0, 1) := by decide +kernel
theorem dX4_readFront_11 : decode bX4_readFront 11 = .ok (.iconst 0, 1) := by decide +kernel
theorem dX4_readFront_12 : decode bX4_readFront 12 = .ok (.putfield 40, 3) := by decide +kernel
theorem dX4_readFront_15 : decode bX4_readFront 15 = .ok (.iconst 0, 1) := by decide +kernel
theorem dX4_readFront_16 : decode bX4_readFront 16 = .ok (.istore_n 2, 1) := by decide +kernel
theorem dX4_readFront_17 : decode bX4_readFront 17 = .ok (.iconst 0, 1) := by decide +kernel
theorem dX4_readFront_18 : decode bX4_readFront 18 = .ok (.istore_n 3, 1) := by decide +kernel
theorem dX4_readFront_19 : decode bX4_readFront 19 = .ok (.iload_n 3, 1) := by decide +kernel
theorem dX4_readFront_20 : decode bX4_readFront 20 = .ok (.aload_n 1, 1) := by decide +kernel
theorem dX4_readFront_21 : decode bX4_readFront 21 = .ok (.getfield 27, 3) := by decide +kernel
theorem dX4_readFront_24 : decode bX4_readFront 24 = .ok (.if_icmp .ge 80, 3) := by decide +kernel
theorem dX4_readFront_27 : decode bX4_readFront 27 = .ok (.aload_n 1, 1) := by decide +kernel
theorem dX4_readFront_28 : decode bX4_readFront 28 = .ok (.iload_n 3, 1) := by decide +kernel
theorem dX4_readFront_29 : decode bX4_readFront 29 = .ok (.invokevirtual 17, 3) := by decide +kernel
theorem dX4_readFront_32 : decode bX4_readFront 32 = .ok (.invokestatic 43, 3) := by decide +kernel
theorem dX4_readFront_35 : decode bX4_readFront 35 = .ok (.ifCond .eq 69, 3) := by decide +kernel
theorem dX4_readFront_38 : decode bX4_readFront 38 = .ok (.aload_n 1, 1) := by decide +kernel
theorem dX4_readFront_39 : decode bX4_readFront 39 = .ok (.iload_n 3, 1) := by decide +kernel
theorem dX4_readFront_40 : decode bX4_readFront 40 = .ok (.invokevirtual 17, 3) := by decide +kernel
theorem dX4_readFront_43 : decode bX4_readFront 43 = .ok (.istore 4, 2) := by decide +kernel
theorem dX4_readFront_45 : decode bX4_readFront 45 = .ok (.iload 4, 2) := by decide +kernel
theorem dX4_readFront_47 : decode bX4_readFront 47 = .ok (.bipush 44, 2) := by decide +kernel
theorem dX4_readFront_49 : decode bX4_readFront 49 = .ok (.if_icmp .ne 11, 3) := by decide +kernel
theorem dX4_readFront_52 : decode bX4_readFront 52 = .ok (.aload_n 0, 1) := by decide +kernel
theorem dX4_readFront_53 : decode bX4_readFront 53 = .ok (.getfield 31, 3) := by decide +kernel
theorem dX4_readFront_56 : decode bX4_readFront 56 = .ok (.istore_n 2, 1) := by decide +kernel
theorem dX4_readFront_57 : decode bX4_readFront 57 = .ok (.goto 41, 3) := by decide +kernel
theorem dX4_readFront_60 : decode bX4_readFront 60 = .ok (.aload_n 0, 1) := by decide +kernel
theorem dX4_readFront_61 : decode bX4_readFront 61 = .ok (.dup, 1) := by decide +kernel
theorem dX4_readFront_62 : decode bX4_readFront 62 = .ok (.getfield 37, 3) := by decide +kernel
theorem dX4_readFront_65 : decode bX4_readFront 65 = .ok (.iload 4, 2) := by decide +kernel
theorem dX4_readFront_67 : decode bX4_readFront 67 = .ok (.bipush 48, 2) := by decide +kernel
theorem dX4_readFront_69 : decode bX4_readFront 69 = .ok (.if_icmp .eq 10, 3) := by decide +kernel
theorem dX4_readFront_72 : decode bX4_readFront 72 = .ok (.aload_n 0, 1) := by decide +kernel
theorem dX4_readFront_73 : decode bX4_readFront 73 = .ok (.getfield 37, 3) := by decide +kernel
theorem dX4_readFront_76 : decode bX4_readFront 76 = .ok (.ifCond .le 7, 3) := by decide +kernel
theorem dX4_readFront_79 : decode bX4_readFront 79 = .ok (.iconst 1, 1) := by decide +kernel
theorem dX4_readFront_80 : decode bX4_readFront 80 = .ok (.goto 4, 3) := by decide +kernel
theorem dX4_readFront_83 : decode bX4_readFront 83 = .ok (.iconst 0, 1) := by decide +kernel
theorem dX4_readFront_84 : decode bX4_readFront 84 = .ok (.iadd, 1) := by decide +kernel
theorem dX4_readFront_85 : decode bX4_readFront 85 = .ok (.putfield 37, 3) := by decide +kernel
theorem dX4_readFront_88 : decode bX4_readFront 88 = .ok (.aload_n 0, 1) := by decide +kernel
theorem dX4_readFront_89 : decode bX4_readFront 89 = .ok (.iload_n 2, 1) := by decide +kernel
theorem dX4_readFront_90 : decode bX4_readFront 90 = .ok (.putfield 40, 3) := by decide +kernel
theorem dX4_readFront_93 : decode bX4_readFront 93 = .ok (.aload_n 0, 1) := by decide +kernel
theorem dX4_readFront_94 : decode bX4_readFront 94 = .ok (.iconst 1, 1) := by decide +kernel
theorem dX4_readFront_95 : decode bX4_readFront 95 = .ok (.putfield 31, 3) := by decide +kernel
theorem dX4_readFront_98 : decode bX4_readFront 98 = .ok (.iinc 3 1, 3) := by decide +kernel
theorem dX4_readFront_101 : decode bX4_readFront 101 = .ok (.goto (-82), 3) := by decide +kernel
theorem dX4_readFront_104 : decode bX4_readFront 104 = .ok (.iload_n 3, 1) := by decide +kernel
theorem dX4_readFront_105 : decode bX4_readFront 105 = .ok (.ireturn, 1) := by decide +kernel
abbrev bX4_readBack : ByteArray := prog_6_method_4_code
def yX4_readBack : MethodName := ⟨"WideDecimalDesk$Pattern", "readBack", "(LWideDecimalDesk$Line;I)I"⟩
def wsX4_readBack : List Cond := Cond.code yX4_readBack bX4_readBack 4 (some .int) :: wsA
theorem dc_X4_readBack : yX4_readBack.cls ≠ "java/lang/invoke/MethodHandle" ∧ yX4_readBack.cls ≠ "java/lang/invoke/VarHandle" ∧ (parseMethodDescriptor yX4_readBack.desc).map (fun d => d.parameters.length) = some 2 := by decide +kernel
theorem dX4_readBack_0 : decode bX4_readBack 0 = .ok (.aload_n 0, 1) := by decide +kernel
theorem dX4_readBack_1 : decode bX4_readBack 1 = .ok (.iconst 0, 1) := by decide +kernel
theorem dX4_readBack_2 : decode bX4_readBack 2 = .ok (.putfield 34, 3) := by decide +kernel
theorem dX4_readBack_5 : decode bX4_readBack 5 = .ok (.aload_n 0, 1) := by decide +kernel
theorem dX4_readBack_6 : decode bX4_readBack 6 = .ok (.iconst 0, 1) := by decide +kernel
theorem dX4_readBack_7 : decode bX4_readBack 7 = .ok (.putfield 47, 3) := by decide +kernel
theorem dX4_readBack_10 : decode bX4_readBack 10 = .ok (.aload_n 1, 1) := by decide +kernel
theorem dX4_readBack_11 : decode bX4_readBack 11 = .ok (.iload_n 2, 1) := by decide +kernel
theorem dX4_readBack_12 : decode bX4_readBack 12 = .ok (.invokevirtual 17, 3) := by decide +kernel
theorem dX4_readBack_15 : decode bX4_readBack 15 = .ok (.bipush 46, 2) := by decide +kernel
theorem dX4_readBack_17 : decode bX4_readBack 17 = .ok (.if_icmp .eq 5, 3) := by decide +kernel
theorem dX4_readBack_20 : decode bX4_readBack 20 = .ok (.iload_n 2, 1) := by decide +kernel
theorem dX4_readBack_21 : decode bX4_readBack 21 = .ok (.ireturn, 1) := by decide +kernel
theorem dX4_readBack_22 : decode bX4_readBack 22 = .ok (.iload_n 2, 1) := by decide +kernel
theorem dX4_readBack_23 : decode bX4_readBack 23 = .ok (.iconst 1, 1) := by decide +kernel
theorem dX4_readBack_24 : decode bX4_readBack 24 = .ok (.iadd, 1) := by decide +kernel
theorem dX4_readBack_25 : decode bX4_readBack 25 = .ok (.istore_n 3, 1) := by decide +kernel
theorem dX4_readBack_26 : decode bX4_readBack 26 = .ok (.iload_n 3, 1) := by decide +kernel
theorem dX4_readBack_27 : decode bX4_readBack 27 = .ok (.aload_n 1, 1) := by decide +kernel
theorem dX4_readBack_28 : decode bX4_readBack 28 = .ok (.getfield 27, 3) := by decide +kernel
theorem dX4_readBack_31 : decode bX4_readBack 31 = .ok (.if_icmp .ge 48, 3) := by decide +kernel
theorem dX4_readBack_34 : decode bX4_readBack 34 = .ok (.aload_n 1, 1) := by decide +kernel
theorem dX4_readBack_35 : decode bX4_readBack 35 = .ok (.iload_n 3, 1) := by decide +kernel
theorem dX4_readBack_36 : decode bX4_readBack 36 = .ok (.invokevirtual 17, 3) := by decide +kernel
theorem dX4_readBack_39 : decode bX4_readBack 39 = .ok (.invokestatic 50, 3) := by decide +kernel
theorem dX4_readBack_42 : decode bX4_readBack 42 = .ok (.ifCond .eq 37, 3) := by decide +kernel
theorem dX4_readBack_45 : decode bX4_readBack 45 = .ok (.aload_n 0, 1) := by decide +kernel
theorem dX4_readBack_46 : decode bX4_readBack 46 = .ok (.dup, 1) := by decide +kernel
theorem dX4_readBack_47 : decode bX4_readBack 47 = .ok (.getfield 34, 3) := by decide +kernel
theorem dX4_readBack_50 : decode bX4_readBack 50 = .ok (.iconst 1, 1) := by decide +kernel
theorem dX4_readBack_51 : decode bX4_readBack 51 = .ok (.iadd, 1) := by decide +kernel
theorem dX4_readBack_52 : decode bX4_readBack 52 = .ok (.putfield 34, 3) := by decide +kernel
theorem dX4_readBack_55 : decode bX4_readBack 55 = .ok (.aload_n 1, 1) := by decide +kernel
theorem dX4_readBack_56 : decode bX4_readBack 56 = .ok (.iload_n 3, 1) := by decide +kernel
theorem dX4_readBack_57 : decode bX4_readBack 57 = .ok (.invokevirtual 17, 3) := by decide +kernel
theorem dX4_readBack_60 : decode bX4_readBack 60 = .ok (.bipush 48, 2) := by decide +kernel
theorem dX4_readBack_62 : decode bX4_readBack 62 = .ok (.if_icmp .ne 11, 3) := by decide +kernel
theorem dX4_readBack_65 : decode bX4_readBack 65 = .ok (.aload_n 0, 1) := by decide +kernel
theorem dX4_readBack_66 : decode bX4_readBack 66 = .ok (.aload_n 0, 1) := by decide +kernel
theorem dX4_readBack_67 : decode bX4_readBack 67 = .ok (.getfield 34, 3) := by decide +kernel
theorem dX4_readBack_70 : decode bX4_readBack 70 = .ok (.putfield 47, 3) := by decide +kernel
theorem dX4_readBack_73 : decode bX4_readBack 73 = .ok (.iinc 3 1, 3) := by decide +kernel
theorem dX4_readBack_76 : decode bX4_readBack 76 = .ok (.goto (-50), 3) := by decide +kernel
theorem dX4_readBack_79 : decode bX4_readBack 79 = .ok (.iload_n 3, 1) := by decide +kernel
theorem dX4_readBack_80 : decode bX4_readBack 80 = .ok (.ireturn, 1) := by decide +kernel
abbrev bX4_isFrontMark : ByteArray := prog_6_method_5_code
def yX4_isFrontMark : MethodName := ⟨"WideDecimalDesk$Pattern", "isFrontMark", "(I)Z"⟩
def wsX4_isFrontMark : List Cond := Cond.code yX4_isFrontMark bX4_isFrontMark 1 (some .boolean) :: wsA
theorem dc_X4_isFrontMark : yX4_isFrontMark.cls ≠ "java/lang/invoke/MethodHandle" ∧ yX4_isFrontMark.cls ≠ "java/lang/invoke/VarHandle" ∧ (parseMethodDescriptor yX4_isFrontMark.desc).map (fun d => d.parameters.length) = some 1 := by decide +kernel
theorem dX4_isFrontMark_0 : decode bX4_isFrontMark 0 = .ok (.iload_n 0, 1) := by decide +kernel
theorem dX4_isFrontMark_1 : decode bX4_isFrontMark 1 = .ok (.invokestatic 50, 3) := by decide +kernel
theorem dX4_isFrontMark_4 : decode bX4_isFrontMark 4 = .ok (.ifCond .ne 9, 3) := by decide +kernel
theorem dX4_isFrontMark_7 : decode bX4_isFrontMark 7 = .ok (.iload_n 0, 1) := by decide +kernel
theorem dX4_isFrontMark_8 : decode bX4_isFrontMark 8 = .ok (.bipush 44, 2) := by decide +kernel
theorem dX4_isFrontMark_10 : decode bX4_isFrontMark 10 = .ok (.if_icmp .ne 7, 3) := by decide +kernel
theorem dX4_isFrontMark_13 : decode bX4_isFrontMark 13 = .ok (.iconst 1, 1) := by decide +kernel
theorem dX4_isFrontMark_14 : decode bX4_isFrontMark 14 = .ok (.goto 4, 3) := by decide +kernel
theorem dX4_isFrontMark_17 : decode bX4_isFrontMark 17 = .ok (.iconst 0, 1) := by decide +kernel
theorem dX4_isFrontMark_18 : decode bX4_isFrontMark 18 = .ok (.ireturn, 1) := by decide +kernel
abbrev bX4_isPlace : ByteArray := prog_6_method_6_code
def yX4_isPlace : MethodName := ⟨"WideDecimalDesk$Pattern", "isPlace", "(I)Z"⟩
def wsX4_isPlace : List Cond := Cond.code yX4_isPlace bX4_isPlace 1 (some .boolean) :: wsA
theorem dc_X4_isPlace : yX4_isPlace.cls ≠ "java/lang/invoke/MethodHandle" ∧ yX4_isPlace.cls ≠ "java/lang/invoke/VarHandle" ∧ (parseMethodDescriptor yX4_isPlace.desc).map (fun d => d.parameters.length) = some 1 := by decide +kernel
theorem dX4_isPlace_0 : decode bX4_isPlace 0 = .ok (.iload_n 0, 1) := by decide +kernel
theorem dX4_isPlace_1 : decode bX4_isPlace 1 = .ok (.bipush 48, 2) := by decide +kernel
theorem dX4_isPlace_3 : decode bX4_isPlace 3 = .ok (.if_icmp .eq 9, 3) := by decide +kernel
theorem dX4_isPlace_6 : decode bX4_isPlace 6 = .ok (.iload_n 0, 1) := by decide +kernel
theorem dX4_isPlace_7 : decode bX4_isPlace 7 = .ok (.bipush 35, 2) := by decide +kernel
theorem dX4_isPlace_9 : decode bX4_isPlace 9 = .ok (.if_icmp .ne 7, 3) := by decide +kernel
theorem dX4_isPlace_12 : decode bX4_isPlace 12 = .ok (.iconst 1, 1) := by decide +kernel
theorem dX4_isPlace_13 : decode bX4_isPlace 13 = .ok (.goto 4, 3) := by decide +kernel
theorem dX4_isPlace_16 : decode bX4_isPlace 16 = .ok (.iconst 0, 1) := by decide +kernel
theorem dX4_isPlace_17 : decode bX4_isPlace 17 = .ok (.ireturn, 1) := by decide +kernel
