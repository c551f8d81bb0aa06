abbrev bX1_init : ByteArray := prog_3_method_1_code
def yX1_init : MethodName := ⟨"WideDecimalDesk$Draft", "<init>", "()V"⟩
def wsX1_init : List Cond := Cond.code yX1_init bX1_init 1 none :: wsA
theorem dc_X1_init : yX1_init.cls ≠ "java/lang/invoke/MethodHandle" ∧ yX1_init.cls ≠ "java/lang/invoke/VarHandle" ∧ (parseMethodDescriptor yX1_init.desc).map (fun d => d.parameters.length) = some 0 := by decide +kernel
theorem dX1_init_0 : decode bX1_init 0 = .ok (.aload_n 0, 1) := by decide +kernel
theorem dX1_init_1 : decode bX1_init 1 = .ok (.invokespecial 3, 3) := by decide +kernel
theorem dX1_init_4 : decode bX1_init 4 = .ok (.aload_n 0, 1) := by decide +kernel
theorem dX1_init_5 : decode bX1_init 5 = .ok (.new 9, 3) := by decide +kernel
theorem dX1_init_8 : decode bX1_init 8 = .ok (.dup, 1) := by decide +kernel
theorem dX1_init_9 : decode bX1_init 9 = .ok (.invokespecial 11, 3) := by decide +kernel
theorem dX1_init_12 : decode bX1_init 12 = .ok (.putfield 12, 3) := by decide +kernel
theorem dX1_init_15 : decode bX1_init 15 = .ok (.return_, 1) := by decide +kernel
abbrev bX1_begin : ByteArray := prog_3_method_2_code
def yX1_begin : MethodName := ⟨"WideDecimalDesk$Draft", "begin", "(IZ)V"⟩
def wsX1_begin : List Cond := Cond.code yX1_begin bX1_begin 3 none :: wsA
theorem dc_X1_begin : yX1_begin.cls ≠ "java/lang/invoke/MethodHandle" ∧ yX1_begin.cls ≠ "java/lang/invoke/VarHandle" ∧ (parseMethodDescriptor yX1_begin.desc).map (fun d => d.parameters.length) = some 2 := by decide +kernel
theorem dX1_begin_0 : decode bX1_begin 0 = .ok (.aload_n 0, 1) := by decide +kernel
theorem dX1_begin_1 : decode bX1_begin 1 = .ok (.getfield 12, 3) := by decide +kernel
theorem dX1_begin_4 : decode bX1_begin 4 = .ok (.invokevirtual 18, 3) := by decide +kernel
theorem dX1_begin_7 : decode bX1_begin 7 = .ok (.aload_n 0, 1) := by decide +kernel
theorem dX1_begin_8 : decode bX1_begin 8 = .ok (.iload_n 1, 1) := by decide +kernel
theorem dX1_begin_9 : decode bX1_begin 9 = .ok (.putfield 21, 3) := by decide +kernel
theorem dX1_begin_12 : decode bX1_begin 12 = .ok (.aload_n 0, 1) := by decide +kernel
theorem dX1_begin_13 : decode bX1_begin 13 = .ok (.iload_n 2, 1) := by decide +kernel
theorem dX1_begin_14 : decode bX1_begin 14 = .ok (.putfield 25, 3) := by decide +kernel
theorem dX1_begin_17 : decode bX1_begin 17 = .ok (.aload_n 0, 1) := by decide +kernel
theorem dX1_begin_18 : decode bX1_begin 18 = .ok (.iconst 0, 1) := by decide +kernel
theorem dX1_begin_19 : decode bX1_begin 19 = .ok (.putfield 29, 3) := by decide +kernel
theorem dX1_begin_22 : decode bX1_begin 22 = .ok (.return_, 1) := by decide +kernel
abbrev bX1_load : ByteArray := prog_3_method_3_code
def yX1_load : MethodName := ⟨"WideDecimalDesk$Draft", "load", "(LWideDecimalDesk$Register;)V"⟩
def wsX1_load : List Cond := Cond.code yX1_load bX1_load 2 none :: wsA
theorem dc_X1_load : yX1_load.cls ≠ "java/lang/invoke/MethodHandle" ∧ yX1_load.cls ≠ "java/lang/invoke/VarHandle" ∧ (parseMethodDescriptor yX1_load.desc).map (fun d => d.parameters.length) = some 1 := by decide +kernel
theorem dX1_load_0 : decode bX1_load 0 = .ok (.aload_n 0, 1) := by decide +kernel
theorem dX1_load_1 : decode bX1_load 1 = .ok (.aload_n 1, 1) := by decide +kernel
theorem dX1_load_2 : decode bX1_load 2 = .ok (.getfield 32, 3) := by decide +kernel
theorem dX1_load_5 : decode bX1_load 5 = .ok (.aload_n 1, 1) := by decide +kernel
theorem dX1_load_6 : decode bX1_load 6 = .ok (.getfield 35, 3) := by decide +kernel
theorem dX1_load_9 : decode bX1_load 9 = .ok (.invokevirtual 36, 3) := by decide +kernel
theorem dX1_load_12 : decode bX1_load 12 = .ok (.aload_n 0, 1) := by decide +kernel
theorem dX1_load_13 : decode bX1_load 13 = .ok (.getfield 12, 3) := by decide +kernel
theorem dX1_load_16 : decode bX1_load 16 = .ok (.aload_n 1, 1) := by decide +kernel
theorem dX1_load_17 : decode bX1_load 17 = .ok (.getfield 40, 3) := by decide +kernel
theorem dX1_load_20 : decode bX1_load 20 = .ok (.aload_n 1, 1) := by decide +kernel
theorem dX1_load_21 : decode bX1_load 21 = .ok (.getfield 44, 3) := by decide +kernel
theorem dX1_load_24 : decode bX1_load 24 = .ok (.invokevirtual 47, 3) := by decide +kernel
theorem dX1_load_27 : decode bX1_load 27 = .ok (.return_, 1) := by decide +kernel
abbrev bX1_storeIn : ByteArray := prog_3_method_4_code
def yX1_storeIn : MethodName := ⟨"WideDecimalDesk$Draft", "storeIn", "(LWideDecimalDesk$Register;)V"⟩
def wsX1_storeIn : List Cond := Cond.code yX1_storeIn bX1_storeIn 2 none :: wsA
theorem dc_X1_storeIn : yX1_storeIn.cls ≠ "java/lang/invoke/MethodHandle" ∧ yX1_storeIn.cls ≠ "java/lang/invoke/VarHandle" ∧ (parseMethodDescriptor yX1_storeIn.desc).map (fun d => d.parameters.length) = some 1 := by decide +kernel
theorem dX1_storeIn_0 : decode bX1_storeIn 0 = .ok (.aload_n 1, 1) := by decide +kernel
theorem dX1_storeIn_1 : decode bX1_storeIn 1 = .ok (.aload_n 0, 1) := by decide +kernel
theorem dX1_storeIn_2 : decode bX1_storeIn 2 = .ok (.getfield 12, 3) := by decide +kernel
theorem dX1_storeIn_5 : decode bX1_storeIn 5 = .ok (.invokevirtual 51, 3) := by decide +kernel
theorem dX1_storeIn_8 : decode bX1_storeIn 8 = .ok (.aload_n 0, 1) := by decide +kernel
theorem dX1_storeIn_9 : decode bX1_storeIn 9 = .ok (.getfield 12, 3) := by decide +kernel
theorem dX1_storeIn_12 : decode bX1_storeIn 12 = .ok (.invokevirtual 54, 3) := by decide +kernel
theorem dX1_storeIn_15 : decode bX1_storeIn 15 = .ok (.aload_n 0, 1) := by decide +kernel
theorem dX1_storeIn_16 : decode bX1_storeIn 16 = .ok (.getfield 21, 3) := by decide +kernel
theorem dX1_storeIn_19 : decode bX1_storeIn 19 = .ok (.aload_n 0, 1) := by decide +kernel
theorem dX1_storeIn_20 : decode bX1_storeIn 20 = .ok (.getfield 25, 3) := by decide +kernel
theorem dX1_storeIn_23 : decode bX1_storeIn 23 = .ok (.invokevirtual 57, 3) := by decide +kernel
theorem dX1_storeIn_26 : decode bX1_storeIn 26 = .ok (.return_, 1) := by decide +kernel
abbrev bX1_read : ByteArray := prog_3_method_5_code
def yX1_read : MethodName := ⟨"WideDecimalDesk$Draft", "read", "(LWideDecimalDesk$Line;)Z"⟩
def wsX1_read : List Cond := Cond.code yX1_read bX1_read 7 (some .boolean) :: wsA
theorem dc_X1_read : yX1_read.cls ≠ "java/lang/invoke/MethodHandle" ∧ yX1_read.cls ≠ "java/lang/invoke/VarHandle" ∧ (parseMethodDescriptor yX1_read.desc).map (fun d => d.parameters.length) = some 1 := by decide +kernel
theorem dX1_read_0 : decode bX1_read 0 = .ok (.aload_n 1, 1) := by decide +kernel
theorem dX1_read_1 : decode bX1_read 1 = .ok (.iconst 0, 1) := by decide +kernel
theorem dX1_read_2 : decode bX1_read 2 = .ok (.invokevirtual 61, 3) := by decide +kernel
theorem dX1_read_5 : decode bX1_read 5 = .ok (.bipush 45, 2) := by decide +kernel
theorem dX1_read_7 : decode bX1_read 7 = .ok (.if_icmp .ne 7, 3) := by decide +kernel
theorem dX1_read_10 : decode bX1_read 10 = .ok (.iconst 1, 1) := by decide +kernel
theorem dX1_read_11 : decode bX1_read 11 = .ok (.goto 4, 3) := by decide +kernel
theorem dX1_read_14 : decode bX1_read 14 = .ok (.iconst 0, 1) := by decide +kernel
theorem dX1_read_15 : decode bX1_read 15 = .ok (.istore_n 2, 1) := by decide +kernel
theorem dX1_read_16 : decode bX1_read 16 = .ok (.aload_n 0, 1) := by decide +kernel
theorem dX1_read_17 : decode bX1_read 17 = .ok (.iconst 0, 1) := by decide +kernel
theorem dX1_read_18 : decode bX1_read 18 = .ok (.iload_n 2, 1) := by decide +kernel
theorem dX1_read_19 : decode bX1_read 19 = .ok (.invokevirtual 36, 3) := by decide +kernel
theorem dX1_read_22 : decode bX1_read 22 = .ok (.iconst 0, 1) := by decide +kernel
theorem dX1_read_23 : decode bX1_read 23 = .ok (.istore_n 3, 1) := by decide +kernel
theorem dX1_read_24 : decode bX1_read 24 = .ok (.iconst 0, 1) := by decide +kernel
theorem dX1_read_25 : decode bX1_read 25 = .ok (.istore 4, 2) := by decide +kernel
theorem dX1_read_27 : decode bX1_read 27 = .ok (.iload_n 2, 1) := by decide +kernel
theorem dX1_read_28 : decode bX1_read 28 = .ok (.ifCond .eq 7, 3) := by decide +kernel
theorem dX1_read_31 : decode bX1_read 31 = .ok (.iconst 1, 1) := by decide +kernel
theorem dX1_read_32 : decode bX1_read 32 = .ok (.goto 4, 3) := by decide +kernel
theorem dX1_read_35 : decode bX1_read 35 = .ok (.iconst 0, 1) := by decide +kernel
theorem dX1_read_36 : decode bX1_read 36 = .ok (.istore 5, 2) := by decide +kernel
theorem dX1_read_38 : decode bX1_read 38 = .ok (.iload 5, 2) := by decide +kernel
theorem dX1_read_40 : decode bX1_read 40 = .ok (.aload_n 1, 1) := by decide +kernel
theorem dX1_read_41 : decode bX1_read 41 = .ok (.getfield 67, 3) := by decide +kernel
theorem dX1_read_44 : decode bX1_read 44 = .ok (.if_icmp .ge 85, 3) := by decide +kernel
theorem dX1_read_47 : decode bX1_read 47 = .ok (.aload_n 1, 1) := by decide +kernel
theorem dX1_read_48 : decode bX1_read 48 = .ok (.iload 5, 2) := by decide +kernel
theorem dX1_read_50 : decode bX1_read 50 = .ok (.invokevirtual 61, 3) := by decide +kernel
theorem dX1_read_53 : decode bX1_read 53 = .ok (.istore 6, 2) := by decide +kernel
theorem dX1_read_55 : decode bX1_read 55 = .ok (.iload 6, 2) := by decide +kernel
theorem dX1_read_57 : decode bX1_read 57 = .ok (.bipush 48, 2) := by decide +kernel
theorem dX1_read_59 : decode bX1_read 59 = .ok (.if_icmp .lt 46, 3) := by decide +kernel
theorem dX1_read_62 : decode bX1_read 62 = .ok (.iload 6, 2) := by decide +kernel
theorem dX1_read_64 : decode bX1_read 64 = .ok (.bipush 57, 2) := by decide +kernel
theorem dX1_read_66 : decode bX1_read 66 = .ok (.if_icmp .gt 39, 3) := by decide +kernel
theorem dX1_read_69 : decode bX1_read 69 = .ok (.aload_n 0, 1) := by decide +kernel
theorem dX1_read_70 : decode bX1_read 70 = .ok (.getfield 12, 3) := by decide +kernel
theorem dX1_read_73 : decode bX1_read 73 = .ok (.iload 6, 2) := by decide +kernel
theorem dX1_read_75 : decode bX1_read 75 = .ok (.bipush 48, 2) := by decide +kernel
theorem dX1_read_77 : decode bX1_read 77 = .ok (.isub, 1) := by decide +kernel
theorem dX1_read_78 : decode bX1_read 78 = .ok (.invokevirtual 70, 3) := by decide +kernel
theorem dX1_read_81 : decode bX1_read 81 = .ok (.aload_n 0, 1) := by decide +kernel
theorem dX1_read_82 : decode bX1_read 82 = .ok (.dup, 1) := by decide +kernel
theorem dX1_read_83 : decode bX1_read 83 = .ok (.getfield 21, 3) := by decide +kernel
theorem dX1_read_86 : decode bX1_read 86 = .ok (.iload_n 3, 1) := by decide +kernel
theorem dX1_read_87 : decode bX1_read 87 = .ok (.ifCond .eq 7, 3) := by decide +kernel
theorem dX1_read_90 : decode bX1_read 90 = .ok (.iconst 1, 1) := by decide +kernel
theorem dX1_read_91 : decode bX1_read 91 = .ok (.goto 4, 3) := by decide +kernel
theorem dX1_read_94 : decode bX1_read 94 = .ok (.iconst 0, 1) := by decide +kernel
theorem dX1_read_95 : decode bX1_read 95 = .ok (.iadd, 1) := by decide +kernel
theorem dX1_read_96 : decode bX1_read 96 = .ok (.putfield 21, 3) := by decide +kernel
theorem dX1_read_99 : decode bX1_read 99 = .ok (.iconst 1, 1) := by decide +kernel
theorem dX1_read_100 : decode bX1_read 100 = .ok (.istore 4, 2) := by decide +kernel
theorem dX1_read_102 : decode bX1_read 102 = .ok (.goto 21, 3) := by decide +kernel
theorem dX1_read_105 : decode bX1_read 105 = .ok (.iload 6, 2) := by decide +kernel
theorem dX1_read_107 : decode bX1_read 107 = .ok (.bipush 46, 2) := by decide +kernel
theorem dX1_read_109 : decode bX1_read 109 = .ok (.if_icmp .ne 12, 3) := by decide +kernel
theorem dX1_read_112 : decode bX1_read 112 = .ok (.iload_n 3, 1) := by decide +kernel
theorem dX1_read_113 : decode bX1_read 113 = .ok (.ifCond .ne 8, 3) := by decide +kernel
theorem dX1_read_116 : decode bX1_read 116 = .ok (.iconst 1, 1) := by decide +kernel
theorem dX1_read_117 : decode bX1_read 117 = .ok (.istore_n 3, 1) := by decide +kernel
theorem dX1_read_118 : decode bX1_read 118 = .ok (.goto 5, 3) := by decide +kernel
theorem dX1_read_121 : decode bX1_read 121 = .ok (.iconst 0, 1) := by decide +kernel
theorem dX1_read_122 : decode bX1_read 122 = .ok (.ireturn, 1) := by decide +kernel
theorem dX1_read_123 : decode bX1_read 123 = .ok (.iinc 5 1, 3) := by decide +kernel
theorem dX1_read_126 : decode bX1_read 126 = .ok (.goto (-88), 3) := by decide +kernel
theorem dX1_read_129 : decode bX1_read 129 = .ok (.iload 4, 2) := by decide +kernel
theorem dX1_read_131 : decode bX1_read 131 = .ok (.ireturn, 1) := by decide +kernel
abbrev bX1_lengthenTo : ByteArray := prog_3_method_6_code
def yX1_lengthenTo : MethodName := ⟨"WideDecimalDesk$Draft", "lengthenTo", "(I)V"⟩
def wsX1_lengthenTo : List Cond := Cond.code yX1_lengthenTo bX1_lengthenTo 2 none :: wsA
theorem dc_X1_lengthenTo : yX1_lengthenTo.cls ≠ "java/lang/invoke/MethodHandle" ∧ yX1_lengthenTo.cls ≠ "java/lang/invoke/VarHandle" ∧ (parseMethodDescriptor yX1_lengthenTo.desc).map (fun d => d.parameters.length) = some 1 := by decide +kernel
theorem dX1_lengthenTo_0 : decode bX1_lengthenTo 0 = .ok (.aload_n 0, 1) := by decide +kernel
theorem dX1_lengthenTo_1 : decode bX1_lengthenTo 1 = .ok (.getfield 21, 3) := by decide +kernel
theorem dX1_lengthenTo_4 : decode bX1_lengthenTo 4 = .ok (.iload_n 1, 1) := by decide +kernel
theorem dX1_lengthenTo_5 : decode bX1_lengthenTo 5 = .ok (.if_icmp .ge 24, 3) := by decide +kernel
theorem dX1_lengthenTo_8 : decode bX1_lengthenTo 8 = .ok (.aload_n 0, 1) := by decide +kernel
theorem dX1_lengthenTo_9 : decode bX1_lengthenTo 9 = .ok (.getfield 12, 3) := by decide +kernel
theorem dX1_lengthenTo_12 : decode bX1_lengthenTo 12 = .ok (.iconst 0, 1) := by decide +kernel
theorem dX1_lengthenTo_13 : decode bX1_lengthenTo 13 = .ok (.invokevirtual 70, 3) := by decide +kernel
theorem dX1_lengthenTo_16 : decode bX1_lengthenTo 16 = .ok (.aload_n 0, 1) := by decide +kernel
theorem dX1_lengthenTo_17 : decode bX1_lengthenTo 17 = .ok (.dup, 1) := by decide +kernel
theorem dX1_lengthenTo_18 : decode bX1_lengthenTo 18 = .ok (.getfield 21, 3) := by decide +kernel
theorem dX1_lengthenTo_21 : decode bX1_lengthenTo 21 = .ok (.iconst 1, 1) := by decide +kernel
theorem dX1_lengthenTo_22 : decode bX1_lengthenTo 22 = .ok (.iadd, 1) := by decide +kernel
theorem dX1_lengthenTo_23 : decode bX1_lengthenTo 23 = .ok (.putfield 21, 3) := by decide +kernel
theorem dX1_lengthenTo_26 : decode bX1_lengthenTo 26 = .ok (.goto (-26), 3) := by decide +kernel
theorem dX1_lengthenTo_29 : decode bX1_lengthenTo 29 = .ok (.return_, 1) := by decide +kernel
abbrev bX1_timesHundred : ByteArray := prog_3_method_7_code
def yX1_timesHundred : MethodName := ⟨"WideDecimalDesk$Draft", "timesHundred", "()V"⟩
def wsX1_timesHundred : List Cond := Cond.code yX1_timesHundred bX1_timesHundred 1 none :: wsA
theorem dc_X1_timesHundred : yX1_timesHundred.cls ≠ "java/lang/invoke/MethodHandle" ∧ yX1_timesHundred.cls ≠ "java/lang/invoke/VarHandle" ∧ (parseMethodDescriptor yX1_timesHundred.desc).map (fun d => d.parameters.length) = some 0 := by decide +kernel
theorem dX1_timesHundred_0 : decode bX1_timesHundred 0 = .ok (.aload_n 0, 1) := by decide +kernel
theorem dX1_timesHundred_1 : decode bX1_timesHundred 1 = .ok (.getfield 12, 3) := by decide +kernel
theorem dX1_timesHundred_4 : decode bX1_timesHundred 4 = .ok (.iconst 0, 1) := by decide +kernel
theorem dX1_timesHundred_5 : decode bX1_timesHundred 5 = .ok (.invokevirtual 70, 3) := by decide +kernel
theorem dX1_timesHundred_8 : decode bX1_timesHundred 8 = .ok (.aload_n 0, 1) := by decide +kernel
theorem dX1_timesHundred_9 : decode bX1_timesHundred 9 = .ok (.getfield 12, 3) := by decide +kernel
theorem dX1_timesHundred_12 : decode bX1_timesHundred 12 = .ok (.iconst 0, 1) := by decide +kernel
theorem dX1_timesHundred_13 : decode bX1_timesHundred 13 = .ok (.invokevirtual 70, 3) := by decide +kernel
theorem dX1_timesHundred_16 : decode bX1_timesHundred 16 = .ok (.return_, 1) := by decide +kernel
abbrev bX1_against : ByteArray := prog_3_method_8_code
def yX1_against : MethodName := ⟨"WideDecimalDesk$Draft", "against", "(LWideDecimalDesk$Draft;)I"⟩
def wsX1_against : List Cond := Cond.code yX1_against bX1_against 2 (some .int) :: wsA
theorem dc_X1_against : yX1_against.cls ≠ "java/lang/invoke/MethodHandle" ∧ yX1_against.cls ≠ "java/lang/invoke/VarHandle" ∧ (parseMethodDescriptor yX1_against.desc).map (fun d => d.parameters.length) = some 1 := by decide +kernel
theorem dX1_against_0 : decode bX1_against 0 = .ok (.aload_n 0, 1) := by decide +kernel
theorem dX1_against_1 : decode bX1_against 1 = .ok (.getfield 25, 3) := by decide +kernel
theorem dX1_against_4 : decode bX1_against 4 = .ok (.aload_n 1, 1) := by decide +kernel
theorem dX1_against_5 : decode bX1_against 5 = .ok (.getfield 25, 3) := by decide +kernel
theorem dX1_against_8 : decode bX1_against 8 = .ok (.if_icmp .eq 16, 3) := by decide +kernel
theorem dX1_against_11 : decode bX1_against 11 = .ok (.aload_n 0, 1) := by decide +kernel
theorem dX1_against_12 : decode bX1_against 12 = .ok (.getfield 25, 3) := by decide +kernel
theorem dX1_against_15 : decode bX1_against 15 = .ok (.ifCond .eq 7, 3) := by decide +kernel
theorem dX1_against_18 : decode bX1_against 18 = .ok (.iconst (-1), 1) := by decide +kernel
theorem dX1_against_19 : decode bX1_against 19 = .ok (.goto 4, 3) := by decide +kernel
theorem dX1_against_22 : decode bX1_against 22 = .ok (.iconst 1, 1) := by decide +kernel
theorem dX1_against_23 : decode bX1_against 23 = .ok (.ireturn, 1) := by decide +kernel
theorem dX1_against_24 : decode bX1_against 24 = .ok (.aload_n 0, 1) := by decide +kernel
theorem dX1_against_25 : decode bX1_against 25 = .ok (.getfield 25, 3) := by decide +kernel
theorem dX1_against_28 : decode bX1_against 28 = .ok (.ifCond .eq 17, 3) := by decide +kernel
theorem dX1_against_31 : decode bX1_against 31 = .ok (.aload_n 1, 1) := by decide +kernel
theorem dX1_against_32 : decode bX1_against 32 = .ok (.getfield 12, 3) := by decide +kernel
theorem dX1_against_35 : decode bX1_against 35 = .ok (.aload_n 0, 1) := by decide +kernel
theorem dX1_against_36 : decode bX1_against 36 = .ok (.getfield 12, 3) := by decide +kernel
theorem dX1_against_39 : decode bX1_against 39 = .ok (.invokevirtual 74, 3) := by decide +kernel
theorem dX1_against_42 : decode bX1_against 42 = .ok (.goto 14, 3) := by decide +kernel
theorem dX1_against_45 : decode bX1_against 45 = .ok (.aload_n 0, 1) := by decide +kernel
theorem dX1_against_46 : decode bX1_against 46 = .ok (.getfield 12, 3) := by decide +kernel
theorem dX1_against_49 : decode bX1_against 49 = .ok (.aload_n 1, 1) := by decide +kernel
theorem dX1_against_50 : decode bX1_against 50 = .ok (.getfield 12, 3) := by decide +kernel
theorem dX1_against_53 : decode bX1_against 53 = .ok (.invokevirtual 74, 3) := by decide +kernel
theorem dX1_against_56 : decode bX1_against 56 = .ok (.ireturn, 1) := by decide +kernel
abbrev bX1_add : ByteArray := prog_3_method_9_code
def yX1_add : MethodName := ⟨"WideDecimalDesk$Draft", "add", "(LWideDecimalDesk$Draft;)V"⟩
def wsX1_add : List Cond := Cond.code yX1_add bX1_add 2 none :: wsA
theorem dc_X1_add : yX1_add.cls ≠ "java/lang/invoke/MethodHandle" ∧ yX1_add.cls ≠ "java/lang/invoke/VarHandle" ∧ (parseMethodDescriptor yX1_add.desc).map (fun d => d.parameters.length) = some 1 := by decide +kernel
theorem dX1_add_0 : decode bX1_add 0 = .ok (.aload_n 0, 1) := by decide +kernel
theorem dX1_add_1 : decode bX1_add 1 = .ok (.getfield 25, 3) := by decide +kernel
theorem dX1_add_4 : decode bX1_add 4 = .ok (.aload_n 1, 1) := by decide +kernel
theorem dX1_add_5 : decode bX1_add 5 = .ok (.getfield 25, 3) := by decide +kernel
theorem dX1_add_8 : decode bX1_add 8 = .ok (.if_icmp .ne 17, 3) := by decide +kernel
theorem dX1_add_11 : decode bX1_add 11 = .ok (.aload_n 0, 1) := by decide +kernel
theorem dX1_add_12 : decode bX1_add 12 = .ok (.getfield 12, 3) := by decide +kernel
theorem dX1_add_15 : decode bX1_add 15 = .ok (.aload_n 1, 1) := by decide +kernel
theorem dX1_add_16 : decode bX1_add 16 = .ok (.getfield 12, 3) := by decide +kernel
theorem dX1_add_19 : decode bX1_add 19 = .ok (.invokevirtual 78, 3) := by decide +kernel
theorem dX1_add_22 : decode bX1_add 22 = .ok (.goto 58, 3) := by decide +kernel
theorem dX1_add_25 : decode bX1_add 25 = .ok (.aload_n 0, 1) := by decide +kernel
theorem dX1_add_26 : decode bX1_add 26 = .ok (.getfield 12, 3) := by decide +kernel
theorem dX1_add_29 : decode bX1_add 29 = .ok (.aload_n 1, 1) := by decide +kernel
theorem dX1_add_30 : decode bX1_add 30 = .ok (.getfield 12, 3) := by decide +kernel
theorem dX1_add_33 : decode bX1_add 33 = .ok (.invokevirtual 74, 3) := by decide +kernel
theorem dX1_add_36 : decode bX1_add 36 = .ok (.ifCond .lt 21, 3) := by decide +kernel
theorem dX1_add_39 : decode bX1_add 39 = .ok (.aload_n 0, 1) := by decide +kernel
theorem dX1_add_40 : decode bX1_add 40 = .ok (.getfield 12, 3) := by decide +kernel
theorem dX1_add_43 : decode bX1_add 43 = .ok (.aload_n 0, 1) := by decide +kernel
theorem dX1_add_44 : decode bX1_add 44 = .ok (.getfield 12, 3) := by decide +kernel
theorem dX1_add_47 : decode bX1_add 47 = .ok (.aload_n 1, 1) := by decide +kernel
theorem dX1_add_48 : decode bX1_add 48 = .ok (.getfield 12, 3) := by decide +kernel
theorem dX1_add_51 : decode bX1_add 51 = .ok (.invokevirtual 82, 3) := by decide +kernel
theorem dX1_add_54 : decode bX1_add 54 = .ok (.goto 26, 3) := by decide +kernel
theorem dX1_add_57 : decode bX1_add 57 = .ok (.aload_n 0, 1) := by decide +kernel
theorem dX1_add_58 : decode bX1_add 58 = .ok (.getfield 12, 3) := by decide +kernel
theorem dX1_add_61 : decode bX1_add 61 = .ok (.aload_n 1, 1) := by decide +kernel
theorem dX1_add_62 : decode bX1_add 62 = .ok (.getfield 12, 3) := by decide +kernel
theorem dX1_add_65 : decode bX1_add 65 = .ok (.aload_n 0, 1) := by decide +kernel
theorem dX1_add_66 : decode bX1_add 66 = .ok (.getfield 12, 3) := by decide +kernel
theorem dX1_add_69 : decode bX1_add 69 = .ok (.invokevirtual 82, 3) := by decide +kernel
theorem dX1_add_72 : decode bX1_add 72 = .ok (.aload_n 0, 1) := by decide +kernel
theorem dX1_add_73 : decode bX1_add 73 = .ok (.aload_n 1, 1) := by decide +kernel
theorem dX1_add_74 : decode bX1_add 74 = .ok (.getfield 25, 3) := by decide +kernel
theorem dX1_add_77 : decode bX1_add 77 = .ok (.putfield 25, 3) := by decide +kernel
theorem dX1_add_80 : decode bX1_add 80 = .ok (.return_, 1) := by decide +kernel
abbrev bX1_place : ByteArray := prog_3_method_10_code
def yX1_place : MethodName := ⟨"WideDecimalDesk$Draft", "place", "()Z"⟩
def wsX1_place : List Cond := Cond.code yX1_place bX1_place 1 (some .boolean) :: wsA
theorem dc_X1_place : yX1_place.cls ≠ "java/lang/invoke/MethodHandle" ∧ yX1_place.cls ≠ "java/lang/invoke/VarHandle" ∧ (parseMethodDescriptor yX1_place.desc).map (fun d => d.parameters.length) = some 0 := by decide +kernel
theorem dX1_place_0 : decode bX1_place 0 = .ok (.aload_n 0, 1) := by decide +kernel
theorem dX1_place_1 : decode bX1_place 1 = .ok (.getfield 21, 3) := by decide +kernel
theorem dX1_place_4 : decode bX1_place 4 = .ok (.ifCond .le 36, 3) := by decide +kernel
theorem dX1_place_7 : decode bX1_place 7 = .ok (.aload_n 0, 1) := by decide +kernel
theorem dX1_place_8 : decode bX1_place 8 = .ok (.getfield 21, 3) := by decide +kernel
theorem dX1_place_11 : decode bX1_place 11 = .ok (.bipush 28, 2) := by decide +kernel
theorem dX1_place_13 : decode bX1_place 13 = .ok (.if_icmp .gt 10, 3) := by decide +kernel
theorem dX1_place_16 : decode bX1_place 16 = .ok (.aload_n 0, 1) := by decide +kernel
theorem dX1_place_17 : decode bX1_place 17 = .ok (.invokevirtual 86, 3) := by decide +kernel
theorem dX1_place_20 : decode bX1_place 20 = .ok (.ifCond .ne 20, 3) := by decide +kernel
theorem dX1_place_23 : decode bX1_place 23 = .ok (.aload_n 0, 1) := by decide +kernel
theorem dX1_place_24 : decode bX1_place 24 = .ok (.invokevirtual 90, 3) := by decide +kernel
theorem dX1_place_27 : decode bX1_place 27 = .ok (.aload_n 0, 1) := by decide +kernel
theorem dX1_place_28 : decode bX1_place 28 = .ok (.dup, 1) := by decide +kernel
theorem dX1_place_29 : decode bX1_place 29 = .ok (.getfield 21, 3) := by decide +kernel
theorem dX1_place_32 : decode bX1_place 32 = .ok (.iconst 1, 1) := by decide +kernel
theorem dX1_place_33 : decode bX1_place 33 = .ok (.isub, 1) := by decide +kernel
theorem dX1_place_34 : decode bX1_place 34 = .ok (.putfield 21, 3) := by decide +kernel
theorem dX1_place_37 : decode bX1_place 37 = .ok (.goto (-37), 3) := by decide +kernel
theorem dX1_place_40 : decode bX1_place 40 = .ok (.aload_n 0, 1) := by decide +kernel
theorem dX1_place_41 : decode bX1_place 41 = .ok (.invokevirtual 86, 3) := by decide +kernel
theorem dX1_place_44 : decode bX1_place 44 = .ok (.ifCond .ne 5, 3) := by decide +kernel
theorem dX1_place_47 : decode bX1_place 47 = .ok (.iconst 0, 1) := by decide +kernel
theorem dX1_place_48 : decode bX1_place 48 = .ok (.ireturn, 1) := by decide +kernel
theorem dX1_place_49 : decode bX1_place 49 = .ok (.aload_n 0, 1) := by decide +kernel
theorem dX1_place_50 : decode bX1_place 50 = .ok (.iconst 0, 1) := by decide +kernel
theorem dX1_place_51 : decode bX1_place 51 = .ok (.invokevirtual 93, 3) := by decide +kernel
theorem dX1_place_54 : decode bX1_place 54 = .ok (.iconst 1, 1) := by decide +kernel
theorem dX1_place_55 : decode bX1_place 55 = .ok (.ireturn, 1) := by decide +kernel
abbrev bX1_shortenTo : ByteArray := prog_3_method_11_code
def yX1_shortenTo : MethodName := ⟨"WideDecimalDesk$Draft", "shortenTo", "(II)V"⟩
def wsX1_shortenTo : List Cond := Cond.code yX1_shortenTo bX1_shortenTo 3 none :: wsA
theorem dc_X1_shortenTo : yX1_shortenTo.cls ≠ "java/lang/invoke/MethodHandle" ∧ yX1_shortenTo.cls ≠ "java/lang/invoke/VarHandle" ∧ (parseMethodDescriptor yX1_shortenTo.desc).map (fun d => d.parameters.length) = some 2 := by decide +kernel
theorem dX1_shortenTo_0 : decode bX1_shortenTo 0 = .ok (.aload_n 0, 1) := by decide +kernel
theorem dX1_shortenTo_1 : decode bX1_shortenTo 1 = .ok (.getfield 21, 3) := by decide +kernel
theorem dX1_shortenTo_4 : decode bX1_shortenTo 4 = .ok (.iload_n 1, 1) := by decide +kernel
theorem dX1_shortenTo_5 : decode bX1_shortenTo 5 = .ok (.if_icmp .le 20, 3) := by decide +kernel
theorem dX1_shortenTo_8 : decode bX1_shortenTo 8 = .ok (.aload_n 0, 1) := by decide +kernel
theorem dX1_shortenTo_9 : decode bX1_shortenTo 9 = .ok (.invokevirtual 90, 3) := by decide +kernel
theorem dX1_shortenTo_12 : decode bX1_shortenTo 12 = .ok (.aload_n 0, 1) := by decide +kernel
theorem dX1_shortenTo_13 : decode bX1_shortenTo 13 = .ok (.dup, 1) := by decide +kernel
theorem dX1_shortenTo_14 : decode bX1_shortenTo 14 = .ok (.getfield 21, 3) := by decide +kernel
theorem dX1_shortenTo_17 : decode bX1_shortenTo 17 = .ok (.iconst 1, 1) := by decide +kernel
theorem dX1_shortenTo_18 : decode bX1_shortenTo 18 = .ok (.isub, 1) := by decide +kernel
theorem dX1_shortenTo_19 : decode bX1_shortenTo 19 = .ok (.putfield 21, 3) := by decide +kernel
theorem dX1_shortenTo_22 : decode bX1_shortenTo 22 = .ok (.goto (-22), 3) := by decide +kernel
theorem dX1_shortenTo_25 : decode bX1_shortenTo 25 = .ok (.aload_n 0, 1) := by decide +kernel
theorem dX1_shortenTo_26 : decode bX1_shortenTo 26 = .ok (.iload_n 2, 1) := by decide +kernel
theorem dX1_shortenTo_27 : decode bX1_shortenTo 27 = .ok (.invokevirtual 93, 3) := by decide +kernel
theorem dX1_shortenTo_30 : decode bX1_shortenTo 30 = .ok (.return_, 1) := by decide +kernel
abbrev bX1_dropZeros : ByteArray := prog_3_method_12_code
def yX1_dropZeros : MethodName := ⟨"WideDecimalDesk$Draft", "dropZeros", "()V"⟩
def wsX1_dropZeros : List Cond := Cond.code yX1_dropZeros bX1_dropZeros 2 none :: wsA
theorem dc_X1_dropZeros : yX1_dropZeros.cls ≠ "java/lang/invoke/MethodHandle" ∧ yX1_dropZeros.cls ≠ "java/lang/invoke/VarHandle" ∧ (parseMethodDescriptor yX1_dropZeros.desc).map (fun d => d.parameters.length) = some 0 := by decide +kernel
theorem dX1_dropZeros_0 : decode bX1_dropZeros 0 = .ok (.aload_n 0, 1) := by decide +kernel
theorem dX1_dropZeros_1 : decode bX1_dropZeros 1 = .ok (.getfield 21, 3) := by decide +kernel
theorem dX1_dropZeros_4 : decode bX1_dropZeros 4 = .ok (.ifCond .le 37, 3) := by decide +kernel
theorem dX1_dropZeros_7 : decode bX1_dropZeros 7 = .ok (.aload_n 0, 1) := by decide +kernel
theorem dX1_dropZeros_8 : decode bX1_dropZeros 8 = .ok (.getfield 12, 3) := by decide +kernel
theorem dX1_dropZeros_11 : decode bX1_dropZeros 11 = .ok (.invokevirtual 96, 3) := by decide +kernel
theorem dX1_dropZeros_14 : decode bX1_dropZeros 14 = .ok (.istore_n 1, 1) := by decide +kernel
theorem dX1_dropZeros_15 : decode bX1_dropZeros 15 = .ok (.iload_n 1, 1) := by decide +kernel
theorem dX1_dropZeros_16 : decode bX1_dropZeros 16 = .ok (.ifCond .eq 12, 3) := by decide +kernel
theorem dX1_dropZeros_19 : decode bX1_dropZeros 19 = .ok (.aload_n 0, 1) := by decide +kernel
theorem dX1_dropZeros_20 : decode bX1_dropZeros 20 = .ok (.getfield 12, 3) := by decide +kernel
theorem dX1_dropZeros_23 : decode bX1_dropZeros 23 = .ok (.iload_n 1, 1) := by decide +kernel
theorem dX1_dropZeros_24 : decode bX1_dropZeros 24 = .ok (.invokevirtual 70, 3) := by decide +kernel
theorem dX1_dropZeros_27 : decode bX1_dropZeros 27 = .ok (.return_, 1) := by decide +kernel
theorem dX1_dropZeros_28 : decode bX1_dropZeros 28 = .ok (.aload_n 0, 1) := by decide +kernel
theorem dX1_dropZeros_29 : decode bX1_dropZeros 29 = .ok (.dup, 1) := by decide +kernel
theorem dX1_dropZeros_30 : decode bX1_dropZeros 30 = .ok (.getfield 21, 3) := by decide +kernel
theorem dX1_dropZeros_33 : decode bX1_dropZeros 33 = .ok (.iconst 1, 1) := by decide +kernel
theorem dX1_dropZeros_34 : decode bX1_dropZeros 34 = .ok (.isub, 1) := by decide +kernel
theorem dX1_dropZeros_35 : decode bX1_dropZeros 35 = .ok (.putfield 21, 3) := by decide +kernel
theorem dX1_dropZeros_38 : decode bX1_dropZeros 38 = .ok (.goto (-38), 3) := by decide +kernel
theorem dX1_dropZeros_41 : decode bX1_dropZeros 41 = .ok (.return_, 1) := by decide +kernel
abbrev bX1_takeQuotient : ByteArray := prog_3_method_13_code
def yX1_takeQuotient : MethodName := ⟨"WideDecimalDesk$Draft", "takeQuotient", "(LWideDecimalDesk$LongDivision;)V"⟩
def wsX1_takeQuotient : List Cond := Cond.code yX1_takeQuotient bX1_takeQuotient 2 none :: wsA
theorem dc_X1_takeQuotient : yX1_takeQuotient.cls ≠ "java/lang/invoke/MethodHandle" ∧ yX1_takeQuotient.cls ≠ "java/lang/invoke/VarHandle" ∧ (parseMethodDescriptor yX1_takeQuotient.desc).map (fun d => d.parameters.length) = some 1 := by decide +kernel
theorem dX1_takeQuotient_0 : decode bX1_takeQuotient 0 = .ok (.aload_n 0, 1) := by decide +kernel
theorem dX1_takeQuotient_1 : decode bX1_takeQuotient 1 = .ok (.getfield 12, 3) := by decide +kernel
theorem dX1_takeQuotient_4 : decode bX1_takeQuotient 4 = .ok (.aload_n 1, 1) := by decide +kernel
theorem dX1_takeQuotient_5 : decode bX1_takeQuotient 5 = .ok (.getfield 99, 3) := by decide +kernel
theorem dX1_takeQuotient_8 : decode bX1_takeQuotient 8 = .ok (.invokevirtual 104, 3) := by decide +kernel
theorem dX1_takeQuotient_11 : decode bX1_takeQuotient 11 = .ok (.aload_n 1, 1) := by decide +kernel
theorem dX1_takeQuotient_12 : decode bX1_takeQuotient 12 = .ok (.getfield 107, 3) := by decide +kernel
theorem dX1_takeQuotient_15 : decode bX1_takeQuotient 15 = .ok (.invokevirtual 110, 3) := by decide +kernel
theorem dX1_takeQuotient_18 : decode bX1_takeQuotient 18 = .ok (.ifCond .ne 31, 3) := by decide +kernel
theorem dX1_takeQuotient_21 : decode bX1_takeQuotient 21 = .ok (.aload_n 1, 1) := by decide +kernel
theorem dX1_takeQuotient_22 : decode bX1_takeQuotient 22 = .ok (.getfield 107, 3) := by decide +kernel
theorem dX1_takeQuotient_25 : decode bX1_takeQuotient 25 = .ok (.aload_n 1, 1) := by decide +kernel
theorem dX1_takeQuotient_26 : decode bX1_takeQuotient 26 = .ok (.getfield 107, 3) := by decide +kernel
theorem dX1_takeQuotient_29 : decode bX1_takeQuotient 29 = .ok (.invokevirtual 78, 3) := by decide +kernel
theorem dX1_takeQuotient_32 : decode bX1_takeQuotient 32 = .ok (.aload_n 0, 1) := by decide +kernel
theorem dX1_takeQuotient_33 : decode bX1_takeQuotient 33 = .ok (.iconst 2, 1) := by decide +kernel
theorem dX1_takeQuotient_34 : decode bX1_takeQuotient 34 = .ok (.aload_n 1, 1) := by decide +kernel
theorem dX1_takeQuotient_35 : decode bX1_takeQuotient 35 = .ok (.getfield 107, 3) := by decide +kernel
theorem dX1_takeQuotient_38 : decode bX1_takeQuotient 38 = .ok (.aload_n 1, 1) := by decide +kernel
theorem dX1_takeQuotient_39 : decode bX1_takeQuotient 39 = .ok (.getfield 113, 3) := by decide +kernel
theorem dX1_takeQuotient_42 : decode bX1_takeQuotient 42 = .ok (.invokevirtual 74, 3) := by decide +kernel
theorem dX1_takeQuotient_45 : decode bX1_takeQuotient 45 = .ok (.iadd, 1) := by decide +kernel
theorem dX1_takeQuotient_46 : decode bX1_takeQuotient 46 = .ok (.putfield 29, 3) := by decide +kernel
theorem dX1_takeQuotient_49 : decode bX1_takeQuotient 49 = .ok (.return_, 1) := by decide +kernel
abbrev bX1_cutDigit : ByteArray := prog_3_method_14_code
def yX1_cutDigit : MethodName := ⟨"WideDecimalDesk$Draft", "cutDigit", "()V"⟩
def wsX1_cutDigit : List Cond := Cond.code yX1_cutDigit bX1_cutDigit 2 none :: wsA
theorem dc_X1_cutDigit : yX1_cutDigit.cls ≠ "java/lang/invoke/MethodHandle" ∧ yX1_cutDigit.cls ≠ "java/lang/invoke/VarHandle" ∧ (parseMethodDescriptor yX1_cutDigit.desc).map (fun d => d.parameters.length) = some 0 := by decide +kernel
theorem dX1_cutDigit_0 : decode bX1_cutDigit 0 = .ok (.aload_n 0, 1) := by decide +kernel
theorem dX1_cutDigit_1 : decode bX1_cutDigit 1 = .ok (.getfield 12, 3) := by decide +kernel
theorem dX1_cutDigit_4 : decode bX1_cutDigit 4 = .ok (.invokevirtual 96, 3) := by decide +kernel
theorem dX1_cutDigit_7 : decode bX1_cutDigit 7 = .ok (.istore_n 1, 1) := by decide +kernel
theorem dX1_cutDigit_8 : decode bX1_cutDigit 8 = .ok (.iload_n 1, 1) := by decide +kernel
theorem dX1_cutDigit_9 : decode bX1_cutDigit 9 = .ok (.iconst 5, 1) := by decide +kernel
theorem dX1_cutDigit_10 : decode bX1_cutDigit 10 = .ok (.if_icmp .gt 15, 3) := by decide +kernel
theorem dX1_cutDigit_13 : decode bX1_cutDigit 13 = .ok (.iload_n 1, 1) := by decide +kernel
theorem dX1_cutDigit_14 : decode bX1_cutDigit 14 = .ok (.iconst 5, 1) := by decide +kernel
theorem dX1_cutDigit_15 : decode bX1_cutDigit 15 = .ok (.if_icmp .ne 18, 3) := by decide +kernel
theorem dX1_cutDigit_18 : decode bX1_cutDigit 18 = .ok (.aload_n 0, 1) := by decide +kernel
theorem dX1_cutDigit_19 : decode bX1_cutDigit 19 = .ok (.getfield 29, 3) := by decide +kernel
theorem dX1_cutDigit_22 : decode bX1_cutDigit 22 = .ok (.ifCond .eq 11, 3) := by decide +kernel
theorem dX1_cutDigit_25 : decode bX1_cutDigit 25 = .ok (.aload_n 0, 1) := by decide +kernel
theorem dX1_cutDigit_26 : decode bX1_cutDigit 26 = .ok (.iconst 3, 1) := by decide +kernel
theorem dX1_cutDigit_27 : decode bX1_cutDigit 27 = .ok (.putfield 29, 3) := by decide +kernel
theorem dX1_cutDigit_30 : decode bX1_cutDigit 30 = .ok (.goto 32, 3) := by decide +kernel
theorem dX1_cutDigit_33 : decode bX1_cutDigit 33 = .ok (.iload_n 1, 1) := by decide +kernel
theorem dX1_cutDigit_34 : decode bX1_cutDigit 34 = .ok (.iconst 5, 1) := by decide +kernel
theorem dX1_cutDigit_35 : decode bX1_cutDigit 35 = .ok (.if_icmp .ne 11, 3) := by decide +kernel
theorem dX1_cutDigit_38 : decode bX1_cutDigit 38 = .ok (.aload_n 0, 1) := by decide +kernel
theorem dX1_cutDigit_39 : decode bX1_cutDigit 39 = .ok (.iconst 2, 1) := by decide +kernel
theorem dX1_cutDigit_40 : decode bX1_cutDigit 40 = .ok (.putfield 29, 3) := by decide +kernel
theorem dX1_cutDigit_43 : decode bX1_cutDigit 43 = .ok (.goto 19, 3) := by decide +kernel
theorem dX1_cutDigit_46 : decode bX1_cutDigit 46 = .ok (.iload_n 1, 1) := by decide +kernel
theorem dX1_cutDigit_47 : decode bX1_cutDigit 47 = .ok (.ifCond .gt 10, 3) := by decide +kernel
theorem dX1_cutDigit_50 : decode bX1_cutDigit 50 = .ok (.aload_n 0, 1) := by decide +kernel
theorem dX1_cutDigit_51 : decode bX1_cutDigit 51 = .ok (.getfield 29, 3) := by decide +kernel
theorem dX1_cutDigit_54 : decode bX1_cutDigit 54 = .ok (.ifCond .eq 8, 3) := by decide +kernel
theorem dX1_cutDigit_57 : decode bX1_cutDigit 57 = .ok (.aload_n 0, 1) := by decide +kernel
theorem dX1_cutDigit_58 : decode bX1_cutDigit 58 = .ok (.iconst 1, 1) := by decide +kernel
theorem dX1_cutDigit_59 : decode bX1_cutDigit 59 = .ok (.putfield 29, 3) := by decide +kernel
theorem dX1_cutDigit_62 : decode bX1_cutDigit 62 = .ok (.return_, 1) := by decide +kernel
abbrev bX1_fits : ByteArray := prog_3_method_15_code
def yX1_fits : MethodName := ⟨"WideDecimalDesk$Draft", "fits", "()Z"⟩
def wsX1_fits : List Cond := Cond.code yX1_fits bX1_fits 1 (some .boolean) :: wsA
theorem dc_X1_fits : yX1_fits.cls ≠ "java/lang/invoke/MethodHandle" ∧ yX1_fits.cls ≠ "java/lang/invoke/VarHandle" ∧ (parseMethodDescriptor yX1_fits.desc).map (fun d => d.parameters.length) = some 0 := by decide +kernel
theorem dX1_fits_0 : decode bX1_fits 0 = .ok (.aload_n 0, 1) := by decide +kernel
theorem dX1_fits_1 : decode bX1_fits 1 = .ok (.getfield 12, 3) := by decide +kernel
theorem dX1_fits_4 : decode bX1_fits 4 = .ok (.invokevirtual 116, 3) := by decide +kernel
theorem dX1_fits_7 : decode bX1_fits 7 = .ok (.ifCond .eq 25, 3) := by decide +kernel
theorem dX1_fits_10 : decode bX1_fits 10 = .ok (.aload_n 0, 1) := by decide +kernel
theorem dX1_fits_11 : decode bX1_fits 11 = .ok (.iconst 0, 1) := by decide +kernel
theorem dX1_fits_12 : decode bX1_fits 12 = .ok (.invokevirtual 119, 3) := by decide +kernel
theorem dX1_fits_15 : decode bX1_fits 15 = .ok (.ifCond .eq 13, 3) := by decide +kernel
theorem dX1_fits_18 : decode bX1_fits 18 = .ok (.aload_n 0, 1) := by decide +kernel
theorem dX1_fits_19 : decode bX1_fits 19 = .ok (.getfield 12, 3) := by decide +kernel
theorem dX1_fits_22 : decode bX1_fits 22 = .ok (.invokevirtual 123, 3) := by decide +kernel
theorem dX1_fits_25 : decode bX1_fits 25 = .ok (.ifCond .ne 7, 3) := by decide +kernel
theorem dX1_fits_28 : decode bX1_fits 28 = .ok (.iconst 1, 1) := by decide +kernel
theorem dX1_fits_29 : decode bX1_fits 29 = .ok (.goto 4, 3) := by decide +kernel
theorem dX1_fits_32 : decode bX1_fits 32 = .ok (.iconst 0, 1) := by decide +kernel
theorem dX1_fits_33 : decode bX1_fits 33 = .ok (.ireturn, 1) := by decide +kernel
abbrev bX1_settle : ByteArray := prog_3_method_16_code
def yX1_settle : MethodName := ⟨"WideDecimalDesk$Draft", "settle", "(I)V"⟩
def wsX1_settle : List Cond := Cond.code yX1_settle bX1_settle 2 none :: wsA
theorem dc_X1_settle : yX1_settle.cls ≠ "java/lang/invoke/MethodHandle" ∧ yX1_settle.cls ≠ "java/lang/invoke/VarHandle" ∧ (parseMethodDescriptor yX1_settle.desc).map (fun d => d.parameters.length) = some 1 := by decide +kernel
theorem dX1_settle_0 : decode bX1_settle 0 = .ok (.aload_n 0, 1) := by decide +kernel
theorem dX1_settle_1 : decode bX1_settle 1 = .ok (.iload_n 1, 1) := by decide +kernel
theorem dX1_settle_2 : decode bX1_settle 2 = .ok (.invokevirtual 119, 3) := by decide +kernel
theorem dX1_settle_5 : decode bX1_settle 5 = .ok (.ifCond .eq 10, 3) := by decide +kernel
theorem dX1_settle_8 : decode bX1_settle 8 = .ok (.aload_n 0, 1) := by decide +kernel
theorem dX1_settle_9 : decode bX1_settle 9 = .ok (.getfield 12, 3) := by decide +kernel
theorem dX1_settle_12 : decode bX1_settle 12 = .ok (.invokevirtual 126, 3) := by decide +kernel
theorem dX1_settle_15 : decode bX1_settle 15 = .ok (.return_, 1) := by decide +kernel
abbrev bX1_goesAway : ByteArray := prog_3_method_17_code
def yX1_goesAway : MethodName := ⟨"WideDecimalDesk$Draft", "goesAway", "(I)Z"⟩
def wsX1_goesAway : List Cond := Cond.code yX1_goesAway bX1_goesAway 2 (some .boolean) :: wsA
theorem dc_X1_goesAway : yX1_goesAway.cls ≠ "java/lang/invoke/MethodHandle" ∧ yX1_goesAway.cls ≠ "java/lang/invoke/VarHandle" ∧ (parseMethodDescriptor yX1_goesAway.desc).map (fun d => d.parameters.length) = some 1 := by decide +kernel
theorem dX1_goesAway_0 : decode bX1_goesAway 0 = .ok (.iload_n 1, 1) := by decide +kernel
theorem dX1_goesAway_1 : decode bX1_goesAway 1 = .ok (.tableswitch 121 0 4 #[35, 67, 121, 81, 101], 35) := by decide +kernel
theorem dX1_goesAway_36 : decode bX1_goesAway 36 = .ok (.aload_n 0, 1) := by decide +kernel
theorem dX1_goesAway_37 : decode bX1_goesAway 37 = .ok (.getfield 29, 3) := by decide +kernel
theorem dX1_goesAway_40 : decode bX1_goesAway 40 = .ok (.iconst 3, 1) := by decide +kernel
theorem dX1_goesAway_41 : decode bX1_goesAway 41 = .ok (.if_icmp .eq 21, 3) := by decide +kernel
theorem dX1_goesAway_44 : decode bX1_goesAway 44 = .ok (.aload_n 0, 1) := by decide +kernel
theorem dX1_goesAway_45 : decode bX1_goesAway 45 = .ok (.getfield 29, 3) := by decide +kernel
theorem dX1_goesAway_48 : decode bX1_goesAway 48 = .ok (.iconst 2, 1) := by decide +kernel
theorem dX1_goesAway_49 : decode bX1_goesAway 49 = .ok (.if_icmp .ne 17, 3) := by decide +kernel
theorem dX1_goesAway_52 : decode bX1_goesAway 52 = .ok (.aload_n 0, 1) := by decide +kernel
theorem dX1_goesAway_53 : decode bX1_goesAway 53 = .ok (.getfield 12, 3) := by decide +kernel
theorem dX1_goesAway_56 : decode bX1_goesAway 56 = .ok (.invokevirtual 129, 3) := by decide +kernel
theorem dX1_goesAway_59 : decode bX1_goesAway 59 = .ok (.ifCond .eq 7, 3) := by decide +kernel
theorem dX1_goesAway_62 : decode bX1_goesAway 62 = .ok (.iconst 1, 1) := by decide +kernel
theorem dX1_goesAway_63 : decode bX1_goesAway 63 = .ok (.goto 4, 3) := by decide +kernel
theorem dX1_goesAway_66 : decode bX1_goesAway 66 = .ok (.iconst 0, 1) := by decide +kernel
theorem dX1_goesAway_67 : decode bX1_goesAway 67 = .ok (.ireturn, 1) := by decide +kernel
theorem dX1_goesAway_68 : decode bX1_goesAway 68 = .ok (.aload_n 0, 1) := by decide +kernel
theorem dX1_goesAway_69 : decode bX1_goesAway 69 = .ok (.getfield 29, 3) := by decide +kernel
theorem dX1_goesAway_72 : decode bX1_goesAway 72 = .ok (.iconst 2, 1) := by decide +kernel
theorem dX1_goesAway_73 : decode bX1_goesAway 73 = .ok (.if_icmp .lt 7, 3) := by decide +kernel
theorem dX1_goesAway_76 : decode bX1_goesAway 76 = .ok (.iconst 1, 1) := by decide +kernel
theorem dX1_goesAway_77 : decode bX1_goesAway 77 = .ok (.goto 4, 3) := by decide +kernel
theorem dX1_goesAway_80 : decode bX1_goesAway 80 = .ok (.iconst 0, 1) := by decide +kernel
theorem dX1_goesAway_81 : decode bX1_goesAway 81 = .ok (.ireturn, 1) := by decide +kernel
theorem dX1_goesAway_82 : decode bX1_goesAway 82 = .ok (.aload_n 0, 1) := by decide +kernel
theorem dX1_goesAway_83 : decode bX1_goesAway 83 = .ok (.getfield 29, 3) := by decide +kernel
theorem dX1_goesAway_86 : decode bX1_goesAway 86 = .ok (.ifCond .eq 14, 3) := by decide +kernel
theorem dX1_goesAway_89 : decode bX1_goesAway 89 = .ok (.aload_n 0, 1) := by decide +kernel
theorem dX1_goesAway_90 : decode bX1_goesAway 90 = .ok (.getfield 25, 3) := by decide +kernel
theorem dX1_goesAway_93 : decode bX1_goesAway 93 = .ok (.ifCond .eq 7, 3) := by decide +kernel
theorem dX1_goesAway_96 : decode bX1_goesAway 96 = .ok (.iconst 1, 1) := by decide +kernel
theorem dX1_goesAway_97 : decode bX1_goesAway 97 = .ok (.goto 4, 3) := by decide +kernel
theorem dX1_goesAway_100 : decode bX1_goesAway 100 = .ok (.iconst 0, 1) := by decide +kernel
theorem dX1_goesAway_101 : decode bX1_goesAway 101 = .ok (.ireturn, 1) := by decide +kernel
theorem dX1_goesAway_102 : decode bX1_goesAway 102 = .ok (.aload_n 0, 1) := by decide +kernel
theorem dX1_goesAway_103 : decode bX1_goesAway 103 = .ok (.getfield 29, 3) := by decide +kernel
theorem dX1_goesAway_106 : decode bX1_goesAway 106 = .ok (.ifCond .eq 14, 3) := by decide +kernel
theorem dX1_goesAway_109 : decode bX1_goesAway 109 = .ok (.aload_n 0, 1) := by decide +kernel
theorem dX1_goesAway_110 : decode bX1_goesAway 110 = .ok (.getfield 25, 3) := by decide +kernel
theorem dX1_goesAway_113 : decode bX1_goesAway 113 = .ok (.ifCond .ne 7, 3) := by decide +kernel
theorem dX1_goesAway_116 : decode bX1_goesAway 116 = .ok (.iconst 1, 1) := by decide +kernel
theorem dX1_goesAway_117 : decode bX1_goesAway 117 = .ok (.goto 4, 3) := by decide +kernel
theorem dX1_goesAway_120 : decode bX1_goesAway 120 = .ok (.iconst 0, 1) := by decide +kernel
theorem dX1_goesAway_121 : decode bX1_goesAway 121 = .ok (.ireturn, 1) := by decide +kernel
theorem dX1_goesAway_122 : decode bX1_goesAway 122 = .ok (.iconst 0, 1) := by decide +kernel
theorem dX1_goesAway_123 : decode bX1_goesAway 123 = .ok (.ireturn, 1) := by decide +kernel
abbrev bX5_init : ByteArray := prog_7_method_1_code
def yX5_init : MethodName := ⟨"WideDecimalDesk$Register", "<init>", "()V"⟩
def wsX5_init : List Cond := Cond.code yX5_init bX5_init 1 none :: wsA
theorem dc_X5_init : yX5_init.cls ≠ "java/lang/invoke/MethodHandle" ∧ yX5_init.cls ≠ "java/lang/invoke/VarHandle" ∧ (parseMethodDescriptor yX5_init.desc).map (fun d => d.parameters.length) = some 0 := by decide +kernel
theorem dX5_init_0 : decode bX5_init 0 = .ok (.aload_n 0, 1) := by decide +kernel
theorem dX5_init_1 : decode bX5_init 1 = .ok (.invokespecial 1, 3) := by decide +kernel
theorem dX5_init_4 : decode bX5_init 4 = .ok (.return_, 1) := by decide +kernel
abbrev bX5_take : ByteArray := prog_7_method_2_code
def yX5_take : MethodName := ⟨"WideDecimalDesk$Register", "take", "(JIIZ)V"⟩
def wsX5_take : List Cond := Cond.code yX5_take bX5_take 6 none :: wsA
theorem dc_X5_take : yX5_take.cls ≠ "java/lang/invoke/MethodHandle" ∧ yX5_take.cls ≠ "java/lang/invoke/VarHandle" ∧ (parseMethodDescriptor yX5_take.desc).map (fun d => d.parameters.length) = some 4 := by decide +kernel
theorem dX5_take_0 : decode bX5_take 0 = .ok (.aload_n 0, 1) := by decide +kernel
theorem dX5_take_1 : decode bX5_take 1 = .ok (.lload_n 1, 1) := by decide +kernel
theorem dX5_take_2 : decode bX5_take 2 = .ok (.putfield 7, 3) := by decide +kernel
theorem dX5_take_5 : decode bX5_take 5 = .ok (.aload_n 0, 1) := by decide +kernel
theorem dX5_take_6 : decode bX5_take 6 = .ok (.iload_n 3, 1) := by decide +kernel
theorem dX5_take_7 : decode bX5_take 7 = .ok (.putfield 13, 3) := by decide +kernel
theorem dX5_take_10 : decode bX5_take 10 = .ok (.aload_n 0, 1) := by decide +kernel
theorem dX5_take_11 : decode bX5_take 11 = .ok (.iload 4, 2) := by decide +kernel
theorem dX5_take_13 : decode bX5_take 13 = .ok (.putfield 17, 3) := by decide +kernel
theorem dX5_take_16 : decode bX5_take 16 = .ok (.aload_n 0, 1) := by decide +kernel
theorem dX5_take_17 : decode bX5_take 17 = .ok (.iload 5, 2) := by decide +kernel
theorem dX5_take_19 : decode bX5_take 19 = .ok (.ifCond .eq 14, 3) := by decide +kernel
theorem dX5_take_22 : decode bX5_take 22 = .ok (.aload_n 0, 1) := by decide +kernel
theorem dX5_take_23 : decode bX5_take 23 = .ok (.invokevirtual 20, 3) := by decide +kernel
theorem dX5_take_26 : decode bX5_take 26 = .ok (.ifCond .ne 7, 3) := by decide +kernel
theorem dX5_take_29 : decode bX5_take 29 = .ok (.iconst 1, 1) := by decide +kernel
theorem dX5_take_30 : decode bX5_take 30 = .ok (.goto 4, 3) := by decide +kernel
theorem dX5_take_33 : decode bX5_take 33 = .ok (.iconst 0, 1) := by decide +kernel
theorem dX5_take_34 : decode bX5_take 34 = .ok (.putfield 24, 3) := by decide +kernel
theorem dX5_take_37 : decode bX5_take 37 = .ok (.return_, 1) := by decide +kernel
abbrev bX5_isZero : ByteArray := prog_7_method_3_code
def yX5_isZero : MethodName := ⟨"WideDecimalDesk$Register", "isZero", "()Z"⟩
def wsX5_isZero : List Cond := Cond.code yX5_isZero bX5_isZero 1 (some .boolean) :: wsA
theorem dc_X5_isZero : yX5_isZero.cls ≠ "java/lang/invoke/MethodHandle" ∧ yX5_isZero.cls ≠ "java/lang/invoke/VarHandle" ∧ (parseMethodDescriptor yX5_isZero.desc).map (fun d => d.parameters.length) = some 0 := by decide +kernel
theorem dX5_isZero_0 : decode bX5_isZero 0 = .ok (.aload_n 0, 1) := by decide +kernel
theorem dX5_isZero_1 : decode bX5_isZero 1 = .ok (.getfield 7, 3) := by decide +kernel
theorem dX5_isZero_4 : decode bX5_isZero 4 = .ok (.lconst 0, 1) := by decide +kernel
theorem dX5_isZero_5 : decode bX5_isZero 5 = .ok (.lcmp, 1) := by decide +kernel
theorem dX5_isZero_6 : decode bX5_isZero 6 = .ok (.ifCond .ne 14, 3) := by decide +kernel
theorem dX5_isZero_9 : decode bX5_isZero 9 = .ok (.aload_n 0, 1) := by decide +kernel
theorem dX5_isZero_10 : decode bX5_isZero 10 = .ok (.getfield 13, 3) := by decide +kernel
theorem dX5_isZero_13 : decode bX5_isZero 13 = .ok (.ifCond .ne 7, 3) := by decide +kernel
theorem dX5_isZero_16 : decode bX5_isZero 16 = .ok (.iconst 1, 1) := by decide +kernel
theorem dX5_isZero_17 : decode bX5_isZero 17 = .ok (.goto 4, 3) := by decide +kernel
theorem dX5_isZero_20 : decode bX5_isZero 20 = .ok (.iconst 0, 1) := by decide +kernel
theorem dX5_isZero_21 : decode bX5_isZero 21 = .ok (.ireturn, 1) := by decide +kernel
abbrev bX2_init : ByteArray := prog_4_method_1_code
def yX2_init : MethodName := ⟨"WideDecimalDesk$Line", "<init>", "(I)V"⟩
def wsX2_init : List Cond := Cond.code yX2_init bX2_init 2 none :: wsA
theorem dc_X2_init : yX2_init.cls ≠ "java/lang/invoke/MethodHandle" ∧ yX2_init.cls ≠ "java/lang/invoke/VarHandle" ∧ (parseMethodDescriptor yX2_init.desc).map (fun d => d.parameters.length) = some 1 := by decide +kernel
theorem dX2_init_0 : decode bX2_init 0 = .ok (.aload_n 0, 1) := by decide +kernel
theorem dX2_init_1 : decode bX2_init 1 = .ok (.invokespecial 1, 3) := by decide +kernel
theorem dX2_init_4 : decode bX2_init 4 = .ok (.aload_n 0, 1) := by decide +kernel
theorem dX2_init_5 : decode bX2_init 5 = .ok (.iload_n 1, 1) := by decide +kernel
theorem dX2_init_6 : decode bX2_init 6 = .ok (.newarray .char, 2) := by decide +kernel
theorem dX2_init_8 : decode bX2_init 8 = .ok (.putfield 7, 3) := by decide +kernel
theorem dX2_init_11 : decode bX2_init 11 = .ok (.return_, 1) := by decide +kernel
abbrev bX2_empty : ByteArray := prog_4_method_2_code
def yX2_empty : MethodName := ⟨"WideDecimalDesk$Line", "empty", "()V"⟩
def wsX2_empty : List Cond := Cond.code yX2_empty bX2_empty 1 none :: wsA
theorem dc_X2_empty : yX2_empty.cls ≠ "java/lang/invoke/MethodHandle" ∧ yX2_empty.cls ≠ "java/lang/invoke/VarHandle" ∧ (parseMethodDescriptor yX2_empty.desc).map (fun d => d.parameters.length) = some 0 := by decide +kernel
theorem dX2_empty_0 : decode bX2_empty 0 = .ok (.aload_n 0, 1) := by decide +kernel
theorem dX2_empty_1 : decode bX2_empty 1 = .ok (.iconst 0, 1) := by decide +kernel
theorem dX2_empty_2 : decode bX2_empty 2 = .ok (.putfield 13, 3) := by decide +kernel
theorem dX2_empty_5 : decode bX2_empty 5 = .ok (.return_, 1) := by decide +kernel
abbrev bX2_put : ByteArray := prog_4_method_3_code
def yX2_put : MethodName := ⟨"WideDecimalDesk$Line", "put", "(C)Z"⟩
def wsX2_put : List Cond := Cond.code yX2_put bX2_put 2 (some .boolean) :: wsA
theorem dc_X2_put : yX2_put.cls ≠ "java/lang/invoke/MethodHandle" ∧ yX2_put.cls ≠ "java/lang/invoke/VarHandle" ∧ (parseMethodDescriptor yX2_put.desc).map (fun d => d.parameters.length) = some 1 := by decide +kernel
theorem dX2_put_0 : decode bX2_put 0 = .ok (.aload_n 0, 1) := by decide +kernel
theorem dX2_put_1 : decode bX2_put 1 = .ok (.getfield 13, 3) := by decide +kernel
theorem dX2_put_4 : decode bX2_put 4 = .ok (.aload_n 0, 1) := by decide +kernel
theorem dX2_put_5 : decode bX2_put 5 = .ok (.getfield 7, 3) := by decide +kernel
theorem dX2_put_8 : decode bX2_put 8 = .ok (.arraylength, 1) := by decide +kernel
theorem dX2_put_9 : decode bX2_put 9 = .ok (.if_icmp .lt 5, 3) := by decide +kernel
theorem dX2_put_12 : decode bX2_put 12 = .ok (.iconst 0, 1) := by decide +kernel
theorem dX2_put_13 : decode bX2_put 13 = .ok (.ireturn, 1) := by decide +kernel
theorem dX2_put_14 : decode bX2_put 14 = .ok (.aload_n 0, 1) := by decide +kernel
theorem dX2_put_15 : decode bX2_put 15 = .ok (.getfield 7, 3) := by decide +kernel
theorem dX2_put_18 : decode bX2_put 18 = .ok (.aload_n 0, 1) := by decide +kernel
theorem dX2_put_19 : decode bX2_put 19 = .ok (.getfield 13, 3) := by decide +kernel
theorem dX2_put_22 : decode bX2_put 22 = .ok (.iload_n 1, 1) := by decide +kernel
theorem dX2_put_23 : decode bX2_put 23 = .ok (.castore, 1) := by decide +kernel
theorem dX2_put_24 : decode bX2_put 24 = .ok (.aload_n 0, 1) := by decide +kernel
theorem dX2_put_25 : decode bX2_put 25 = .ok (.dup, 1) := by decide +kernel
theorem dX2_put_26 : decode bX2_put 26 = .ok (.getfield 13, 3) := by decide +kernel
theorem dX2_put_29 : decode bX2_put 29 = .ok (.iconst 1, 1) := by decide +kernel
theorem dX2_put_30 : decode bX2_put 30 = .ok (.iadd, 1) := by decide +kernel
theorem dX2_put_31 : decode bX2_put 31 = .ok (.putfield 13, 3) := by decide +kernel
theorem dX2_put_34 : decode bX2_put 34 = .ok (.iconst 1, 1) := by decide +kernel
theorem dX2_put_35 : decode bX2_put 35 = .ok (.ireturn, 1) := by decide +kernel
abbrev bX2_codeAt : ByteArray := prog_4_method_4_code
def yX2_codeAt : MethodName := ⟨"WideDecimalDesk$Line", "codeAt", "(I)I"⟩
def wsX2_codeAt : List Cond := Cond.code yX2_codeAt bX2_codeAt 2 (some .int) :: wsA
theorem dc_X2_codeAt : yX2_codeAt.cls ≠ "java/lang/invoke/MethodHandle" ∧ yX2_codeAt.cls ≠ "java/lang/invoke/VarHandle" ∧ (parseMethodDescriptor yX2_codeAt.desc).map (fun d => d.parameters.length) = some 1 := by decide +kernel
theorem dX2_codeAt_0 : decode bX2_codeAt 0 = .ok (.iload_n 1, 1) := by decide +kernel
theorem dX2_codeAt_1 : decode bX2_codeAt 1 = .ok (.ifCond .lt 20, 3) := by decide +kernel
theorem dX2_codeAt_4 : decode bX2_codeAt 4 = .ok (.iload_n 1, 1) := by decide +kernel
theorem dX2_codeAt_5 : decode bX2_codeAt 5 = .ok (.aload_n 0, 1) := by decide +kernel
theorem dX2_codeAt_6 : decode bX2_codeAt 6 = .ok (.getfield 13, 3) := by decide +kernel
theorem dX2_codeAt_9 : decode bX2_codeAt 9 = .ok (.if_icmp .ge 12, 3) := by decide +kernel
theorem dX2_codeAt_12 : decode bX2_codeAt 12 = .ok (.aload_n 0, 1) := by decide +kernel
theorem dX2_codeAt_13 : decode bX2_codeAt 13 = .ok (.getfield 7, 3) := by decide +kernel
theorem dX2_codeAt_16 : decode bX2_codeAt 16 = .ok (.iload_n 1, 1) := by decide +kernel
theorem dX2_codeAt_17 : decode bX2_codeAt 17 = .ok (.caload, 1) := by decide +kernel
theorem dX2_codeAt_18 : decode bX2_codeAt 18 = .ok (.goto 4, 3) := by decide +kernel
theorem dX2_codeAt_21 : decode bX2_codeAt 21 = .ok (.iconst (-1), 1) := by decide +kernel
theorem dX2_codeAt_22 : decode bX2_codeAt 22 = .ok (.ireturn, 1) := by decide +kernel
