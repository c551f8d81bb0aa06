abbrev bX8_init : ByteArray := prog_10_method_1_code
def yX8_init : MethodName := ⟨"WideDecimalDeskModel", "<init>", "()V"⟩
def wsX8_init : List Cond := Cond.code yX8_init bX8_init 2 none :: wsA
theorem dc_X8_init : yX8_init.cls ≠ "java/lang/invoke/MethodHandle" ∧ yX8_init.cls ≠ "java/lang/invoke/VarHandle" ∧ (parseMethodDescriptor yX8_init.desc).map (fun d => d.parameters.length) = some 0 := by decide +kernel
theorem dX8_init_0 : decode bX8_init 0 = .ok (.aload_n 0, 1) := by decide +kernel
theorem dX8_init_1 : decode bX8_init 1 = .ok (.invokespecial 1, 3) := by decide +kernel
theorem dX8_init_4 : decode bX8_init 4 = .ok (.aload_n 0, 1) := by decide +kernel
theorem dX8_init_5 : decode bX8_init 5 = .ok (.sipush 180, 3) := by decide +kernel
theorem dX8_init_8 : decode bX8_init 8 = .ok (.newarray .int, 2) := by decide +kernel
theorem dX8_init_10 : decode bX8_init 10 = .ok (.putfield 7, 3) := by decide +kernel
theorem dX8_init_13 : decode bX8_init 13 = .ok (.aload_n 0, 1) := by decide +kernel
theorem dX8_init_14 : decode bX8_init 14 = .ok (.bipush 6, 2) := by decide +kernel
theorem dX8_init_16 : decode bX8_init 16 = .ok (.newarray .int, 2) := by decide +kernel
theorem dX8_init_18 : decode bX8_init 18 = .ok (.putfield 13, 3) := by decide +kernel
theorem dX8_init_21 : decode bX8_init 21 = .ok (.aload_n 0, 1) := by decide +kernel
theorem dX8_init_22 : decode bX8_init 22 = .ok (.bipush 6, 2) := by decide +kernel
theorem dX8_init_24 : decode bX8_init 24 = .ok (.newarray .boolean, 2) := by decide +kernel
theorem dX8_init_26 : decode bX8_init 26 = .ok (.putfield 16, 3) := by decide +kernel
theorem dX8_init_29 : decode bX8_init 29 = .ok (.aload_n 0, 1) := by decide +kernel
theorem dX8_init_30 : decode bX8_init 30 = .ok (.bipush 40, 2) := by decide +kernel
theorem dX8_init_32 : decode bX8_init 32 = .ok (.newarray .char, 2) := by decide +kernel
theorem dX8_init_34 : decode bX8_init 34 = .ok (.putfield 20, 3) := by decide +kernel
theorem dX8_init_37 : decode bX8_init 37 = .ok (.aload_n 0, 1) := by decide +kernel
theorem dX8_init_38 : decode bX8_init 38 = .ok (.sipush 140, 3) := by decide +kernel
theorem dX8_init_41 : decode bX8_init 41 = .ok (.newarray .char, 2) := by decide +kernel
theorem dX8_init_43 : decode bX8_init 43 = .ok (.putfield 24, 3) := by decide +kernel
theorem dX8_init_46 : decode bX8_init 46 = .ok (.aload_n 0, 1) := by decide +kernel
theorem dX8_init_47 : decode bX8_init 47 = .ok (.bipush 100, 2) := by decide +kernel
theorem dX8_init_49 : decode bX8_init 49 = .ok (.newarray .int, 2) := by decide +kernel
theorem dX8_init_51 : decode bX8_init 51 = .ok (.putfield 27, 3) := by decide +kernel
theorem dX8_init_54 : decode bX8_init 54 = .ok (.aload_n 0, 1) := by decide +kernel
theorem dX8_init_55 : decode bX8_init 55 = .ok (.bipush 100, 2) := by decide +kernel
theorem dX8_init_57 : decode bX8_init 57 = .ok (.newarray .int, 2) := by decide +kernel
theorem dX8_init_59 : decode bX8_init 59 = .ok (.putfield 30, 3) := by decide +kernel
theorem dX8_init_62 : decode bX8_init 62 = .ok (.aload_n 0, 1) := by decide +kernel
theorem dX8_init_63 : decode bX8_init 63 = .ok (.bipush 100, 2) := by decide +kernel
theorem dX8_init_65 : decode bX8_init 65 = .ok (.newarray .int, 2) := by decide +kernel
theorem dX8_init_67 : decode bX8_init 67 = .ok (.putfield 33, 3) := by decide +kernel
theorem dX8_init_70 : decode bX8_init 70 = .ok (.aload_n 0, 1) := by decide +kernel
theorem dX8_init_71 : decode bX8_init 71 = .ok (.bipush 100, 2) := by decide +kernel
theorem dX8_init_73 : decode bX8_init 73 = .ok (.newarray .int, 2) := by decide +kernel
theorem dX8_init_75 : decode bX8_init 75 = .ok (.putfield 36, 3) := by decide +kernel
theorem dX8_init_78 : decode bX8_init 78 = .ok (.aload_n 0, 1) := by decide +kernel
theorem dX8_init_79 : decode bX8_init 79 = .ok (.bipush 100, 2) := by decide +kernel
theorem dX8_init_81 : decode bX8_init 81 = .ok (.newarray .int, 2) := by decide +kernel
theorem dX8_init_83 : decode bX8_init 83 = .ok (.putfield 39, 3) := by decide +kernel
theorem dX8_init_86 : decode bX8_init 86 = .ok (.aload_n 0, 1) := by decide +kernel
theorem dX8_init_87 : decode bX8_init 87 = .ok (.bipush 100, 2) := by decide +kernel
theorem dX8_init_89 : decode bX8_init 89 = .ok (.newarray .int, 2) := by decide +kernel
theorem dX8_init_91 : decode bX8_init 91 = .ok (.putfield 42, 3) := by decide +kernel
theorem dX8_init_94 : decode bX8_init 94 = .ok (.aload_n 0, 1) := by decide +kernel
theorem dX8_init_95 : decode bX8_init 95 = .ok (.bipush 100, 2) := by decide +kernel
theorem dX8_init_97 : decode bX8_init 97 = .ok (.newarray .int, 2) := by decide +kernel
theorem dX8_init_99 : decode bX8_init 99 = .ok (.putfield 45, 3) := by decide +kernel
theorem dX8_init_102 : decode bX8_init 102 = .ok (.aload_n 0, 1) := by decide +kernel
theorem dX8_init_103 : decode bX8_init 103 = .ok (.getfield 27, 3) := by decide +kernel
theorem dX8_init_106 : decode bX8_init 106 = .ok (.iconst 0, 1) := by decide +kernel
theorem dX8_init_107 : decode bX8_init 107 = .ok (.iconst 1, 1) := by decide +kernel
theorem dX8_init_108 : decode bX8_init 108 = .ok (.iastore, 1) := by decide +kernel
theorem dX8_init_109 : decode bX8_init 109 = .ok (.iconst 0, 1) := by decide +kernel
theorem dX8_init_110 : decode bX8_init 110 = .ok (.istore_n 1, 1) := by decide +kernel
theorem dX8_init_111 : decode bX8_init 111 = .ok (.iload_n 1, 1) := by decide +kernel
theorem dX8_init_112 : decode bX8_init 112 = .ok (.bipush 96, 2) := by decide +kernel
theorem dX8_init_114 : decode bX8_init 114 = .ok (.if_icmp .ge 16, 3) := by decide +kernel
theorem dX8_init_117 : decode bX8_init 117 = .ok (.aload_n 0, 1) := by decide +kernel
theorem dX8_init_118 : decode bX8_init 118 = .ok (.getfield 27, 3) := by decide +kernel
theorem dX8_init_121 : decode bX8_init 121 = .ok (.invokestatic 48, 3) := by decide +kernel
theorem dX8_init_124 : decode bX8_init 124 = .ok (.iinc 1 1, 3) := by decide +kernel
theorem dX8_init_127 : decode bX8_init 127 = .ok (.goto (-16), 3) := by decide +kernel
theorem dX8_init_130 : decode bX8_init 130 = .ok (.return_, 1) := by decide +kernel
abbrev bX8_set : ByteArray := prog_10_method_17_code
def yX8_set : MethodName := ⟨"WideDecimalDeskModel", "set", "(IJIIZ)V"⟩
def wsX8_set : List Cond := Cond.code yX8_set bX8_set 10 none :: wsA
theorem dc_X8_set : yX8_set.cls ≠ "java/lang/invoke/MethodHandle" ∧ yX8_set.cls ≠ "java/lang/invoke/VarHandle" ∧ (parseMethodDescriptor yX8_set.desc).map (fun d => d.parameters.length) = some 5 := by decide +kernel
theorem dX8_set_0 : decode bX8_set 0 = .ok (.aload_n 0, 1) := by decide +kernel
theorem dX8_set_1 : decode bX8_set 1 = .ok (.iload_n 1, 1) := by decide +kernel
theorem dX8_set_2 : decode bX8_set 2 = .ok (.invokestatic 81, 3) := by decide +kernel
theorem dX8_set_5 : decode bX8_set 5 = .ok (.ifCond .eq 19, 3) := by decide +kernel
theorem dX8_set_8 : decode bX8_set 8 = .ok (.iload 5, 2) := by decide +kernel
theorem dX8_set_10 : decode bX8_set 10 = .ok (.ifCond .lt 14, 3) := by decide +kernel
theorem dX8_set_13 : decode bX8_set 13 = .ok (.iload 5, 2) := by decide +kernel
theorem dX8_set_15 : decode bX8_set 15 = .ok (.bipush 28, 2) := by decide +kernel
theorem dX8_set_17 : decode bX8_set 17 = .ok (.if_icmp .gt 7, 3) := by decide +kernel
theorem dX8_set_20 : decode bX8_set 20 = .ok (.iconst 0, 1) := by decide +kernel
theorem dX8_set_21 : decode bX8_set 21 = .ok (.goto 4, 3) := by decide +kernel
theorem dX8_set_24 : decode bX8_set 24 = .ok (.iconst 1, 1) := by decide +kernel
theorem dX8_set_25 : decode bX8_set 25 = .ok (.putfield 52, 3) := by decide +kernel
theorem dX8_set_28 : decode bX8_set 28 = .ok (.aload_n 0, 1) := by decide +kernel
theorem dX8_set_29 : decode bX8_set 29 = .ok (.getfield 52, 3) := by decide +kernel
theorem dX8_set_32 : decode bX8_set 32 = .ok (.ifCond .ne 90, 3) := by decide +kernel
theorem dX8_set_35 : decode bX8_set 35 = .ok (.aload_n 0, 1) := by decide +kernel
theorem dX8_set_36 : decode bX8_set 36 = .ok (.getfield 30, 3) := by decide +kernel
theorem dX8_set_39 : decode bX8_set 39 = .ok (.invokestatic 60, 3) := by decide +kernel
theorem dX8_set_42 : decode bX8_set 42 = .ok (.bipush 95, 2) := by decide +kernel
theorem dX8_set_44 : decode bX8_set 44 = .ok (.istore 7, 2) := by decide +kernel
theorem dX8_set_46 : decode bX8_set 46 = .ok (.iload 7, 2) := by decide +kernel
theorem dX8_set_48 : decode bX8_set 48 = .ok (.ifCond .lt 61, 3) := by decide +kernel
theorem dX8_set_51 : decode bX8_set 51 = .ok (.aload_n 0, 1) := by decide +kernel
theorem dX8_set_52 : decode bX8_set 52 = .ok (.getfield 30, 3) := by decide +kernel
theorem dX8_set_55 : decode bX8_set 55 = .ok (.invokestatic 48, 3) := by decide +kernel
theorem dX8_set_58 : decode bX8_set 58 = .ok (.iload 7, 2) := by decide +kernel
theorem dX8_set_60 : decode bX8_set 60 = .ok (.bipush 64, 2) := by decide +kernel
theorem dX8_set_62 : decode bX8_set 62 = .ok (.if_icmp .ge 12, 3) := by decide +kernel
theorem dX8_set_65 : decode bX8_set 65 = .ok (.lload_n 2, 1) := by decide +kernel
theorem dX8_set_66 : decode bX8_set 66 = .ok (.iload 7, 2) := by decide +kernel
theorem dX8_set_68 : decode bX8_set 68 = .ok (.lshr, 1) := by decide +kernel
theorem dX8_set_69 : decode bX8_set 69 = .ok (.lconst 1, 1) := by decide +kernel
theorem dX8_set_70 : decode bX8_set 70 = .ok (.land, 1) := by decide +kernel
theorem dX8_set_71 : decode bX8_set 71 = .ok (.goto 14, 3) := by decide +kernel
theorem dX8_set_74 : decode bX8_set 74 = .ok (.iload 4, 2) := by decide +kernel
theorem dX8_set_76 : decode bX8_set 76 = .ok (.iload 7, 2) := by decide +kernel
theorem dX8_set_78 : decode bX8_set 78 = .ok (.bipush 64, 2) := by decide +kernel
theorem dX8_set_80 : decode bX8_set 80 = .ok (.isub, 1) := by decide +kernel
theorem dX8_set_81 : decode bX8_set 81 = .ok (.ishr, 1) := by decide +kernel
theorem dX8_set_82 : decode bX8_set 82 = .ok (.iconst 1, 1) := by decide +kernel
theorem dX8_set_83 : decode bX8_set 83 = .ok (.iand, 1) := by decide +kernel
theorem dX8_set_84 : decode bX8_set 84 = .ok (.i2l, 1) := by decide +kernel
theorem dX8_set_85 : decode bX8_set 85 = .ok (.lstore 8, 2) := by decide +kernel
theorem dX8_set_87 : decode bX8_set 87 = .ok (.aload_n 0, 1) := by decide +kernel
theorem dX8_set_88 : decode bX8_set 88 = .ok (.getfield 30, 3) := by decide +kernel
theorem dX8_set_91 : decode bX8_set 91 = .ok (.iconst 0, 1) := by decide +kernel
theorem dX8_set_92 : decode bX8_set 92 = .ok (.aload_n 0, 1) := by decide +kernel
theorem dX8_set_93 : decode bX8_set 93 = .ok (.getfield 30, 3) := by decide +kernel
theorem dX8_set_96 : decode bX8_set 96 = .ok (.iconst 0, 1) := by decide +kernel
theorem dX8_set_97 : decode bX8_set 97 = .ok (.iaload, 1) := by decide +kernel
theorem dX8_set_98 : decode bX8_set 98 = .ok (.lload 8, 2) := by decide +kernel
theorem dX8_set_100 : decode bX8_set 100 = .ok (.l2i, 1) := by decide +kernel
theorem dX8_set_101 : decode bX8_set 101 = .ok (.iadd, 1) := by decide +kernel
theorem dX8_set_102 : decode bX8_set 102 = .ok (.iastore, 1) := by decide +kernel
theorem dX8_set_103 : decode bX8_set 103 = .ok (.iinc 7 (-1), 3) := by decide +kernel
theorem dX8_set_106 : decode bX8_set 106 = .ok (.goto (-60), 3) := by decide +kernel
theorem dX8_set_109 : decode bX8_set 109 = .ok (.aload_n 0, 1) := by decide +kernel
theorem dX8_set_110 : decode bX8_set 110 = .ok (.iload_n 1, 1) := by decide +kernel
theorem dX8_set_111 : decode bX8_set 111 = .ok (.aload_n 0, 1) := by decide +kernel
theorem dX8_set_112 : decode bX8_set 112 = .ok (.getfield 30, 3) := by decide +kernel
theorem dX8_set_115 : decode bX8_set 115 = .ok (.iload 5, 2) := by decide +kernel
theorem dX8_set_117 : decode bX8_set 117 = .ok (.iload 6, 2) := by decide +kernel
theorem dX8_set_119 : decode bX8_set 119 = .ok (.invokevirtual 85, 3) := by decide +kernel
theorem dX8_set_122 : decode bX8_set 122 = .ok (.return_, 1) := by decide +kernel
abbrev bX8_bits : ByteArray := prog_10_method_18_code
def yX8_bits : MethodName := ⟨"WideDecimalDeskModel", "bits", "(III)J"⟩
def wsX8_bits : List Cond := Cond.code yX8_bits bX8_bits 12 (some .long) :: wsA
theorem dc_X8_bits : yX8_bits.cls ≠ "java/lang/invoke/MethodHandle" ∧ yX8_bits.cls ≠ "java/lang/invoke/VarHandle" ∧ (parseMethodDescriptor yX8_bits.desc).map (fun d => d.parameters.length) = some 3 := by decide +kernel
theorem dX8_bits_0 : decode bX8_bits 0 = .ok (.aload_n 0, 1) := by decide +kernel
theorem dX8_bits_1 : decode bX8_bits 1 = .ok (.iload_n 1, 1) := by decide +kernel
theorem dX8_bits_2 : decode bX8_bits 2 = .ok (.aload_n 0, 1) := by decide +kernel
theorem dX8_bits_3 : decode bX8_bits 3 = .ok (.getfield 45, 3) := by decide +kernel
theorem dX8_bits_6 : decode bX8_bits 6 = .ok (.invokevirtual 89, 3) := by decide +kernel
theorem dX8_bits_9 : decode bX8_bits 9 = .ok (.lconst 0, 1) := by decide +kernel
theorem dX8_bits_10 : decode bX8_bits 10 = .ok (.lstore 4, 2) := by decide +kernel
theorem dX8_bits_12 : decode bX8_bits 12 = .ok (.iconst 0, 1) := by decide +kernel
theorem dX8_bits_13 : decode bX8_bits 13 = .ok (.istore 6, 2) := by decide +kernel
theorem dX8_bits_15 : decode bX8_bits 15 = .ok (.iload 6, 2) := by decide +kernel
theorem dX8_bits_17 : decode bX8_bits 17 = .ok (.iload_n 3, 1) := by decide +kernel
theorem dX8_bits_18 : decode bX8_bits 18 = .ok (.if_icmp .ge 93, 3) := by decide +kernel
theorem dX8_bits_21 : decode bX8_bits 21 = .ok (.aload_n 0, 1) := by decide +kernel
theorem dX8_bits_22 : decode bX8_bits 22 = .ok (.getfield 45, 3) := by decide +kernel
theorem dX8_bits_25 : decode bX8_bits 25 = .ok (.iconst 0, 1) := by decide +kernel
theorem dX8_bits_26 : decode bX8_bits 26 = .ok (.iaload, 1) := by decide +kernel
theorem dX8_bits_27 : decode bX8_bits 27 = .ok (.iconst 2, 1) := by decide +kernel
theorem dX8_bits_28 : decode bX8_bits 28 = .ok (.irem, 1) := by decide +kernel
theorem dX8_bits_29 : decode bX8_bits 29 = .ok (.i2l, 1) := by decide +kernel
theorem dX8_bits_30 : decode bX8_bits 30 = .ok (.lstore 7, 2) := by decide +kernel
theorem dX8_bits_32 : decode bX8_bits 32 = .ok (.iload 6, 2) := by decide +kernel
theorem dX8_bits_34 : decode bX8_bits 34 = .ok (.iload_n 2, 1) := by decide +kernel
theorem dX8_bits_35 : decode bX8_bits 35 = .ok (.if_icmp .lt 16, 3) := by decide +kernel
theorem dX8_bits_38 : decode bX8_bits 38 = .ok (.lload 4, 2) := by decide +kernel
theorem dX8_bits_40 : decode bX8_bits 40 = .ok (.lload 7, 2) := by decide +kernel
theorem dX8_bits_42 : decode bX8_bits 42 = .ok (.iload 6, 2) := by decide +kernel
theorem dX8_bits_44 : decode bX8_bits 44 = .ok (.iload_n 2, 1) := by decide +kernel
theorem dX8_bits_45 : decode bX8_bits 45 = .ok (.isub, 1) := by decide +kernel
theorem dX8_bits_46 : decode bX8_bits 46 = .ok (.lshl, 1) := by decide +kernel
theorem dX8_bits_47 : decode bX8_bits 47 = .ok (.lor, 1) := by decide +kernel
theorem dX8_bits_48 : decode bX8_bits 48 = .ok (.goto 5, 3) := by decide +kernel
theorem dX8_bits_51 : decode bX8_bits 51 = .ok (.lload 4, 2) := by decide +kernel
theorem dX8_bits_53 : decode bX8_bits 53 = .ok (.lstore 4, 2) := by decide +kernel
theorem dX8_bits_55 : decode bX8_bits 55 = .ok (.iconst 0, 1) := by decide +kernel
theorem dX8_bits_56 : decode bX8_bits 56 = .ok (.istore 9, 2) := by decide +kernel
theorem dX8_bits_58 : decode bX8_bits 58 = .ok (.bipush 99, 2) := by decide +kernel
theorem dX8_bits_60 : decode bX8_bits 60 = .ok (.istore 10, 2) := by decide +kernel
theorem dX8_bits_62 : decode bX8_bits 62 = .ok (.iload 10, 2) := by decide +kernel
theorem dX8_bits_64 : decode bX8_bits 64 = .ok (.ifCond .lt 41, 3) := by decide +kernel
theorem dX8_bits_67 : decode bX8_bits 67 = .ok (.bipush 10, 2) := by decide +kernel
theorem dX8_bits_69 : decode bX8_bits 69 = .ok (.iload 9, 2) := by decide +kernel
theorem dX8_bits_71 : decode bX8_bits 71 = .ok (.imul, 1) := by decide +kernel
theorem dX8_bits_72 : decode bX8_bits 72 = .ok (.aload_n 0, 1) := by decide +kernel
theorem dX8_bits_73 : decode bX8_bits 73 = .ok (.getfield 45, 3) := by decide +kernel
theorem dX8_bits_76 : decode bX8_bits 76 = .ok (.iload 10, 2) := by decide +kernel
theorem dX8_bits_78 : decode bX8_bits 78 = .ok (.iaload, 1) := by decide +kernel
theorem dX8_bits_79 : decode bX8_bits 79 = .ok (.iadd, 1) := by decide +kernel
theorem dX8_bits_80 : decode bX8_bits 80 = .ok (.istore 11, 2) := by decide +kernel
theorem dX8_bits_82 : decode bX8_bits 82 = .ok (.aload_n 0, 1) := by decide +kernel
theorem dX8_bits_83 : decode bX8_bits 83 = .ok (.getfield 45, 3) := by decide +kernel
theorem dX8_bits_86 : decode bX8_bits 86 = .ok (.iload 10, 2) := by decide +kernel
theorem dX8_bits_88 : decode bX8_bits 88 = .ok (.iload 11, 2) := by decide +kernel
theorem dX8_bits_90 : decode bX8_bits 90 = .ok (.iconst 2, 1) := by decide +kernel
theorem dX8_bits_91 : decode bX8_bits 91 = .ok (.idiv, 1) := by decide +kernel
theorem dX8_bits_92 : decode bX8_bits 92 = .ok (.iastore, 1) := by decide +kernel
theorem dX8_bits_93 : decode bX8_bits 93 = .ok (.iload 11, 2) := by decide +kernel
theorem dX8_bits_95 : decode bX8_bits 95 = .ok (.iconst 2, 1) := by decide +kernel
theorem dX8_bits_96 : decode bX8_bits 96 = .ok (.irem, 1) := by decide +kernel
theorem dX8_bits_97 : decode bX8_bits 97 = .ok (.istore 9, 2) := by decide +kernel
theorem dX8_bits_99 : decode bX8_bits 99 = .ok (.iinc 10 (-1), 3) := by decide +kernel
theorem dX8_bits_102 : decode bX8_bits 102 = .ok (.goto (-40), 3) := by decide +kernel
theorem dX8_bits_105 : decode bX8_bits 105 = .ok (.iinc 6 1, 3) := by decide +kernel
theorem dX8_bits_108 : decode bX8_bits 108 = .ok (.goto (-93), 3) := by decide +kernel
theorem dX8_bits_111 : decode bX8_bits 111 = .ok (.lload 4, 2) := by decide +kernel
theorem dX8_bits_113 : decode bX8_bits 113 = .ok (.lreturn, 1) := by decide +kernel
abbrev bX8_low : ByteArray := prog_10_method_19_code
def yX8_low : MethodName := ⟨"WideDecimalDeskModel", "low", "(I)J"⟩
def wsX8_low : List Cond := Cond.code yX8_low bX8_low 2 (some .long) :: wsA
theorem dc_X8_low : yX8_low.cls ≠ "java/lang/invoke/MethodHandle" ∧ yX8_low.cls ≠ "java/lang/invoke/VarHandle" ∧ (parseMethodDescriptor yX8_low.desc).map (fun d => d.parameters.length) = some 1 := by decide +kernel
theorem dX8_low_0 : decode bX8_low 0 = .ok (.aload_n 0, 1) := by decide +kernel
theorem dX8_low_1 : decode bX8_low 1 = .ok (.iconst 0, 1) := by decide +kernel
theorem dX8_low_2 : decode bX8_low 2 = .ok (.putfield 52, 3) := by decide +kernel
theorem dX8_low_5 : decode bX8_low 5 = .ok (.iload_n 1, 1) := by decide +kernel
theorem dX8_low_6 : decode bX8_low 6 = .ok (.invokestatic 81, 3) := by decide +kernel
theorem dX8_low_9 : decode bX8_low 9 = .ok (.ifCond .eq 14, 3) := by decide +kernel
theorem dX8_low_12 : decode bX8_low 12 = .ok (.aload_n 0, 1) := by decide +kernel
theorem dX8_low_13 : decode bX8_low 13 = .ok (.iload_n 1, 1) := by decide +kernel
theorem dX8_low_14 : decode bX8_low 14 = .ok (.iconst 0, 1) := by decide +kernel
theorem dX8_low_15 : decode bX8_low 15 = .ok (.bipush 64, 2) := by decide +kernel
theorem dX8_low_17 : decode bX8_low 17 = .ok (.invokevirtual 93, 3) := by decide +kernel
theorem dX8_low_20 : decode bX8_low 20 = .ok (.goto 4, 3) := by decide +kernel
theorem dX8_low_23 : decode bX8_low 23 = .ok (.lconst 0, 1) := by decide +kernel
theorem dX8_low_24 : decode bX8_low 24 = .ok (.lreturn, 1) := by decide +kernel
abbrev bX8_high : ByteArray := prog_10_method_20_code
def yX8_high : MethodName := ⟨"WideDecimalDeskModel", "high", "(I)I"⟩
def wsX8_high : List Cond := Cond.code yX8_high bX8_high 2 (some .int) :: wsA
theorem dc_X8_high : yX8_high.cls ≠ "java/lang/invoke/MethodHandle" ∧ yX8_high.cls ≠ "java/lang/invoke/VarHandle" ∧ (parseMethodDescriptor yX8_high.desc).map (fun d => d.parameters.length) = some 1 := by decide +kernel
theorem dX8_high_0 : decode bX8_high 0 = .ok (.aload_n 0, 1) := by decide +kernel
theorem dX8_high_1 : decode bX8_high 1 = .ok (.iconst 0, 1) := by decide +kernel
theorem dX8_high_2 : decode bX8_high 2 = .ok (.putfield 52, 3) := by decide +kernel
theorem dX8_high_5 : decode bX8_high 5 = .ok (.iload_n 1, 1) := by decide +kernel
theorem dX8_high_6 : decode bX8_high 6 = .ok (.invokestatic 81, 3) := by decide +kernel
theorem dX8_high_9 : decode bX8_high 9 = .ok (.ifCond .eq 16, 3) := by decide +kernel
theorem dX8_high_12 : decode bX8_high 12 = .ok (.aload_n 0, 1) := by decide +kernel
theorem dX8_high_13 : decode bX8_high 13 = .ok (.iload_n 1, 1) := by decide +kernel
theorem dX8_high_14 : decode bX8_high 14 = .ok (.bipush 64, 2) := by decide +kernel
theorem dX8_high_16 : decode bX8_high 16 = .ok (.bipush 96, 2) := by decide +kernel
theorem dX8_high_18 : decode bX8_high 18 = .ok (.invokevirtual 93, 3) := by decide +kernel
theorem dX8_high_21 : decode bX8_high 21 = .ok (.l2i, 1) := by decide +kernel
theorem dX8_high_22 : decode bX8_high 22 = .ok (.goto 4, 3) := by decide +kernel
theorem dX8_high_25 : decode bX8_high 25 = .ok (.iconst 0, 1) := by decide +kernel
theorem dX8_high_26 : decode bX8_high 26 = .ok (.ireturn, 1) := by decide +kernel
abbrev bX8_scale : ByteArray := prog_10_method_21_code
def yX8_scale : MethodName := ⟨"WideDecimalDeskModel", "scale", "(I)I"⟩
def wsX8_scale : List Cond := Cond.code yX8_scale bX8_scale 2 (some .int) :: wsA
theorem dc_X8_scale : yX8_scale.cls ≠ "java/lang/invoke/MethodHandle" ∧ yX8_scale.cls ≠ "java/lang/invoke/VarHandle" ∧ (parseMethodDescriptor yX8_scale.desc).map (fun d => d.parameters.length) = some 1 := by decide +kernel
theorem dX8_scale_0 : decode bX8_scale 0 = .ok (.aload_n 0, 1) := by decide +kernel
theorem dX8_scale_1 : decode bX8_scale 1 = .ok (.iconst 0, 1) := by decide +kernel
theorem dX8_scale_2 : decode bX8_scale 2 = .ok (.putfield 52, 3) := by decide +kernel
theorem dX8_scale_5 : decode bX8_scale 5 = .ok (.iload_n 1, 1) := by decide +kernel
theorem dX8_scale_6 : decode bX8_scale 6 = .ok (.invokestatic 81, 3) := by decide +kernel
theorem dX8_scale_9 : decode bX8_scale 9 = .ok (.ifCond .eq 12, 3) := by decide +kernel
theorem dX8_scale_12 : decode bX8_scale 12 = .ok (.aload_n 0, 1) := by decide +kernel
theorem dX8_scale_13 : decode bX8_scale 13 = .ok (.getfield 13, 3) := by decide +kernel
theorem dX8_scale_16 : decode bX8_scale 16 = .ok (.iload_n 1, 1) := by decide +kernel
theorem dX8_scale_17 : decode bX8_scale 17 = .ok (.iaload, 1) := by decide +kernel
theorem dX8_scale_18 : decode bX8_scale 18 = .ok (.goto 4, 3) := by decide +kernel
theorem dX8_scale_21 : decode bX8_scale 21 = .ok (.iconst (-1), 1) := by decide +kernel
theorem dX8_scale_22 : decode bX8_scale 22 = .ok (.ireturn, 1) := by decide +kernel
abbrev bX8_negative : ByteArray := prog_10_method_22_code
def yX8_negative : MethodName := ⟨"WideDecimalDeskModel", "negative", "(I)Z"⟩
def wsX8_negative : List Cond := Cond.code yX8_negative bX8_negative 2 (some .boolean) :: wsA
theorem dc_X8_negative : yX8_negative.cls ≠ "java/lang/invoke/MethodHandle" ∧ yX8_negative.cls ≠ "java/lang/invoke/VarHandle" ∧ (parseMethodDescriptor yX8_negative.desc).map (fun d => d.parameters.length) = some 1 := by decide +kernel
theorem dX8_negative_0 : decode bX8_negative 0 = .ok (.aload_n 0, 1) := by decide +kernel
theorem dX8_negative_1 : decode bX8_negative 1 = .ok (.iconst 0, 1) := by decide +kernel
theorem dX8_negative_2 : decode bX8_negative 2 = .ok (.putfield 52, 3) := by decide +kernel
theorem dX8_negative_5 : decode bX8_negative 5 = .ok (.iload_n 1, 1) := by decide +kernel
theorem dX8_negative_6 : decode bX8_negative 6 = .ok (.invokestatic 81, 3) := by decide +kernel
theorem dX8_negative_9 : decode bX8_negative 9 = .ok (.ifCond .eq 16, 3) := by decide +kernel
theorem dX8_negative_12 : decode bX8_negative 12 = .ok (.aload_n 0, 1) := by decide +kernel
theorem dX8_negative_13 : decode bX8_negative 13 = .ok (.getfield 16, 3) := by decide +kernel
theorem dX8_negative_16 : decode bX8_negative 16 = .ok (.iload_n 1, 1) := by decide +kernel
theorem dX8_negative_17 : decode bX8_negative 17 = .ok (.baload, 1) := by decide +kernel
theorem dX8_negative_18 : decode bX8_negative 18 = .ok (.ifCond .eq 7, 3) := by decide +kernel
theorem dX8_negative_21 : decode bX8_negative 21 = .ok (.iconst 1, 1) := by decide +kernel
theorem dX8_negative_22 : decode bX8_negative 22 = .ok (.goto 4, 3) := by decide +kernel
theorem dX8_negative_25 : decode bX8_negative 25 = .ok (.iconst 0, 1) := by decide +kernel
theorem dX8_negative_26 : decode bX8_negative 26 = .ok (.ireturn, 1) := by decide +kernel
abbrev bX8_compute : ByteArray := prog_10_method_30_code
def yX8_compute : MethodName := ⟨"WideDecimalDeskModel", "compute", "(IIII)V"⟩
def wsX8_compute : List Cond := Cond.code yX8_compute bX8_compute 6 none :: wsA
theorem dc_X8_compute : yX8_compute.cls ≠ "java/lang/invoke/MethodHandle" ∧ yX8_compute.cls ≠ "java/lang/invoke/VarHandle" ∧ (parseMethodDescriptor yX8_compute.desc).map (fun d => d.parameters.length) = some 4 := by decide +kernel
theorem dX8_compute_0 : decode bX8_compute 0 = .ok (.aload_n 0, 1) := by decide +kernel
theorem dX8_compute_1 : decode bX8_compute 1 = .ok (.iconst 1, 1) := by decide +kernel
theorem dX8_compute_2 : decode bX8_compute 2 = .ok (.putfield 52, 3) := by decide +kernel
theorem dX8_compute_5 : decode bX8_compute 5 = .ok (.iload_n 1, 1) := by decide +kernel
theorem dX8_compute_6 : decode bX8_compute 6 = .ok (.iload_n 2, 1) := by decide +kernel
theorem dX8_compute_7 : decode bX8_compute 7 = .ok (.iload_n 3, 1) := by decide +kernel
theorem dX8_compute_8 : decode bX8_compute 8 = .ok (.iload 4, 2) := by decide +kernel
theorem dX8_compute_10 : decode bX8_compute 10 = .ok (.invokestatic 127, 3) := by decide +kernel
theorem dX8_compute_13 : decode bX8_compute 13 = .ok (.ifCond .ne 58, 3) := by decide +kernel
theorem dX8_compute_16 : decode bX8_compute 16 = .ok (.aload_n 0, 1) := by decide +kernel
theorem dX8_compute_17 : decode bX8_compute 17 = .ok (.iload_n 1, 1) := by decide +kernel
theorem dX8_compute_18 : decode bX8_compute 18 = .ok (.iload_n 3, 1) := by decide +kernel
theorem dX8_compute_19 : decode bX8_compute 19 = .ok (.iload 4, 2) := by decide +kernel
theorem dX8_compute_21 : decode bX8_compute 21 = .ok (.invokevirtual 131, 3) := by decide +kernel
theorem dX8_compute_24 : decode bX8_compute 24 = .ok (.istore 5, 2) := by decide +kernel
theorem dX8_compute_26 : decode bX8_compute 26 = .ok (.aload_n 0, 1) := by decide +kernel
theorem dX8_compute_27 : decode bX8_compute 27 = .ok (.iload 5, 2) := by decide +kernel
theorem dX8_compute_29 : decode bX8_compute 29 = .ok (.iconst 1, 1) := by decide +kernel
theorem dX8_compute_30 : decode bX8_compute 30 = .ok (.if_icmp .ne 7, 3) := by decide +kernel
theorem dX8_compute_33 : decode bX8_compute 33 = .ok (.iconst 2, 1) := by decide +kernel
theorem dX8_compute_34 : decode bX8_compute 34 = .ok (.goto 4, 3) := by decide +kernel
theorem dX8_compute_37 : decode bX8_compute 37 = .ok (.iconst 0, 1) := by decide +kernel
theorem dX8_compute_38 : decode bX8_compute 38 = .ok (.putfield 52, 3) := by decide +kernel
theorem dX8_compute_41 : decode bX8_compute 41 = .ok (.iload 5, 2) := by decide +kernel
theorem dX8_compute_43 : decode bX8_compute 43 = .ok (.iconst 1, 1) := by decide +kernel
theorem dX8_compute_44 : decode bX8_compute 44 = .ok (.if_icmp .eq 27, 3) := by decide +kernel
theorem dX8_compute_47 : decode bX8_compute 47 = .ok (.aload_n 0, 1) := by decide +kernel
theorem dX8_compute_48 : decode bX8_compute 48 = .ok (.iload_n 2, 1) := by decide +kernel
theorem dX8_compute_49 : decode bX8_compute 49 = .ok (.aload_n 0, 1) := by decide +kernel
theorem dX8_compute_50 : decode bX8_compute 50 = .ok (.getfield 39, 3) := by decide +kernel
theorem dX8_compute_53 : decode bX8_compute 53 = .ok (.aload_n 0, 1) := by decide +kernel
theorem dX8_compute_54 : decode bX8_compute 54 = .ok (.getfield 107, 3) := by decide +kernel
theorem dX8_compute_57 : decode bX8_compute 57 = .ok (.iload 5, 2) := by decide +kernel
theorem dX8_compute_59 : decode bX8_compute 59 = .ok (.iconst 2, 1) := by decide +kernel
theorem dX8_compute_60 : decode bX8_compute 60 = .ok (.if_icmp .ne 7, 3) := by decide +kernel
theorem dX8_compute_63 : decode bX8_compute 63 = .ok (.iconst 1, 1) := by decide +kernel
theorem dX8_compute_64 : decode bX8_compute 64 = .ok (.goto 4, 3) := by decide +kernel
theorem dX8_compute_67 : decode bX8_compute 67 = .ok (.iconst 0, 1) := by decide +kernel
theorem dX8_compute_68 : decode bX8_compute 68 = .ok (.invokevirtual 85, 3) := by decide +kernel
theorem dX8_compute_71 : decode bX8_compute 71 = .ok (.return_, 1) := by decide +kernel
abbrev bX8_attempt : ByteArray := prog_10_method_31_code
def yX8_attempt : MethodName := ⟨"WideDecimalDeskModel", "attempt", "(IIII)Z"⟩
def wsX8_attempt : List Cond := Cond.code yX8_attempt bX8_attempt 6 (some .boolean) :: wsA
theorem dc_X8_attempt : yX8_attempt.cls ≠ "java/lang/invoke/MethodHandle" ∧ yX8_attempt.cls ≠ "java/lang/invoke/VarHandle" ∧ (parseMethodDescriptor yX8_attempt.desc).map (fun d => d.parameters.length) = some 4 := by decide +kernel
theorem dX8_attempt_0 : decode bX8_attempt 0 = .ok (.aload_n 0, 1) := by decide +kernel
theorem dX8_attempt_1 : decode bX8_attempt 1 = .ok (.iload_n 1, 1) := by decide +kernel
theorem dX8_attempt_2 : decode bX8_attempt 2 = .ok (.iload_n 2, 1) := by decide +kernel
theorem dX8_attempt_3 : decode bX8_attempt 3 = .ok (.iload_n 3, 1) := by decide +kernel
theorem dX8_attempt_4 : decode bX8_attempt 4 = .ok (.iload 4, 2) := by decide +kernel
theorem dX8_attempt_6 : decode bX8_attempt 6 = .ok (.invokevirtual 135, 3) := by decide +kernel
theorem dX8_attempt_9 : decode bX8_attempt 9 = .ok (.aload_n 0, 1) := by decide +kernel
theorem dX8_attempt_10 : decode bX8_attempt 10 = .ok (.getfield 52, 3) := by decide +kernel
theorem dX8_attempt_13 : decode bX8_attempt 13 = .ok (.ifCond .ne 7, 3) := by decide +kernel
theorem dX8_attempt_16 : decode bX8_attempt 16 = .ok (.iconst 1, 1) := by decide +kernel
theorem dX8_attempt_17 : decode bX8_attempt 17 = .ok (.goto 4, 3) := by decide +kernel
theorem dX8_attempt_20 : decode bX8_attempt 20 = .ok (.iconst 0, 1) := by decide +kernel
theorem dX8_attempt_21 : decode bX8_attempt 21 = .ok (.istore 5, 2) := by decide +kernel
theorem dX8_attempt_23 : decode bX8_attempt 23 = .ok (.aload_n 0, 1) := by decide +kernel
theorem dX8_attempt_24 : decode bX8_attempt 24 = .ok (.iconst 0, 1) := by decide +kernel
theorem dX8_attempt_25 : decode bX8_attempt 25 = .ok (.putfield 52, 3) := by decide +kernel
theorem dX8_attempt_28 : decode bX8_attempt 28 = .ok (.iload 5, 2) := by decide +kernel
theorem dX8_attempt_30 : decode bX8_attempt 30 = .ok (.ireturn, 1) := by decide +kernel
abbrev bX8_round : ByteArray := prog_10_method_32_code
def yX8_round : MethodName := ⟨"WideDecimalDeskModel", "round", "(IIII)V"⟩
def wsX8_round : List Cond := Cond.code yX8_round bX8_round 9 none :: wsA
theorem dc_X8_round : yX8_round.cls ≠ "java/lang/invoke/MethodHandle" ∧ yX8_round.cls ≠ "java/lang/invoke/VarHandle" ∧ (parseMethodDescriptor yX8_round.desc).map (fun d => d.parameters.length) = some 4 := by decide +kernel
theorem dX8_round_0 : decode bX8_round 0 = .ok (.aload_n 0, 1) := by decide +kernel
theorem dX8_round_1 : decode bX8_round 1 = .ok (.iload_n 1, 1) := by decide +kernel
theorem dX8_round_2 : decode bX8_round 2 = .ok (.invokestatic 81, 3) := by decide +kernel
theorem dX8_round_5 : decode bX8_round 5 = .ok (.ifCond .eq 35, 3) := by decide +kernel
theorem dX8_round_8 : decode bX8_round 8 = .ok (.iload_n 2, 1) := by decide +kernel
theorem dX8_round_9 : decode bX8_round 9 = .ok (.invokestatic 81, 3) := by decide +kernel
theorem dX8_round_12 : decode bX8_round 12 = .ok (.ifCond .eq 28, 3) := by decide +kernel
theorem dX8_round_15 : decode bX8_round 15 = .ok (.iload_n 3, 1) := by decide +kernel
theorem dX8_round_16 : decode bX8_round 16 = .ok (.ifCond .lt 24, 3) := by decide +kernel
theorem dX8_round_19 : decode bX8_round 19 = .ok (.iload_n 3, 1) := by decide +kernel
theorem dX8_round_20 : decode bX8_round 20 = .ok (.bipush 28, 2) := by decide +kernel
theorem dX8_round_22 : decode bX8_round 22 = .ok (.if_icmp .gt 18, 3) := by decide +kernel
theorem dX8_round_25 : decode bX8_round 25 = .ok (.iload 4, 2) := by decide +kernel
theorem dX8_round_27 : decode bX8_round 27 = .ok (.ifCond .lt 13, 3) := by decide +kernel
theorem dX8_round_30 : decode bX8_round 30 = .ok (.iload 4, 2) := by decide +kernel
theorem dX8_round_32 : decode bX8_round 32 = .ok (.iconst 4, 1) := by decide +kernel
theorem dX8_round_33 : decode bX8_round 33 = .ok (.if_icmp .gt 7, 3) := by decide +kernel
theorem dX8_round_36 : decode bX8_round 36 = .ok (.iconst 0, 1) := by decide +kernel
theorem dX8_round_37 : decode bX8_round 37 = .ok (.goto 4, 3) := by decide +kernel
theorem dX8_round_40 : decode bX8_round 40 = .ok (.iconst 1, 1) := by decide +kernel
theorem dX8_round_41 : decode bX8_round 41 = .ok (.putfield 52, 3) := by decide +kernel
theorem dX8_round_44 : decode bX8_round 44 = .ok (.aload_n 0, 1) := by decide +kernel
theorem dX8_round_45 : decode bX8_round 45 = .ok (.getfield 52, 3) := by decide +kernel
theorem dX8_round_48 : decode bX8_round 48 = .ok (.iconst 1, 1) := by decide +kernel
theorem dX8_round_49 : decode bX8_round 49 = .ok (.if_icmp .ne 4, 3) := by decide +kernel
theorem dX8_round_52 : decode bX8_round 52 = .ok (.return_, 1) := by decide +kernel
theorem dX8_round_53 : decode bX8_round 53 = .ok (.aload_n 0, 1) := by decide +kernel
theorem dX8_round_54 : decode bX8_round 54 = .ok (.getfield 16, 3) := by decide +kernel
theorem dX8_round_57 : decode bX8_round 57 = .ok (.iload_n 2, 1) := by decide +kernel
theorem dX8_round_58 : decode bX8_round 58 = .ok (.baload, 1) := by decide +kernel
theorem dX8_round_59 : decode bX8_round 59 = .ok (.istore 5, 2) := by decide +kernel
theorem dX8_round_61 : decode bX8_round 61 = .ok (.aload_n 0, 1) := by decide +kernel
theorem dX8_round_62 : decode bX8_round 62 = .ok (.getfield 13, 3) := by decide +kernel
theorem dX8_round_65 : decode bX8_round 65 = .ok (.iload_n 2, 1) := by decide +kernel
theorem dX8_round_66 : decode bX8_round 66 = .ok (.iaload, 1) := by decide +kernel
theorem dX8_round_67 : decode bX8_round 67 = .ok (.iload_n 3, 1) := by decide +kernel
theorem dX8_round_68 : decode bX8_round 68 = .ok (.if_icmp .gt 30, 3) := by decide +kernel
theorem dX8_round_71 : decode bX8_round 71 = .ok (.aload_n 0, 1) := by decide +kernel
theorem dX8_round_72 : decode bX8_round 72 = .ok (.iload_n 2, 1) := by decide +kernel
theorem dX8_round_73 : decode bX8_round 73 = .ok (.aload_n 0, 1) := by decide +kernel
theorem dX8_round_74 : decode bX8_round 74 = .ok (.getfield 30, 3) := by decide +kernel
theorem dX8_round_77 : decode bX8_round 77 = .ok (.invokevirtual 89, 3) := by decide +kernel
theorem dX8_round_80 : decode bX8_round 80 = .ok (.aload_n 0, 1) := by decide +kernel
theorem dX8_round_81 : decode bX8_round 81 = .ok (.iload_n 1, 1) := by decide +kernel
theorem dX8_round_82 : decode bX8_round 82 = .ok (.aload_n 0, 1) := by decide +kernel
theorem dX8_round_83 : decode bX8_round 83 = .ok (.getfield 30, 3) := by decide +kernel
theorem dX8_round_86 : decode bX8_round 86 = .ok (.aload_n 0, 1) := by decide +kernel
theorem dX8_round_87 : decode bX8_round 87 = .ok (.getfield 13, 3) := by decide +kernel
theorem dX8_round_90 : decode bX8_round 90 = .ok (.iload_n 2, 1) := by decide +kernel
theorem dX8_round_91 : decode bX8_round 91 = .ok (.iaload, 1) := by decide +kernel
theorem dX8_round_92 : decode bX8_round 92 = .ok (.iload 5, 2) := by decide +kernel
theorem dX8_round_94 : decode bX8_round 94 = .ok (.invokevirtual 85, 3) := by decide +kernel
theorem dX8_round_97 : decode bX8_round 97 = .ok (.return_, 1) := by decide +kernel
theorem dX8_round_98 : decode bX8_round 98 = .ok (.aload_n 0, 1) := by decide +kernel
theorem dX8_round_99 : decode bX8_round 99 = .ok (.iload_n 2, 1) := by decide +kernel
theorem dX8_round_100 : decode bX8_round 100 = .ok (.aload_n 0, 1) := by decide +kernel
theorem dX8_round_101 : decode bX8_round 101 = .ok (.getfield 36, 3) := by decide +kernel
theorem dX8_round_104 : decode bX8_round 104 = .ok (.invokevirtual 89, 3) := by decide +kernel
theorem dX8_round_107 : decode bX8_round 107 = .ok (.aload_n 0, 1) := by decide +kernel
theorem dX8_round_108 : decode bX8_round 108 = .ok (.aload_n 0, 1) := by decide +kernel
theorem dX8_round_109 : decode bX8_round 109 = .ok (.getfield 33, 3) := by decide +kernel
theorem dX8_round_112 : decode bX8_round 112 = .ok (.aload_n 0, 1) := by decide +kernel
theorem dX8_round_113 : decode bX8_round 113 = .ok (.getfield 13, 3) := by decide +kernel
theorem dX8_round_116 : decode bX8_round 116 = .ok (.iload_n 2, 1) := by decide +kernel
theorem dX8_round_117 : decode bX8_round 117 = .ok (.iaload, 1) := by decide +kernel
theorem dX8_round_118 : decode bX8_round 118 = .ok (.iload_n 3, 1) := by decide +kernel
theorem dX8_round_119 : decode bX8_round 119 = .ok (.isub, 1) := by decide +kernel
theorem dX8_round_120 : decode bX8_round 120 = .ok (.invokevirtual 110, 3) := by decide +kernel
theorem dX8_round_123 : decode bX8_round 123 = .ok (.aload_n 0, 1) := by decide +kernel
theorem dX8_round_124 : decode bX8_round 124 = .ok (.invokevirtual 97, 3) := by decide +kernel
theorem dX8_round_127 : decode bX8_round 127 = .ok (.aload_n 0, 1) := by decide +kernel
theorem dX8_round_128 : decode bX8_round 128 = .ok (.invokevirtual 100, 3) := by decide +kernel
theorem dX8_round_131 : decode bX8_round 131 = .ok (.istore 6, 2) := by decide +kernel
theorem dX8_round_133 : decode bX8_round 133 = .ok (.aload_n 0, 1) := by decide +kernel
theorem dX8_round_134 : decode bX8_round 134 = .ok (.getfield 42, 3) := by decide +kernel
theorem dX8_round_137 : decode bX8_round 137 = .ok (.invokestatic 77, 3) := by decide +kernel
theorem dX8_round_140 : decode bX8_round 140 = .ok (.ifCond .ne 7, 3) := by decide +kernel
theorem dX8_round_143 : decode bX8_round 143 = .ok (.iconst 1, 1) := by decide +kernel
theorem dX8_round_144 : decode bX8_round 144 = .ok (.goto 4, 3) := by decide +kernel
theorem dX8_round_147 : decode bX8_round 147 = .ok (.iconst 0, 1) := by decide +kernel
theorem dX8_round_148 : decode bX8_round 148 = .ok (.istore 7, 2) := by decide +kernel
theorem dX8_round_150 : decode bX8_round 150 = .ok (.iload 4, 2) := by decide +kernel
theorem dX8_round_152 : decode bX8_round 152 = .ok (.ifCond .ne 33, 3) := by decide +kernel
theorem dX8_round_155 : decode bX8_round 155 = .ok (.iload 6, 2) := by decide +kernel
theorem dX8_round_157 : decode bX8_round 157 = .ok (.ifCond .gt 20, 3) := by decide +kernel
theorem dX8_round_160 : decode bX8_round 160 = .ok (.iload 6, 2) := by decide +kernel
theorem dX8_round_162 : decode bX8_round 162 = .ok (.ifCond .ne 19, 3) := by decide +kernel
theorem dX8_round_165 : decode bX8_round 165 = .ok (.aload_n 0, 1) := by decide +kernel
theorem dX8_round_166 : decode bX8_round 166 = .ok (.getfield 39, 3) := by decide +kernel
theorem dX8_round_169 : decode bX8_round 169 = .ok (.iconst 0, 1) := by decide +kernel
theorem dX8_round_170 : decode bX8_round 170 = .ok (.iaload, 1) := by decide +kernel
theorem dX8_round_171 : decode bX8_round 171 = .ok (.iconst 2, 1) := by decide +kernel
theorem dX8_round_172 : decode bX8_round 172 = .ok (.irem, 1) := by decide +kernel
theorem dX8_round_173 : decode bX8_round 173 = .ok (.iconst 1, 1) := by decide +kernel
theorem dX8_round_174 : decode bX8_round 174 = .ok (.if_icmp .ne 7, 3) := by decide +kernel
theorem dX8_round_177 : decode bX8_round 177 = .ok (.iconst 1, 1) := by decide +kernel
theorem dX8_round_178 : decode bX8_round 178 = .ok (.goto 75, 3) := by decide +kernel
theorem dX8_round_181 : decode bX8_round 181 = .ok (.iconst 0, 1) := by decide +kernel
theorem dX8_round_182 : decode bX8_round 182 = .ok (.goto 71, 3) := by decide +kernel
theorem dX8_round_185 : decode bX8_round 185 = .ok (.iload 4, 2) := by decide +kernel
theorem dX8_round_187 : decode bX8_round 187 = .ok (.iconst 1, 1) := by decide +kernel
theorem dX8_round_188 : decode bX8_round 188 = .ok (.if_icmp .ne 16, 3) := by decide +kernel
theorem dX8_round_191 : decode bX8_round 191 = .ok (.iload 6, 2) := by decide +kernel
theorem dX8_round_193 : decode bX8_round 193 = .ok (.ifCond .lt 7, 3) := by decide +kernel
theorem dX8_round_196 : decode bX8_round 196 = .ok (.iconst 1, 1) := by decide +kernel
theorem dX8_round_197 : decode bX8_round 197 = .ok (.goto 56, 3) := by decide +kernel
theorem dX8_round_200 : decode bX8_round 200 = .ok (.iconst 0, 1) := by decide +kernel
theorem dX8_round_201 : decode bX8_round 201 = .ok (.goto 52, 3) := by decide +kernel
theorem dX8_round_204 : decode bX8_round 204 = .ok (.iload 4, 2) := by decide +kernel
theorem dX8_round_206 : decode bX8_round 206 = .ok (.iconst 2, 1) := by decide +kernel
theorem dX8_round_207 : decode bX8_round 207 = .ok (.if_icmp .ne 7, 3) := by decide +kernel
theorem dX8_round_210 : decode bX8_round 210 = .ok (.iconst 0, 1) := by decide +kernel
theorem dX8_round_211 : decode bX8_round 211 = .ok (.goto 42, 3) := by decide +kernel
theorem dX8_round_214 : decode bX8_round 214 = .ok (.iload 4, 2) := by decide +kernel
theorem dX8_round_216 : decode bX8_round 216 = .ok (.iconst 3, 1) := by decide +kernel
theorem dX8_round_217 : decode bX8_round 217 = .ok (.if_icmp .ne 21, 3) := by decide +kernel
theorem dX8_round_220 : decode bX8_round 220 = .ok (.iload 5, 2) := by decide +kernel
theorem dX8_round_222 : decode bX8_round 222 = .ok (.ifCond .eq 12, 3) := by decide +kernel
theorem dX8_round_225 : decode bX8_round 225 = .ok (.iload 7, 2) := by decide +kernel
theorem dX8_round_227 : decode bX8_round 227 = .ok (.ifCond .eq 7, 3) := by decide +kernel
theorem dX8_round_230 : decode bX8_round 230 = .ok (.iconst 1, 1) := by decide +kernel
theorem dX8_round_231 : decode bX8_round 231 = .ok (.goto 22, 3) := by decide +kernel
theorem dX8_round_234 : decode bX8_round 234 = .ok (.iconst 0, 1) := by decide +kernel
theorem dX8_round_235 : decode bX8_round 235 = .ok (.goto 18, 3) := by decide +kernel
theorem dX8_round_238 : decode bX8_round 238 = .ok (.iload 5, 2) := by decide +kernel
theorem dX8_round_240 : decode bX8_round 240 = .ok (.ifCond .ne 12, 3) := by decide +kernel
theorem dX8_round_243 : decode bX8_round 243 = .ok (.iload 7, 2) := by decide +kernel
theorem dX8_round_245 : decode bX8_round 245 = .ok (.ifCond .eq 7, 3) := by decide +kernel
theorem dX8_round_248 : decode bX8_round 248 = .ok (.iconst 1, 1) := by decide +kernel
theorem dX8_round_249 : decode bX8_round 249 = .ok (.goto 4, 3) := by decide +kernel
theorem dX8_round_252 : decode bX8_round 252 = .ok (.iconst 0, 1) := by decide +kernel
theorem dX8_round_253 : decode bX8_round 253 = .ok (.istore 8, 2) := by decide +kernel
theorem dX8_round_255 : decode bX8_round 255 = .ok (.iload 8, 2) := by decide +kernel
theorem dX8_round_257 : decode bX8_round 257 = .ok (.ifCond .eq 10, 3) := by decide +kernel
theorem dX8_round_260 : decode bX8_round 260 = .ok (.aload_n 0, 1) := by decide +kernel
theorem dX8_round_261 : decode bX8_round 261 = .ok (.getfield 39, 3) := by decide +kernel
theorem dX8_round_264 : decode bX8_round 264 = .ok (.invokestatic 104, 3) := by decide +kernel
theorem dX8_round_267 : decode bX8_round 267 = .ok (.aload_n 0, 1) := by decide +kernel
theorem dX8_round_268 : decode bX8_round 268 = .ok (.iload_n 1, 1) := by decide +kernel
theorem dX8_round_269 : decode bX8_round 269 = .ok (.aload_n 0, 1) := by decide +kernel
theorem dX8_round_270 : decode bX8_round 270 = .ok (.getfield 39, 3) := by decide +kernel
theorem dX8_round_273 : decode bX8_round 273 = .ok (.iload_n 3, 1) := by decide +kernel
theorem dX8_round_274 : decode bX8_round 274 = .ok (.iload 5, 2) := by decide +kernel
theorem dX8_round_276 : decode bX8_round 276 = .ok (.invokevirtual 85, 3) := by decide +kernel
theorem dX8_round_279 : decode bX8_round 279 = .ok (.return_, 1) := by decide +kernel
abbrev bX8_trim : ByteArray := prog_10_method_33_code
def yX8_trim : MethodName := ⟨"WideDecimalDeskModel", "trim", "(II)V"⟩
def wsX8_trim : List Cond := Cond.code yX8_trim bX8_trim 6 none :: wsA
theorem dc_X8_trim : yX8_trim.cls ≠ "java/lang/invoke/MethodHandle" ∧ yX8_trim.cls ≠ "java/lang/invoke/VarHandle" ∧ (parseMethodDescriptor yX8_trim.desc).map (fun d => d.parameters.length) = some 2 := by decide +kernel
theorem dX8_trim_0 : decode bX8_trim 0 = .ok (.aload_n 0, 1) := by decide +kernel
theorem dX8_trim_1 : decode bX8_trim 1 = .ok (.iload_n 1, 1) := by decide +kernel
theorem dX8_trim_2 : decode bX8_trim 2 = .ok (.invokestatic 81, 3) := by decide +kernel
theorem dX8_trim_5 : decode bX8_trim 5 = .ok (.ifCond .eq 14, 3) := by decide +kernel
theorem dX8_trim_8 : decode bX8_trim 8 = .ok (.iload_n 2, 1) := by decide +kernel
theorem dX8_trim_9 : decode bX8_trim 9 = .ok (.invokestatic 81, 3) := by decide +kernel
theorem dX8_trim_12 : decode bX8_trim 12 = .ok (.ifCond .eq 7, 3) := by decide +kernel
theorem dX8_trim_15 : decode bX8_trim 15 = .ok (.iconst 0, 1) := by decide +kernel
theorem dX8_trim_16 : decode bX8_trim 16 = .ok (.goto 4, 3) := by decide +kernel
theorem dX8_trim_19 : decode bX8_trim 19 = .ok (.iconst 1, 1) := by decide +kernel
theorem dX8_trim_20 : decode bX8_trim 20 = .ok (.putfield 52, 3) := by decide +kernel
theorem dX8_trim_23 : decode bX8_trim 23 = .ok (.aload_n 0, 1) := by decide +kernel
theorem dX8_trim_24 : decode bX8_trim 24 = .ok (.getfield 52, 3) := by decide +kernel
theorem dX8_trim_27 : decode bX8_trim 27 = .ok (.iconst 1, 1) := by decide +kernel
theorem dX8_trim_28 : decode bX8_trim 28 = .ok (.if_icmp .ne 4, 3) := by decide +kernel
theorem dX8_trim_31 : decode bX8_trim 31 = .ok (.return_, 1) := by decide +kernel
theorem dX8_trim_32 : decode bX8_trim 32 = .ok (.aload_n 0, 1) := by decide +kernel
theorem dX8_trim_33 : decode bX8_trim 33 = .ok (.iload_n 2, 1) := by decide +kernel
theorem dX8_trim_34 : decode bX8_trim 34 = .ok (.aload_n 0, 1) := by decide +kernel
theorem dX8_trim_35 : decode bX8_trim 35 = .ok (.getfield 30, 3) := by decide +kernel
theorem dX8_trim_38 : decode bX8_trim 38 = .ok (.invokevirtual 89, 3) := by decide +kernel
theorem dX8_trim_41 : decode bX8_trim 41 = .ok (.aload_n 0, 1) := by decide +kernel
theorem dX8_trim_42 : decode bX8_trim 42 = .ok (.getfield 16, 3) := by decide +kernel
theorem dX8_trim_45 : decode bX8_trim 45 = .ok (.iload_n 2, 1) := by decide +kernel
theorem dX8_trim_46 : decode bX8_trim 46 = .ok (.baload, 1) := by decide +kernel
theorem dX8_trim_47 : decode bX8_trim 47 = .ok (.istore_n 3, 1) := by decide +kernel
theorem dX8_trim_48 : decode bX8_trim 48 = .ok (.aload_n 0, 1) := by decide +kernel
theorem dX8_trim_49 : decode bX8_trim 49 = .ok (.getfield 13, 3) := by decide +kernel
theorem dX8_trim_52 : decode bX8_trim 52 = .ok (.iload_n 2, 1) := by decide +kernel
theorem dX8_trim_53 : decode bX8_trim 53 = .ok (.iaload, 1) := by decide +kernel
theorem dX8_trim_54 : decode bX8_trim 54 = .ok (.istore 4, 2) := by decide +kernel
theorem dX8_trim_56 : decode bX8_trim 56 = .ok (.iload 4, 2) := by decide +kernel
theorem dX8_trim_58 : decode bX8_trim 58 = .ok (.ifCond .le 58, 3) := by decide +kernel
theorem dX8_trim_61 : decode bX8_trim 61 = .ok (.aload_n 0, 1) := by decide +kernel
theorem dX8_trim_62 : decode bX8_trim 62 = .ok (.getfield 30, 3) := by decide +kernel
theorem dX8_trim_65 : decode bX8_trim 65 = .ok (.iconst 0, 1) := by decide +kernel
theorem dX8_trim_66 : decode bX8_trim 66 = .ok (.iaload, 1) := by decide +kernel
theorem dX8_trim_67 : decode bX8_trim 67 = .ok (.ifCond .ne 49, 3) := by decide +kernel
theorem dX8_trim_70 : decode bX8_trim 70 = .ok (.iconst 0, 1) := by decide +kernel
theorem dX8_trim_71 : decode bX8_trim 71 = .ok (.istore 5, 2) := by decide +kernel
theorem dX8_trim_73 : decode bX8_trim 73 = .ok (.iload 5, 2) := by decide +kernel
theorem dX8_trim_75 : decode bX8_trim 75 = .ok (.bipush 99, 2) := by decide +kernel
theorem dX8_trim_77 : decode bX8_trim 77 = .ok (.if_icmp .ge 25, 3) := by decide +kernel
theorem dX8_trim_80 : decode bX8_trim 80 = .ok (.aload_n 0, 1) := by decide +kernel
theorem dX8_trim_81 : decode bX8_trim 81 = .ok (.getfield 30, 3) := by decide +kernel
theorem dX8_trim_84 : decode bX8_trim 84 = .ok (.iload 5, 2) := by decide +kernel
theorem dX8_trim_86 : decode bX8_trim 86 = .ok (.aload_n 0, 1) := by decide +kernel
theorem dX8_trim_87 : decode bX8_trim 87 = .ok (.getfield 30, 3) := by decide +kernel
theorem dX8_trim_90 : decode bX8_trim 90 = .ok (.iload 5, 2) := by decide +kernel
theorem dX8_trim_92 : decode bX8_trim 92 = .ok (.iconst 1, 1) := by decide +kernel
theorem dX8_trim_93 : decode bX8_trim 93 = .ok (.iadd, 1) := by decide +kernel
theorem dX8_trim_94 : decode bX8_trim 94 = .ok (.iaload, 1) := by decide +kernel
theorem dX8_trim_95 : decode bX8_trim 95 = .ok (.iastore, 1) := by decide +kernel
theorem dX8_trim_96 : decode bX8_trim 96 = .ok (.iinc 5 1, 3) := by decide +kernel
theorem dX8_trim_99 : decode bX8_trim 99 = .ok (.goto (-26), 3) := by decide +kernel
theorem dX8_trim_102 : decode bX8_trim 102 = .ok (.aload_n 0, 1) := by decide +kernel
theorem dX8_trim_103 : decode bX8_trim 103 = .ok (.getfield 30, 3) := by decide +kernel
theorem dX8_trim_106 : decode bX8_trim 106 = .ok (.bipush 99, 2) := by decide +kernel
theorem dX8_trim_108 : decode bX8_trim 108 = .ok (.iconst 0, 1) := by decide +kernel
theorem dX8_trim_109 : decode bX8_trim 109 = .ok (.iastore, 1) := by decide +kernel
theorem dX8_trim_110 : decode bX8_trim 110 = .ok (.iinc 4 (-1), 3) := by decide +kernel
theorem dX8_trim_113 : decode bX8_trim 113 = .ok (.goto (-57), 3) := by decide +kernel
theorem dX8_trim_116 : decode bX8_trim 116 = .ok (.aload_n 0, 1) := by decide +kernel
theorem dX8_trim_117 : decode bX8_trim 117 = .ok (.iload_n 1, 1) := by decide +kernel
theorem dX8_trim_118 : decode bX8_trim 118 = .ok (.aload_n 0, 1) := by decide +kernel
theorem dX8_trim_119 : decode bX8_trim 119 = .ok (.getfield 30, 3) := by decide +kernel
theorem dX8_trim_122 : decode bX8_trim 122 = .ok (.iload 4, 2) := by decide +kernel
theorem dX8_trim_124 : decode bX8_trim 124 = .ok (.iload_n 3, 1) := by decide +kernel
theorem dX8_trim_125 : decode bX8_trim 125 = .ok (.invokevirtual 85, 3) := by decide +kernel
theorem dX8_trim_128 : decode bX8_trim 128 = .ok (.return_, 1) := by decide +kernel
abbrev bX8_compare : ByteArray := prog_10_method_34_code
def yX8_compare : MethodName := ⟨"WideDecimalDeskModel", "compare", "(II)I"⟩
def wsX8_compare : List Cond := Cond.code yX8_compare bX8_compare 5 (some .int) :: wsA
theorem dc_X8_compare : yX8_compare.cls ≠ "java/lang/invoke/MethodHandle" ∧ yX8_compare.cls ≠ "java/lang/invoke/VarHandle" ∧ (parseMethodDescriptor yX8_compare.desc).map (fun d => d.parameters.length) = some 2 := by decide +kernel
theorem dX8_compare_0 : decode bX8_compare 0 = .ok (.aload_n 0, 1) := by decide +kernel
theorem dX8_compare_1 : decode bX8_compare 1 = .ok (.iload_n 1, 1) := by decide +kernel
theorem dX8_compare_2 : decode bX8_compare 2 = .ok (.invokestatic 81, 3) := by decide +kernel
theorem dX8_compare_5 : decode bX8_compare 5 = .ok (.ifCond .eq 14, 3) := by decide +kernel
theorem dX8_compare_8 : decode bX8_compare 8 = .ok (.iload_n 2, 1) := by decide +kernel
theorem dX8_compare_9 : decode bX8_compare 9 = .ok (.invokestatic 81, 3) := by decide +kernel
theorem dX8_compare_12 : decode bX8_compare 12 = .ok (.ifCond .eq 7, 3) := by decide +kernel
theorem dX8_compare_15 : decode bX8_compare 15 = .ok (.iconst 0, 1) := by decide +kernel
theorem dX8_compare_16 : decode bX8_compare 16 = .ok (.goto 4, 3) := by decide +kernel
theorem dX8_compare_19 : decode bX8_compare 19 = .ok (.iconst 1, 1) := by decide +kernel
theorem dX8_compare_20 : decode bX8_compare 20 = .ok (.putfield 52, 3) := by decide +kernel
theorem dX8_compare_23 : decode bX8_compare 23 = .ok (.aload_n 0, 1) := by decide +kernel
theorem dX8_compare_24 : decode bX8_compare 24 = .ok (.getfield 52, 3) := by decide +kernel
theorem dX8_compare_27 : decode bX8_compare 27 = .ok (.iconst 1, 1) := by decide +kernel
theorem dX8_compare_28 : decode bX8_compare 28 = .ok (.if_icmp .ne 5, 3) := by decide +kernel
theorem dX8_compare_31 : decode bX8_compare 31 = .ok (.iconst 0, 1) := by decide +kernel
theorem dX8_compare_32 : decode bX8_compare 32 = .ok (.ireturn, 1) := by decide +kernel
theorem dX8_compare_33 : decode bX8_compare 33 = .ok (.aload_n 0, 1) := by decide +kernel
theorem dX8_compare_34 : decode bX8_compare 34 = .ok (.getfield 13, 3) := by decide +kernel
theorem dX8_compare_37 : decode bX8_compare 37 = .ok (.iload_n 1, 1) := by decide +kernel
theorem dX8_compare_38 : decode bX8_compare 38 = .ok (.iaload, 1) := by decide +kernel
theorem dX8_compare_39 : decode bX8_compare 39 = .ok (.aload_n 0, 1) := by decide +kernel
theorem dX8_compare_40 : decode bX8_compare 40 = .ok (.getfield 13, 3) := by decide +kernel
theorem dX8_compare_43 : decode bX8_compare 43 = .ok (.iload_n 2, 1) := by decide +kernel
theorem dX8_compare_44 : decode bX8_compare 44 = .ok (.iaload, 1) := by decide +kernel
theorem dX8_compare_45 : decode bX8_compare 45 = .ok (.if_icmp .le 12, 3) := by decide +kernel
theorem dX8_compare_48 : decode bX8_compare 48 = .ok (.aload_n 0, 1) := by decide +kernel
theorem dX8_compare_49 : decode bX8_compare 49 = .ok (.getfield 13, 3) := by decide +kernel
theorem dX8_compare_52 : decode bX8_compare 52 = .ok (.iload_n 1, 1) := by decide +kernel
theorem dX8_compare_53 : decode bX8_compare 53 = .ok (.iaload, 1) := by decide +kernel
theorem dX8_compare_54 : decode bX8_compare 54 = .ok (.goto 9, 3) := by decide +kernel
theorem dX8_compare_57 : decode bX8_compare 57 = .ok (.aload_n 0, 1) := by decide +kernel
theorem dX8_compare_58 : decode bX8_compare 58 = .ok (.getfield 13, 3) := by decide +kernel
theorem dX8_compare_61 : decode bX8_compare 61 = .ok (.iload_n 2, 1) := by decide +kernel
theorem dX8_compare_62 : decode bX8_compare 62 = .ok (.iaload, 1) := by decide +kernel
theorem dX8_compare_63 : decode bX8_compare 63 = .ok (.istore_n 3, 1) := by decide +kernel
theorem dX8_compare_64 : decode bX8_compare 64 = .ok (.aload_n 0, 1) := by decide +kernel
theorem dX8_compare_65 : decode bX8_compare 65 = .ok (.iload_n 1, 1) := by decide +kernel
theorem dX8_compare_66 : decode bX8_compare 66 = .ok (.iload_n 2, 1) := by decide +kernel
theorem dX8_compare_67 : decode bX8_compare 67 = .ok (.iconst 1, 1) := by decide +kernel
theorem dX8_compare_68 : decode bX8_compare 68 = .ok (.iload_n 3, 1) := by decide +kernel
theorem dX8_compare_69 : decode bX8_compare 69 = .ok (.invokevirtual 113, 3) := by decide +kernel
theorem dX8_compare_72 : decode bX8_compare 72 = .ok (.istore 4, 2) := by decide +kernel
theorem dX8_compare_74 : decode bX8_compare 74 = .ok (.aload_n 0, 1) := by decide +kernel
theorem dX8_compare_75 : decode bX8_compare 75 = .ok (.getfield 30, 3) := by decide +kernel
theorem dX8_compare_78 : decode bX8_compare 78 = .ok (.invokestatic 77, 3) := by decide +kernel
theorem dX8_compare_81 : decode bX8_compare 81 = .ok (.ifCond .eq 7, 3) := by decide +kernel
theorem dX8_compare_84 : decode bX8_compare 84 = .ok (.iconst 0, 1) := by decide +kernel
theorem dX8_compare_85 : decode bX8_compare 85 = .ok (.goto 13, 3) := by decide +kernel
theorem dX8_compare_88 : decode bX8_compare 88 = .ok (.iload 4, 2) := by decide +kernel
theorem dX8_compare_90 : decode bX8_compare 90 = .ok (.ifCond .eq 7, 3) := by decide +kernel
theorem dX8_compare_93 : decode bX8_compare 93 = .ok (.iconst (-1), 1) := by decide +kernel
theorem dX8_compare_94 : decode bX8_compare 94 = .ok (.goto 4, 3) := by decide +kernel
theorem dX8_compare_97 : decode bX8_compare 97 = .ok (.iconst 1, 1) := by decide +kernel
theorem dX8_compare_98 : decode bX8_compare 98 = .ok (.ireturn, 1) := by decide +kernel
abbrev bX8_parse : ByteArray := prog_10_method_38_code
def yX8_parse : MethodName := ⟨"WideDecimalDeskModel", "parse", "(I)V"⟩
def wsX8_parse : List Cond := Cond.code yX8_parse bX8_parse 8 none :: wsA
theorem dc_X8_parse : yX8_parse.cls ≠ "java/lang/invoke/MethodHandle" ∧ yX8_parse.cls ≠ "java/lang/invoke/VarHandle" ∧ (parseMethodDescriptor yX8_parse.desc).map (fun d => d.parameters.length) = some 1 := by decide +kernel
theorem dX8_parse_0 : decode bX8_parse 0 = .ok (.aload_n 0, 1) := by decide +kernel
theorem dX8_parse_1 : decode bX8_parse 1 = .ok (.iload_n 1, 1) := by decide +kernel
theorem dX8_parse_2 : decode bX8_parse 2 = .ok (.invokestatic 81, 3) := by decide +kernel
theorem dX8_parse_5 : decode bX8_parse 5 = .ok (.ifCond .eq 7, 3) := by decide +kernel
theorem dX8_parse_8 : decode bX8_parse 8 = .ok (.iconst 0, 1) := by decide +kernel
theorem dX8_parse_9 : decode bX8_parse 9 = .ok (.goto 4, 3) := by decide +kernel
theorem dX8_parse_12 : decode bX8_parse 12 = .ok (.iconst 1, 1) := by decide +kernel
theorem dX8_parse_13 : decode bX8_parse 13 = .ok (.putfield 52, 3) := by decide +kernel
theorem dX8_parse_16 : decode bX8_parse 16 = .ok (.aload_n 0, 1) := by decide +kernel
theorem dX8_parse_17 : decode bX8_parse 17 = .ok (.getfield 52, 3) := by decide +kernel
theorem dX8_parse_20 : decode bX8_parse 20 = .ok (.iconst 1, 1) := by decide +kernel
theorem dX8_parse_21 : decode bX8_parse 21 = .ok (.if_icmp .ne 4, 3) := by decide +kernel
theorem dX8_parse_24 : decode bX8_parse 24 = .ok (.return_, 1) := by decide +kernel
theorem dX8_parse_25 : decode bX8_parse 25 = .ok (.aload_n 0, 1) := by decide +kernel
theorem dX8_parse_26 : decode bX8_parse 26 = .ok (.getfield 139, 3) := by decide +kernel
theorem dX8_parse_29 : decode bX8_parse 29 = .ok (.ifCond .le 18, 3) := by decide +kernel
theorem dX8_parse_32 : decode bX8_parse 32 = .ok (.aload_n 0, 1) := by decide +kernel
theorem dX8_parse_33 : decode bX8_parse 33 = .ok (.getfield 20, 3) := by decide +kernel
theorem dX8_parse_36 : decode bX8_parse 36 = .ok (.iconst 0, 1) := by decide +kernel
theorem dX8_parse_37 : decode bX8_parse 37 = .ok (.caload, 1) := by decide +kernel
theorem dX8_parse_38 : decode bX8_parse 38 = .ok (.bipush 45, 2) := by decide +kernel
theorem dX8_parse_40 : decode bX8_parse 40 = .ok (.if_icmp .ne 7, 3) := by decide +kernel
theorem dX8_parse_43 : decode bX8_parse 43 = .ok (.iconst 1, 1) := by decide +kernel
theorem dX8_parse_44 : decode bX8_parse 44 = .ok (.goto 4, 3) := by decide +kernel
theorem dX8_parse_47 : decode bX8_parse 47 = .ok (.iconst 0, 1) := by decide +kernel
theorem dX8_parse_48 : decode bX8_parse 48 = .ok (.istore_n 2, 1) := by decide +kernel
theorem dX8_parse_49 : decode bX8_parse 49 = .ok (.iconst 0, 1) := by decide +kernel
theorem dX8_parse_50 : decode bX8_parse 50 = .ok (.istore_n 3, 1) := by decide +kernel
theorem dX8_parse_51 : decode bX8_parse 51 = .ok (.iconst 0, 1) := by decide +kernel
theorem dX8_parse_52 : decode bX8_parse 52 = .ok (.istore 4, 2) := by decide +kernel
theorem dX8_parse_54 : decode bX8_parse 54 = .ok (.iconst 0, 1) := by decide +kernel
theorem dX8_parse_55 : decode bX8_parse 55 = .ok (.istore 5, 2) := by decide +kernel
theorem dX8_parse_57 : decode bX8_parse 57 = .ok (.iconst 1, 1) := by decide +kernel
theorem dX8_parse_58 : decode bX8_parse 58 = .ok (.istore 6, 2) := by decide +kernel
theorem dX8_parse_60 : decode bX8_parse 60 = .ok (.aload_n 0, 1) := by decide +kernel
theorem dX8_parse_61 : decode bX8_parse 61 = .ok (.getfield 30, 3) := by decide +kernel
theorem dX8_parse_64 : decode bX8_parse 64 = .ok (.invokestatic 60, 3) := by decide +kernel
theorem dX8_parse_67 : decode bX8_parse 67 = .ok (.iload_n 2, 1) := by decide +kernel
theorem dX8_parse_68 : decode bX8_parse 68 = .ok (.ifCond .eq 7, 3) := by decide +kernel
theorem dX8_parse_71 : decode bX8_parse 71 = .ok (.iconst 1, 1) := by decide +kernel
theorem dX8_parse_72 : decode bX8_parse 72 = .ok (.goto 4, 3) := by decide +kernel
theorem dX8_parse_75 : decode bX8_parse 75 = .ok (.iconst 0, 1) := by decide +kernel
theorem dX8_parse_76 : decode bX8_parse 76 = .ok (.istore 7, 2) := by decide +kernel
theorem dX8_parse_78 : decode bX8_parse 78 = .ok (.iload 7, 2) := by decide +kernel
theorem dX8_parse_80 : decode bX8_parse 80 = .ok (.aload_n 0, 1) := by decide +kernel
theorem dX8_parse_81 : decode bX8_parse 81 = .ok (.getfield 139, 3) := by decide +kernel
theorem dX8_parse_84 : decode bX8_parse 84 = .ok (.if_icmp .ge 86, 3) := by decide +kernel
theorem dX8_parse_87 : decode bX8_parse 87 = .ok (.aload_n 0, 1) := by decide +kernel
theorem dX8_parse_88 : decode bX8_parse 88 = .ok (.getfield 20, 3) := by decide +kernel
theorem dX8_parse_91 : decode bX8_parse 91 = .ok (.iload 7, 2) := by decide +kernel
theorem dX8_parse_93 : decode bX8_parse 93 = .ok (.caload, 1) := by decide +kernel
theorem dX8_parse_94 : decode bX8_parse 94 = .ok (.invokestatic 142, 3) := by decide +kernel
theorem dX8_parse_97 : decode bX8_parse 97 = .ok (.ifCond .eq 40, 3) := by decide +kernel
theorem dX8_parse_100 : decode bX8_parse 100 = .ok (.iinc 3 1, 3) := by decide +kernel
theorem dX8_parse_103 : decode bX8_parse 103 = .ok (.iload 5, 2) := by decide +kernel
theorem dX8_parse_105 : decode bX8_parse 105 = .ok (.iload 4, 2) := by decide +kernel
theorem dX8_parse_107 : decode bX8_parse 107 = .ok (.iadd, 1) := by decide +kernel
theorem dX8_parse_108 : decode bX8_parse 108 = .ok (.istore 5, 2) := by decide +kernel
theorem dX8_parse_110 : decode bX8_parse 110 = .ok (.aload_n 0, 1) := by decide +kernel
theorem dX8_parse_111 : decode bX8_parse 111 = .ok (.getfield 30, 3) := by decide +kernel
theorem dX8_parse_114 : decode bX8_parse 114 = .ok (.iconst 1, 1) := by decide +kernel
theorem dX8_parse_115 : decode bX8_parse 115 = .ok (.invokestatic 63, 3) := by decide +kernel
theorem dX8_parse_118 : decode bX8_parse 118 = .ok (.aload_n 0, 1) := by decide +kernel
theorem dX8_parse_119 : decode bX8_parse 119 = .ok (.getfield 30, 3) := by decide +kernel
theorem dX8_parse_122 : decode bX8_parse 122 = .ok (.iconst 0, 1) := by decide +kernel
theorem dX8_parse_123 : decode bX8_parse 123 = .ok (.aload_n 0, 1) := by decide +kernel
theorem dX8_parse_124 : decode bX8_parse 124 = .ok (.getfield 20, 3) := by decide +kernel
theorem dX8_parse_127 : decode bX8_parse 127 = .ok (.iload 7, 2) := by decide +kernel
theorem dX8_parse_129 : decode bX8_parse 129 = .ok (.caload, 1) := by decide +kernel
theorem dX8_parse_130 : decode bX8_parse 130 = .ok (.bipush 48, 2) := by decide +kernel
theorem dX8_parse_132 : decode bX8_parse 132 = .ok (.isub, 1) := by decide +kernel
theorem dX8_parse_133 : decode bX8_parse 133 = .ok (.iastore, 1) := by decide +kernel
theorem dX8_parse_134 : decode bX8_parse 134 = .ok (.goto 30, 3) := by decide +kernel
theorem dX8_parse_137 : decode bX8_parse 137 = .ok (.iload 6, 2) := by decide +kernel
theorem dX8_parse_139 : decode bX8_parse 139 = .ok (.ifCond .eq 19, 3) := by decide +kernel
theorem dX8_parse_142 : decode bX8_parse 142 = .ok (.aload_n 0, 1) := by decide +kernel
theorem dX8_parse_143 : decode bX8_parse 143 = .ok (.getfield 20, 3) := by decide +kernel
theorem dX8_parse_146 : decode bX8_parse 146 = .ok (.iload 7, 2) := by decide +kernel
theorem dX8_parse_148 : decode bX8_parse 148 = .ok (.caload, 1) := by decide +kernel
theorem dX8_parse_149 : decode bX8_parse 149 = .ok (.bipush 46, 2) := by decide +kernel
theorem dX8_parse_151 : decode bX8_parse 151 = .ok (.if_icmp .ne 7, 3) := by decide +kernel
theorem dX8_parse_154 : decode bX8_parse 154 = .ok (.iconst 1, 1) := by decide +kernel
theorem dX8_parse_155 : decode bX8_parse 155 = .ok (.goto 4, 3) := by decide +kernel
theorem dX8_parse_158 : decode bX8_parse 158 = .ok (.iconst 0, 1) := by decide +kernel
theorem dX8_parse_159 : decode bX8_parse 159 = .ok (.istore 6, 2) := by decide +kernel
theorem dX8_parse_161 : decode bX8_parse 161 = .ok (.iinc 4 1, 3) := by decide +kernel
theorem dX8_parse_164 : decode bX8_parse 164 = .ok (.iinc 7 1, 3) := by decide +kernel
theorem dX8_parse_167 : decode bX8_parse 167 = .ok (.goto (-89), 3) := by decide +kernel
theorem dX8_parse_170 : decode bX8_parse 170 = .ok (.iload 6, 2) := by decide +kernel
theorem dX8_parse_172 : decode bX8_parse 172 = .ok (.ifCond .eq 13, 3) := by decide +kernel
theorem dX8_parse_175 : decode bX8_parse 175 = .ok (.iload 4, 2) := by decide +kernel
theorem dX8_parse_177 : decode bX8_parse 177 = .ok (.iconst 1, 1) := by decide +kernel
theorem dX8_parse_178 : decode bX8_parse 178 = .ok (.if_icmp .gt 7, 3) := by decide +kernel
theorem dX8_parse_181 : decode bX8_parse 181 = .ok (.iload_n 3, 1) := by decide +kernel
theorem dX8_parse_182 : decode bX8_parse 182 = .ok (.ifCond .ne 9, 3) := by decide +kernel
theorem dX8_parse_185 : decode bX8_parse 185 = .ok (.aload_n 0, 1) := by decide +kernel
theorem dX8_parse_186 : decode bX8_parse 186 = .ok (.iconst 2, 1) := by decide +kernel
theorem dX8_parse_187 : decode bX8_parse 187 = .ok (.putfield 52, 3) := by decide +kernel
theorem dX8_parse_190 : decode bX8_parse 190 = .ok (.return_, 1) := by decide +kernel
theorem dX8_parse_191 : decode bX8_parse 191 = .ok (.aload_n 0, 1) := by decide +kernel
theorem dX8_parse_192 : decode bX8_parse 192 = .ok (.aload_n 0, 1) := by decide +kernel
theorem dX8_parse_193 : decode bX8_parse 193 = .ok (.getfield 33, 3) := by decide +kernel
theorem dX8_parse_196 : decode bX8_parse 196 = .ok (.iload 5, 2) := by decide +kernel
theorem dX8_parse_198 : decode bX8_parse 198 = .ok (.invokevirtual 110, 3) := by decide +kernel
theorem dX8_parse_201 : decode bX8_parse 201 = .ok (.aload_n 0, 1) := by decide +kernel
theorem dX8_parse_202 : decode bX8_parse 202 = .ok (.iload 5, 2) := by decide +kernel
theorem dX8_parse_204 : decode bX8_parse 204 = .ok (.invokevirtual 117, 3) := by decide +kernel
theorem dX8_parse_207 : decode bX8_parse 207 = .ok (.ifCond .eq 20, 3) := by decide +kernel
theorem dX8_parse_210 : decode bX8_parse 210 = .ok (.aload_n 0, 1) := by decide +kernel
theorem dX8_parse_211 : decode bX8_parse 211 = .ok (.iload_n 1, 1) := by decide +kernel
theorem dX8_parse_212 : decode bX8_parse 212 = .ok (.aload_n 0, 1) := by decide +kernel
theorem dX8_parse_213 : decode bX8_parse 213 = .ok (.getfield 39, 3) := by decide +kernel
theorem dX8_parse_216 : decode bX8_parse 216 = .ok (.aload_n 0, 1) := by decide +kernel
theorem dX8_parse_217 : decode bX8_parse 217 = .ok (.getfield 107, 3) := by decide +kernel
theorem dX8_parse_220 : decode bX8_parse 220 = .ok (.iload_n 2, 1) := by decide +kernel
theorem dX8_parse_221 : decode bX8_parse 221 = .ok (.invokevirtual 85, 3) := by decide +kernel
theorem dX8_parse_224 : decode bX8_parse 224 = .ok (.goto 8, 3) := by decide +kernel
theorem dX8_parse_227 : decode bX8_parse 227 = .ok (.aload_n 0, 1) := by decide +kernel
theorem dX8_parse_228 : decode bX8_parse 228 = .ok (.iconst 3, 1) := by decide +kernel
theorem dX8_parse_229 : decode bX8_parse 229 = .ok (.putfield 52, 3) := by decide +kernel
theorem dX8_parse_232 : decode bX8_parse 232 = .ok (.return_, 1) := by decide +kernel
abbrev bX8_show : ByteArray := prog_10_method_40_code
def yX8_show : MethodName := ⟨"WideDecimalDeskModel", "show", "(I)I"⟩
def wsX8_show : List Cond := Cond.code yX8_show bX8_show 5 (some .int) :: wsA
theorem dc_X8_show : yX8_show.cls ≠ "java/lang/invoke/MethodHandle" ∧ yX8_show.cls ≠ "java/lang/invoke/VarHandle" ∧ (parseMethodDescriptor yX8_show.desc).map (fun d => d.parameters.length) = some 1 := by decide +kernel
theorem dX8_show_0 : decode bX8_show 0 = .ok (.aload_n 0, 1) := by decide +kernel
theorem dX8_show_1 : decode bX8_show 1 = .ok (.iload_n 1, 1) := by decide +kernel
theorem dX8_show_2 : decode bX8_show 2 = .ok (.invokestatic 81, 3) := by decide +kernel
theorem dX8_show_5 : decode bX8_show 5 = .ok (.ifCond .eq 7, 3) := by decide +kernel
theorem dX8_show_8 : decode bX8_show 8 = .ok (.iconst 0, 1) := by decide +kernel
theorem dX8_show_9 : decode bX8_show 9 = .ok (.goto 4, 3) := by decide +kernel
theorem dX8_show_12 : decode bX8_show 12 = .ok (.iconst 1, 1) := by decide +kernel
theorem dX8_show_13 : decode bX8_show 13 = .ok (.putfield 52, 3) := by decide +kernel
theorem dX8_show_16 : decode bX8_show 16 = .ok (.aload_n 0, 1) := by decide +kernel
theorem dX8_show_17 : decode bX8_show 17 = .ok (.getfield 52, 3) := by decide +kernel
theorem dX8_show_20 : decode bX8_show 20 = .ok (.iconst 1, 1) := by decide +kernel
theorem dX8_show_21 : decode bX8_show 21 = .ok (.if_icmp .ne 5, 3) := by decide +kernel
theorem dX8_show_24 : decode bX8_show 24 = .ok (.iconst 0, 1) := by decide +kernel
theorem dX8_show_25 : decode bX8_show 25 = .ok (.ireturn, 1) := by decide +kernel
theorem dX8_show_26 : decode bX8_show 26 = .ok (.aload_n 0, 1) := by decide +kernel
theorem dX8_show_27 : decode bX8_show 27 = .ok (.iconst 0, 1) := by decide +kernel
theorem dX8_show_28 : decode bX8_show 28 = .ok (.putfield 146, 3) := by decide +kernel
theorem dX8_show_31 : decode bX8_show 31 = .ok (.aload_n 0, 1) := by decide +kernel
theorem dX8_show_32 : decode bX8_show 32 = .ok (.getfield 16, 3) := by decide +kernel
theorem dX8_show_35 : decode bX8_show 35 = .ok (.iload_n 1, 1) := by decide +kernel
theorem dX8_show_36 : decode bX8_show 36 = .ok (.baload, 1) := by decide +kernel
theorem dX8_show_37 : decode bX8_show 37 = .ok (.ifCond .eq 9, 3) := by decide +kernel
theorem dX8_show_40 : decode bX8_show 40 = .ok (.aload_n 0, 1) := by decide +kernel
theorem dX8_show_41 : decode bX8_show 41 = .ok (.bipush 45, 2) := by decide +kernel
theorem dX8_show_43 : decode bX8_show 43 = .ok (.invokevirtual 149, 3) := by decide +kernel
theorem dX8_show_46 : decode bX8_show 46 = .ok (.aload_n 0, 1) := by decide +kernel
theorem dX8_show_47 : decode bX8_show 47 = .ok (.iload_n 1, 1) := by decide +kernel
theorem dX8_show_48 : decode bX8_show 48 = .ok (.aload_n 0, 1) := by decide +kernel
theorem dX8_show_49 : decode bX8_show 49 = .ok (.getfield 30, 3) := by decide +kernel
theorem dX8_show_52 : decode bX8_show 52 = .ok (.invokevirtual 89, 3) := by decide +kernel
theorem dX8_show_55 : decode bX8_show 55 = .ok (.aload_n 0, 1) := by decide +kernel
theorem dX8_show_56 : decode bX8_show 56 = .ok (.getfield 13, 3) := by decide +kernel
theorem dX8_show_59 : decode bX8_show 59 = .ok (.iload_n 1, 1) := by decide +kernel
theorem dX8_show_60 : decode bX8_show 60 = .ok (.iaload, 1) := by decide +kernel
theorem dX8_show_61 : decode bX8_show 61 = .ok (.istore_n 2, 1) := by decide +kernel
theorem dX8_show_62 : decode bX8_show 62 = .ok (.bipush 29, 2) := by decide +kernel
theorem dX8_show_64 : decode bX8_show 64 = .ok (.istore_n 3, 1) := by decide +kernel
theorem dX8_show_65 : decode bX8_show 65 = .ok (.iload_n 3, 1) := by decide +kernel
theorem dX8_show_66 : decode bX8_show 66 = .ok (.iload_n 2, 1) := by decide +kernel
theorem dX8_show_67 : decode bX8_show 67 = .ok (.if_icmp .le 18, 3) := by decide +kernel
theorem dX8_show_70 : decode bX8_show 70 = .ok (.aload_n 0, 1) := by decide +kernel
theorem dX8_show_71 : decode bX8_show 71 = .ok (.getfield 30, 3) := by decide +kernel
theorem dX8_show_74 : decode bX8_show 74 = .ok (.iload_n 3, 1) := by decide +kernel
theorem dX8_show_75 : decode bX8_show 75 = .ok (.iaload, 1) := by decide +kernel
theorem dX8_show_76 : decode bX8_show 76 = .ok (.ifCond .ne 9, 3) := by decide +kernel
theorem dX8_show_79 : decode bX8_show 79 = .ok (.iinc 3 (-1), 3) := by decide +kernel
theorem dX8_show_82 : decode bX8_show 82 = .ok (.goto (-17), 3) := by decide +kernel
theorem dX8_show_85 : decode bX8_show 85 = .ok (.iload_n 3, 1) := by decide +kernel
theorem dX8_show_86 : decode bX8_show 86 = .ok (.istore 4, 2) := by decide +kernel
theorem dX8_show_88 : decode bX8_show 88 = .ok (.iload 4, 2) := by decide +kernel
theorem dX8_show_90 : decode bX8_show 90 = .ok (.ifCond .lt 38, 3) := by decide +kernel
theorem dX8_show_93 : decode bX8_show 93 = .ok (.iload 4, 2) := by decide +kernel
theorem dX8_show_95 : decode bX8_show 95 = .ok (.iload_n 2, 1) := by decide +kernel
theorem dX8_show_96 : decode bX8_show 96 = .ok (.iconst 1, 1) := by decide +kernel
theorem dX8_show_97 : decode bX8_show 97 = .ok (.isub, 1) := by decide +kernel
theorem dX8_show_98 : decode bX8_show 98 = .ok (.if_icmp .ne 9, 3) := by decide +kernel
theorem dX8_show_101 : decode bX8_show 101 = .ok (.aload_n 0, 1) := by decide +kernel
theorem dX8_show_102 : decode bX8_show 102 = .ok (.bipush 46, 2) := by decide +kernel
theorem dX8_show_104 : decode bX8_show 104 = .ok (.invokevirtual 149, 3) := by decide +kernel
theorem dX8_show_107 : decode bX8_show 107 = .ok (.aload_n 0, 1) := by decide +kernel
theorem dX8_show_108 : decode bX8_show 108 = .ok (.bipush 48, 2) := by decide +kernel
theorem dX8_show_110 : decode bX8_show 110 = .ok (.aload_n 0, 1) := by decide +kernel
theorem dX8_show_111 : decode bX8_show 111 = .ok (.getfield 30, 3) := by decide +kernel
theorem dX8_show_114 : decode bX8_show 114 = .ok (.iload 4, 2) := by decide +kernel
theorem dX8_show_116 : decode bX8_show 116 = .ok (.iaload, 1) := by decide +kernel
theorem dX8_show_117 : decode bX8_show 117 = .ok (.iadd, 1) := by decide +kernel
theorem dX8_show_118 : decode bX8_show 118 = .ok (.i2c, 1) := by decide +kernel
theorem dX8_show_119 : decode bX8_show 119 = .ok (.invokevirtual 149, 3) := by decide +kernel
theorem dX8_show_122 : decode bX8_show 122 = .ok (.iinc 4 (-1), 3) := by decide +kernel
theorem dX8_show_125 : decode bX8_show 125 = .ok (.goto (-37), 3) := by decide +kernel
theorem dX8_show_128 : decode bX8_show 128 = .ok (.aload_n 0, 1) := by decide +kernel
theorem dX8_show_129 : decode bX8_show 129 = .ok (.getfield 146, 3) := by decide +kernel
theorem dX8_show_132 : decode bX8_show 132 = .ok (.ireturn, 1) := by decide +kernel
abbrev bX8_pattern : ByteArray := prog_10_method_42_code
def yX8_pattern : MethodName := ⟨"WideDecimalDeskModel", "pattern", "()Z"⟩
def wsX8_pattern : List Cond := Cond.code yX8_pattern bX8_pattern 5 (some .boolean) :: wsA
theorem dc_X8_pattern : yX8_pattern.cls ≠ "java/lang/invoke/MethodHandle" ∧ yX8_pattern.cls ≠ "java/lang/invoke/VarHandle" ∧ (parseMethodDescriptor yX8_pattern.desc).map (fun d => d.parameters.length) = some 0 := by decide +kernel
theorem dX8_pattern_0 : decode bX8_pattern 0 = .ok (.iconst 0, 1) := by decide +kernel
theorem dX8_pattern_1 : decode bX8_pattern 1 = .ok (.istore_n 1, 1) := by decide +kernel
theorem dX8_pattern_2 : decode bX8_pattern 2 = .ok (.iload_n 1, 1) := by decide +kernel
theorem dX8_pattern_3 : decode bX8_pattern 3 = .ok (.aload_n 0, 1) := by decide +kernel
theorem dX8_pattern_4 : decode bX8_pattern 4 = .ok (.getfield 139, 3) := by decide +kernel
theorem dX8_pattern_7 : decode bX8_pattern 7 = .ok (.if_icmp .ge 32, 3) := by decide +kernel
theorem dX8_pattern_10 : decode bX8_pattern 10 = .ok (.aload_n 0, 1) := by decide +kernel
theorem dX8_pattern_11 : decode bX8_pattern 11 = .ok (.getfield 20, 3) := by decide +kernel
theorem dX8_pattern_14 : decode bX8_pattern 14 = .ok (.iload_n 1, 1) := by decide +kernel
theorem dX8_pattern_15 : decode bX8_pattern 15 = .ok (.caload, 1) := by decide +kernel
theorem dX8_pattern_16 : decode bX8_pattern 16 = .ok (.invokestatic 153, 3) := by decide +kernel
theorem dX8_pattern_19 : decode bX8_pattern 19 = .ok (.ifCond .ne 14, 3) := by decide +kernel
theorem dX8_pattern_22 : decode bX8_pattern 22 = .ok (.aload_n 0, 1) := by decide +kernel
theorem dX8_pattern_23 : decode bX8_pattern 23 = .ok (.getfield 20, 3) := by decide +kernel
theorem dX8_pattern_26 : decode bX8_pattern 26 = .ok (.iload_n 1, 1) := by decide +kernel
theorem dX8_pattern_27 : decode bX8_pattern 27 = .ok (.caload, 1) := by decide +kernel
theorem dX8_pattern_28 : decode bX8_pattern 28 = .ok (.bipush 44, 2) := by decide +kernel
theorem dX8_pattern_30 : decode bX8_pattern 30 = .ok (.if_icmp .ne 9, 3) := by decide +kernel
theorem dX8_pattern_33 : decode bX8_pattern 33 = .ok (.iinc 1 1, 3) := by decide +kernel
theorem dX8_pattern_36 : decode bX8_pattern 36 = .ok (.goto (-34), 3) := by decide +kernel
theorem dX8_pattern_39 : decode bX8_pattern 39 = .ok (.iload_n 1, 1) := by decide +kernel
theorem dX8_pattern_40 : decode bX8_pattern 40 = .ok (.aload_n 0, 1) := by decide +kernel
theorem dX8_pattern_41 : decode bX8_pattern 41 = .ok (.getfield 139, 3) := by decide +kernel
theorem dX8_pattern_44 : decode bX8_pattern 44 = .ok (.if_icmp .ge 20, 3) := by decide +kernel
theorem dX8_pattern_47 : decode bX8_pattern 47 = .ok (.aload_n 0, 1) := by decide +kernel
theorem dX8_pattern_48 : decode bX8_pattern 48 = .ok (.getfield 20, 3) := by decide +kernel
theorem dX8_pattern_51 : decode bX8_pattern 51 = .ok (.iload_n 1, 1) := by decide +kernel
theorem dX8_pattern_52 : decode bX8_pattern 52 = .ok (.caload, 1) := by decide +kernel
theorem dX8_pattern_53 : decode bX8_pattern 53 = .ok (.bipush 46, 2) := by decide +kernel
theorem dX8_pattern_55 : decode bX8_pattern 55 = .ok (.if_icmp .ne 9, 3) := by decide +kernel
theorem dX8_pattern_58 : decode bX8_pattern 58 = .ok (.iload_n 1, 1) := by decide +kernel
theorem dX8_pattern_59 : decode bX8_pattern 59 = .ok (.iconst 1, 1) := by decide +kernel
theorem dX8_pattern_60 : decode bX8_pattern 60 = .ok (.iadd, 1) := by decide +kernel
theorem dX8_pattern_61 : decode bX8_pattern 61 = .ok (.goto 4, 3) := by decide +kernel
theorem dX8_pattern_64 : decode bX8_pattern 64 = .ok (.iload_n 1, 1) := by decide +kernel
theorem dX8_pattern_65 : decode bX8_pattern 65 = .ok (.istore_n 2, 1) := by decide +kernel
theorem dX8_pattern_66 : decode bX8_pattern 66 = .ok (.iload_n 2, 1) := by decide +kernel
theorem dX8_pattern_67 : decode bX8_pattern 67 = .ok (.istore_n 3, 1) := by decide +kernel
theorem dX8_pattern_68 : decode bX8_pattern 68 = .ok (.iload_n 2, 1) := by decide +kernel
theorem dX8_pattern_69 : decode bX8_pattern 69 = .ok (.aload_n 0, 1) := by decide +kernel
theorem dX8_pattern_70 : decode bX8_pattern 70 = .ok (.getfield 139, 3) := by decide +kernel
theorem dX8_pattern_73 : decode bX8_pattern 73 = .ok (.if_icmp .ge 21, 3) := by decide +kernel
theorem dX8_pattern_76 : decode bX8_pattern 76 = .ok (.aload_n 0, 1) := by decide +kernel
theorem dX8_pattern_77 : decode bX8_pattern 77 = .ok (.getfield 20, 3) := by decide +kernel
theorem dX8_pattern_80 : decode bX8_pattern 80 = .ok (.iload_n 2, 1) := by decide +kernel
theorem dX8_pattern_81 : decode bX8_pattern 81 = .ok (.caload, 1) := by decide +kernel
theorem dX8_pattern_82 : decode bX8_pattern 82 = .ok (.invokestatic 153, 3) := by decide +kernel
theorem dX8_pattern_85 : decode bX8_pattern 85 = .ok (.ifCond .eq 9, 3) := by decide +kernel
theorem dX8_pattern_88 : decode bX8_pattern 88 = .ok (.iinc 2 1, 3) := by decide +kernel
theorem dX8_pattern_91 : decode bX8_pattern 91 = .ok (.goto (-23), 3) := by decide +kernel
theorem dX8_pattern_94 : decode bX8_pattern 94 = .ok (.aload_n 0, 1) := by decide +kernel
theorem dX8_pattern_95 : decode bX8_pattern 95 = .ok (.aload_n 0, 1) := by decide +kernel
theorem dX8_pattern_96 : decode bX8_pattern 96 = .ok (.iload_n 1, 1) := by decide +kernel
theorem dX8_pattern_97 : decode bX8_pattern 97 = .ok (.invokevirtual 156, 3) := by decide +kernel
theorem dX8_pattern_100 : decode bX8_pattern 100 = .ok (.bipush 46, 2) := by decide +kernel
theorem dX8_pattern_102 : decode bX8_pattern 102 = .ok (.if_icmp .ne 9, 3) := by decide +kernel
theorem dX8_pattern_105 : decode bX8_pattern 105 = .ok (.iload_n 2, 1) := by decide +kernel
theorem dX8_pattern_106 : decode bX8_pattern 106 = .ok (.iload_n 3, 1) := by decide +kernel
theorem dX8_pattern_107 : decode bX8_pattern 107 = .ok (.isub, 1) := by decide +kernel
theorem dX8_pattern_108 : decode bX8_pattern 108 = .ok (.goto 4, 3) := by decide +kernel
theorem dX8_pattern_111 : decode bX8_pattern 111 = .ok (.iconst 0, 1) := by decide +kernel
theorem dX8_pattern_112 : decode bX8_pattern 112 = .ok (.putfield 159, 3) := by decide +kernel
theorem dX8_pattern_115 : decode bX8_pattern 115 = .ok (.aload_n 0, 1) := by decide +kernel
theorem dX8_pattern_116 : decode bX8_pattern 116 = .ok (.aload_n 0, 1) := by decide +kernel
theorem dX8_pattern_117 : decode bX8_pattern 117 = .ok (.iload_n 2, 1) := by decide +kernel
theorem dX8_pattern_118 : decode bX8_pattern 118 = .ok (.invokevirtual 156, 3) := by decide +kernel
theorem dX8_pattern_121 : decode bX8_pattern 121 = .ok (.bipush 37, 2) := by decide +kernel
theorem dX8_pattern_123 : decode bX8_pattern 123 = .ok (.if_icmp .ne 7, 3) := by decide +kernel
theorem dX8_pattern_126 : decode bX8_pattern 126 = .ok (.iconst 1, 1) := by decide +kernel
theorem dX8_pattern_127 : decode bX8_pattern 127 = .ok (.goto 4, 3) := by decide +kernel
theorem dX8_pattern_130 : decode bX8_pattern 130 = .ok (.iconst 0, 1) := by decide +kernel
theorem dX8_pattern_131 : decode bX8_pattern 131 = .ok (.putfield 162, 3) := by decide +kernel
theorem dX8_pattern_134 : decode bX8_pattern 134 = .ok (.aload_n 0, 1) := by decide +kernel
theorem dX8_pattern_135 : decode bX8_pattern 135 = .ok (.iconst 0, 1) := by decide +kernel
theorem dX8_pattern_136 : decode bX8_pattern 136 = .ok (.putfield 166, 3) := by decide +kernel
theorem dX8_pattern_139 : decode bX8_pattern 139 = .ok (.iconst 0, 1) := by decide +kernel
theorem dX8_pattern_140 : decode bX8_pattern 140 = .ok (.istore 4, 2) := by decide +kernel
theorem dX8_pattern_142 : decode bX8_pattern 142 = .ok (.iload 4, 2) := by decide +kernel
theorem dX8_pattern_144 : decode bX8_pattern 144 = .ok (.aload_n 0, 1) := by decide +kernel
theorem dX8_pattern_145 : decode bX8_pattern 145 = .ok (.getfield 159, 3) := by decide +kernel
theorem dX8_pattern_148 : decode bX8_pattern 148 = .ok (.if_icmp .ge 38, 3) := by decide +kernel
theorem dX8_pattern_151 : decode bX8_pattern 151 = .ok (.aload_n 0, 1) := by decide +kernel
theorem dX8_pattern_152 : decode bX8_pattern 152 = .ok (.aload_n 0, 1) := by decide +kernel
theorem dX8_pattern_153 : decode bX8_pattern 153 = .ok (.getfield 20, 3) := by decide +kernel
theorem dX8_pattern_156 : decode bX8_pattern 156 = .ok (.iload_n 3, 1) := by decide +kernel
theorem dX8_pattern_157 : decode bX8_pattern 157 = .ok (.iload 4, 2) := by decide +kernel
theorem dX8_pattern_159 : decode bX8_pattern 159 = .ok (.iadd, 1) := by decide +kernel
theorem dX8_pattern_160 : decode bX8_pattern 160 = .ok (.caload, 1) := by decide +kernel
theorem dX8_pattern_161 : decode bX8_pattern 161 = .ok (.bipush 48, 2) := by decide +kernel
theorem dX8_pattern_163 : decode bX8_pattern 163 = .ok (.if_icmp .ne 10, 3) := by decide +kernel
theorem dX8_pattern_166 : decode bX8_pattern 166 = .ok (.iload 4, 2) := by decide +kernel
theorem dX8_pattern_168 : decode bX8_pattern 168 = .ok (.iconst 1, 1) := by decide +kernel
theorem dX8_pattern_169 : decode bX8_pattern 169 = .ok (.iadd, 1) := by decide +kernel
theorem dX8_pattern_170 : decode bX8_pattern 170 = .ok (.goto 7, 3) := by decide +kernel
theorem dX8_pattern_173 : decode bX8_pattern 173 = .ok (.aload_n 0, 1) := by decide +kernel
theorem dX8_pattern_174 : decode bX8_pattern 174 = .ok (.getfield 166, 3) := by decide +kernel
theorem dX8_pattern_177 : decode bX8_pattern 177 = .ok (.putfield 166, 3) := by decide +kernel
theorem dX8_pattern_180 : decode bX8_pattern 180 = .ok (.iinc 4 1, 3) := by decide +kernel
theorem dX8_pattern_183 : decode bX8_pattern 183 = .ok (.goto (-41), 3) := by decide +kernel
theorem dX8_pattern_186 : decode bX8_pattern 186 = .ok (.aload_n 0, 1) := by decide +kernel
theorem dX8_pattern_187 : decode bX8_pattern 187 = .ok (.iload_n 1, 1) := by decide +kernel
theorem dX8_pattern_188 : decode bX8_pattern 188 = .ok (.invokevirtual 169, 3) := by decide +kernel
theorem dX8_pattern_191 : decode bX8_pattern 191 = .ok (.aload_n 0, 1) := by decide +kernel
theorem dX8_pattern_192 : decode bX8_pattern 192 = .ok (.getfield 162, 3) := by decide +kernel
theorem dX8_pattern_195 : decode bX8_pattern 195 = .ok (.ifCond .eq 9, 3) := by decide +kernel
theorem dX8_pattern_198 : decode bX8_pattern 198 = .ok (.iload_n 2, 1) := by decide +kernel
theorem dX8_pattern_199 : decode bX8_pattern 199 = .ok (.iconst 1, 1) := by decide +kernel
theorem dX8_pattern_200 : decode bX8_pattern 200 = .ok (.iadd, 1) := by decide +kernel
theorem dX8_pattern_201 : decode bX8_pattern 201 = .ok (.goto 4, 3) := by decide +kernel
theorem dX8_pattern_204 : decode bX8_pattern 204 = .ok (.iload_n 2, 1) := by decide +kernel
theorem dX8_pattern_205 : decode bX8_pattern 205 = .ok (.istore 4, 2) := by decide +kernel
theorem dX8_pattern_207 : decode bX8_pattern 207 = .ok (.iload 4, 2) := by decide +kernel
theorem dX8_pattern_209 : decode bX8_pattern 209 = .ok (.aload_n 0, 1) := by decide +kernel
theorem dX8_pattern_210 : decode bX8_pattern 210 = .ok (.getfield 139, 3) := by decide +kernel
theorem dX8_pattern_213 : decode bX8_pattern 213 = .ok (.if_icmp .ne 20, 3) := by decide +kernel
theorem dX8_pattern_216 : decode bX8_pattern 216 = .ok (.aload_n 0, 1) := by decide +kernel
theorem dX8_pattern_217 : decode bX8_pattern 217 = .ok (.iload_n 1, 1) := by decide +kernel
theorem dX8_pattern_218 : decode bX8_pattern 218 = .ok (.invokevirtual 173, 3) := by decide +kernel
theorem dX8_pattern_221 : decode bX8_pattern 221 = .ok (.aload_n 0, 1) := by decide +kernel
theorem dX8_pattern_222 : decode bX8_pattern 222 = .ok (.getfield 159, 3) := by decide +kernel
theorem dX8_pattern_225 : decode bX8_pattern 225 = .ok (.iadd, 1) := by decide +kernel
theorem dX8_pattern_226 : decode bX8_pattern 226 = .ok (.ifCond .le 7, 3) := by decide +kernel
theorem dX8_pattern_229 : decode bX8_pattern 229 = .ok (.iconst 1, 1) := by decide +kernel
theorem dX8_pattern_230 : decode bX8_pattern 230 = .ok (.goto 4, 3) := by decide +kernel
theorem dX8_pattern_233 : decode bX8_pattern 233 = .ok (.iconst 0, 1) := by decide +kernel
theorem dX8_pattern_234 : decode bX8_pattern 234 = .ok (.ireturn, 1) := by decide +kernel
abbrev bX8_front : ByteArray := prog_10_method_45_code
def yX8_front : MethodName := ⟨"WideDecimalDeskModel", "front", "(I)V"⟩
def wsX8_front : List Cond := Cond.code yX8_front bX8_front 6 none :: wsA
theorem dc_X8_front : yX8_front.cls ≠ "java/lang/invoke/MethodHandle" ∧ yX8_front.cls ≠ "java/lang/invoke/VarHandle" ∧ (parseMethodDescriptor yX8_front.desc).map (fun d => d.parameters.length) = some 1 := by decide +kernel
theorem dX8_front_0 : decode bX8_front 0 = .ok (.aload_n 0, 1) := by decide +kernel
theorem dX8_front_1 : decode bX8_front 1 = .ok (.iconst 0, 1) := by decide +kernel
theorem dX8_front_2 : decode bX8_front 2 = .ok (.putfield 177, 3) := by decide +kernel
theorem dX8_front_5 : decode bX8_front 5 = .ok (.aload_n 0, 1) := by decide +kernel
theorem dX8_front_6 : decode bX8_front 6 = .ok (.iconst 0, 1) := by decide +kernel
theorem dX8_front_7 : decode bX8_front 7 = .ok (.putfield 180, 3) := by decide +kernel
theorem dX8_front_10 : decode bX8_front 10 = .ok (.iconst 0, 1) := by decide +kernel
theorem dX8_front_11 : decode bX8_front 11 = .ok (.istore_n 2, 1) := by decide +kernel
theorem dX8_front_12 : decode bX8_front 12 = .ok (.aload_n 0, 1) := by decide +kernel
theorem dX8_front_13 : decode bX8_front 13 = .ok (.iload_n 1, 1) := by decide +kernel
theorem dX8_front_14 : decode bX8_front 14 = .ok (.invokevirtual 173, 3) := by decide +kernel
theorem dX8_front_17 : decode bX8_front 17 = .ok (.istore_n 3, 1) := by decide +kernel
theorem dX8_front_18 : decode bX8_front 18 = .ok (.iconst 0, 1) := by decide +kernel
theorem dX8_front_19 : decode bX8_front 19 = .ok (.istore 4, 2) := by decide +kernel
theorem dX8_front_21 : decode bX8_front 21 = .ok (.iload 4, 2) := by decide +kernel
theorem dX8_front_23 : decode bX8_front 23 = .ok (.iload_n 1, 1) := by decide +kernel
theorem dX8_front_24 : decode bX8_front 24 = .ok (.if_icmp .ge 109, 3) := by decide +kernel
theorem dX8_front_27 : decode bX8_front 27 = .ok (.iload_n 2, 1) := by decide +kernel
theorem dX8_front_28 : decode bX8_front 28 = .ok (.ifCond .ne 15, 3) := by decide +kernel
theorem dX8_front_31 : decode bX8_front 31 = .ok (.aload_n 0, 1) := by decide +kernel
theorem dX8_front_32 : decode bX8_front 32 = .ok (.getfield 20, 3) := by decide +kernel
theorem dX8_front_35 : decode bX8_front 35 = .ok (.iload 4, 2) := by decide +kernel
theorem dX8_front_37 : decode bX8_front 37 = .ok (.caload, 1) := by decide +kernel
theorem dX8_front_38 : decode bX8_front 38 = .ok (.bipush 48, 2) := by decide +kernel
theorem dX8_front_40 : decode bX8_front 40 = .ok (.if_icmp .ne 7, 3) := by decide +kernel
theorem dX8_front_43 : decode bX8_front 43 = .ok (.iconst 1, 1) := by decide +kernel
theorem dX8_front_44 : decode bX8_front 44 = .ok (.goto 4, 3) := by decide +kernel
theorem dX8_front_47 : decode bX8_front 47 = .ok (.iconst 0, 1) := by decide +kernel
theorem dX8_front_48 : decode bX8_front 48 = .ok (.istore_n 2, 1) := by decide +kernel
theorem dX8_front_49 : decode bX8_front 49 = .ok (.aload_n 0, 1) := by decide +kernel
theorem dX8_front_50 : decode bX8_front 50 = .ok (.aload_n 0, 1) := by decide +kernel
theorem dX8_front_51 : decode bX8_front 51 = .ok (.getfield 177, 3) := by decide +kernel
theorem dX8_front_54 : decode bX8_front 54 = .ok (.iload_n 2, 1) := by decide +kernel
theorem dX8_front_55 : decode bX8_front 55 = .ok (.ifCond .eq 20, 3) := by decide +kernel
theorem dX8_front_58 : decode bX8_front 58 = .ok (.aload_n 0, 1) := by decide +kernel
theorem dX8_front_59 : decode bX8_front 59 = .ok (.getfield 20, 3) := by decide +kernel
theorem dX8_front_62 : decode bX8_front 62 = .ok (.iload 4, 2) := by decide +kernel
theorem dX8_front_64 : decode bX8_front 64 = .ok (.caload, 1) := by decide +kernel
theorem dX8_front_65 : decode bX8_front 65 = .ok (.invokestatic 153, 3) := by decide +kernel
theorem dX8_front_68 : decode bX8_front 68 = .ok (.ifCond .eq 7, 3) := by decide +kernel
theorem dX8_front_71 : decode bX8_front 71 = .ok (.iconst 1, 1) := by decide +kernel
theorem dX8_front_72 : decode bX8_front 72 = .ok (.goto 4, 3) := by decide +kernel
theorem dX8_front_75 : decode bX8_front 75 = .ok (.iconst 0, 1) := by decide +kernel
theorem dX8_front_76 : decode bX8_front 76 = .ok (.iadd, 1) := by decide +kernel
theorem dX8_front_77 : decode bX8_front 77 = .ok (.putfield 177, 3) := by decide +kernel
theorem dX8_front_80 : decode bX8_front 80 = .ok (.aload_n 0, 1) := by decide +kernel
theorem dX8_front_81 : decode bX8_front 81 = .ok (.iload 4, 2) := by decide +kernel
theorem dX8_front_83 : decode bX8_front 83 = .ok (.invokevirtual 173, 3) := by decide +kernel
theorem dX8_front_86 : decode bX8_front 86 = .ok (.istore 5, 2) := by decide +kernel
theorem dX8_front_88 : decode bX8_front 88 = .ok (.aload_n 0, 1) := by decide +kernel
theorem dX8_front_89 : decode bX8_front 89 = .ok (.aload_n 0, 1) := by decide +kernel
theorem dX8_front_90 : decode bX8_front 90 = .ok (.getfield 180, 3) := by decide +kernel
theorem dX8_front_93 : decode bX8_front 93 = .ok (.ifCond .ne 26, 3) := by decide +kernel
theorem dX8_front_96 : decode bX8_front 96 = .ok (.aload_n 0, 1) := by decide +kernel
theorem dX8_front_97 : decode bX8_front 97 = .ok (.getfield 20, 3) := by decide +kernel
theorem dX8_front_100 : decode bX8_front 100 = .ok (.iload 4, 2) := by decide +kernel
theorem dX8_front_102 : decode bX8_front 102 = .ok (.caload, 1) := by decide +kernel
theorem dX8_front_103 : decode bX8_front 103 = .ok (.bipush 44, 2) := by decide +kernel
theorem dX8_front_105 : decode bX8_front 105 = .ok (.if_icmp .ne 18, 3) := by decide +kernel
theorem dX8_front_108 : decode bX8_front 108 = .ok (.iload 5, 2) := by decide +kernel
theorem dX8_front_110 : decode bX8_front 110 = .ok (.ifCond .le 13, 3) := by decide +kernel
theorem dX8_front_113 : decode bX8_front 113 = .ok (.iload 5, 2) := by decide +kernel
theorem dX8_front_115 : decode bX8_front 115 = .ok (.iload_n 3, 1) := by decide +kernel
theorem dX8_front_116 : decode bX8_front 116 = .ok (.if_icmp .ge 7, 3) := by decide +kernel
theorem dX8_front_119 : decode bX8_front 119 = .ok (.iconst 1, 1) := by decide +kernel
theorem dX8_front_120 : decode bX8_front 120 = .ok (.goto 4, 3) := by decide +kernel
theorem dX8_front_123 : decode bX8_front 123 = .ok (.iconst 0, 1) := by decide +kernel
theorem dX8_front_124 : decode bX8_front 124 = .ok (.putfield 180, 3) := by decide +kernel
theorem dX8_front_127 : decode bX8_front 127 = .ok (.iinc 4 1, 3) := by decide +kernel
theorem dX8_front_130 : decode bX8_front 130 = .ok (.goto (-109), 3) := by decide +kernel
theorem dX8_front_133 : decode bX8_front 133 = .ok (.return_, 1) := by decide +kernel
abbrev bX8_format : ByteArray := prog_10_method_46_code
def yX8_format : MethodName := ⟨"WideDecimalDeskModel", "format", "(I)I"⟩
def wsX8_format : List Cond := Cond.code yX8_format bX8_format 7 (some .int) :: wsA
theorem dc_X8_format : yX8_format.cls ≠ "java/lang/invoke/MethodHandle" ∧ yX8_format.cls ≠ "java/lang/invoke/VarHandle" ∧ (parseMethodDescriptor yX8_format.desc).map (fun d => d.parameters.length) = some 1 := by decide +kernel
theorem dX8_format_0 : decode bX8_format 0 = .ok (.aload_n 0, 1) := by decide +kernel
theorem dX8_format_1 : decode bX8_format 1 = .ok (.iload_n 1, 1) := by decide +kernel
theorem dX8_format_2 : decode bX8_format 2 = .ok (.invokestatic 81, 3) := by decide +kernel
theorem dX8_format_5 : decode bX8_format 5 = .ok (.ifCond .eq 18, 3) := by decide +kernel
theorem dX8_format_8 : decode bX8_format 8 = .ok (.aload_n 0, 1) := by decide +kernel
theorem dX8_format_9 : decode bX8_format 9 = .ok (.invokevirtual 183, 3) := by decide +kernel
theorem dX8_format_12 : decode bX8_format 12 = .ok (.ifCond .eq 7, 3) := by decide +kernel
theorem dX8_format_15 : decode bX8_format 15 = .ok (.iconst 0, 1) := by decide +kernel
theorem dX8_format_16 : decode bX8_format 16 = .ok (.goto 8, 3) := by decide +kernel
theorem dX8_format_19 : decode bX8_format 19 = .ok (.iconst 2, 1) := by decide +kernel
theorem dX8_format_20 : decode bX8_format 20 = .ok (.goto 4, 3) := by decide +kernel
theorem dX8_format_23 : decode bX8_format 23 = .ok (.iconst 1, 1) := by decide +kernel
theorem dX8_format_24 : decode bX8_format 24 = .ok (.putfield 52, 3) := by decide +kernel
theorem dX8_format_27 : decode bX8_format 27 = .ok (.aload_n 0, 1) := by decide +kernel
theorem dX8_format_28 : decode bX8_format 28 = .ok (.getfield 52, 3) := by decide +kernel
theorem dX8_format_31 : decode bX8_format 31 = .ok (.ifCond .eq 5, 3) := by decide +kernel
theorem dX8_format_34 : decode bX8_format 34 = .ok (.iconst 0, 1) := by decide +kernel
theorem dX8_format_35 : decode bX8_format 35 = .ok (.ireturn, 1) := by decide +kernel
theorem dX8_format_36 : decode bX8_format 36 = .ok (.aload_n 0, 1) := by decide +kernel
theorem dX8_format_37 : decode bX8_format 37 = .ok (.iload_n 1, 1) := by decide +kernel
theorem dX8_format_38 : decode bX8_format 38 = .ok (.aload_n 0, 1) := by decide +kernel
theorem dX8_format_39 : decode bX8_format 39 = .ok (.getfield 36, 3) := by decide +kernel
theorem dX8_format_42 : decode bX8_format 42 = .ok (.invokevirtual 89, 3) := by decide +kernel
theorem dX8_format_45 : decode bX8_format 45 = .ok (.aload_n 0, 1) := by decide +kernel
theorem dX8_format_46 : decode bX8_format 46 = .ok (.getfield 36, 3) := by decide +kernel
theorem dX8_format_49 : decode bX8_format 49 = .ok (.aload_n 0, 1) := by decide +kernel
theorem dX8_format_50 : decode bX8_format 50 = .ok (.getfield 162, 3) := by decide +kernel
theorem dX8_format_53 : decode bX8_format 53 = .ok (.ifCond .eq 7, 3) := by decide +kernel
theorem dX8_format_56 : decode bX8_format 56 = .ok (.iconst 2, 1) := by decide +kernel
theorem dX8_format_57 : decode bX8_format 57 = .ok (.goto 4, 3) := by decide +kernel
theorem dX8_format_60 : decode bX8_format 60 = .ok (.iconst 0, 1) := by decide +kernel
theorem dX8_format_61 : decode bX8_format 61 = .ok (.invokestatic 63, 3) := by decide +kernel
theorem dX8_format_64 : decode bX8_format 64 = .ok (.aload_n 0, 1) := by decide +kernel
theorem dX8_format_65 : decode bX8_format 65 = .ok (.getfield 13, 3) := by decide +kernel
theorem dX8_format_68 : decode bX8_format 68 = .ok (.iload_n 1, 1) := by decide +kernel
theorem dX8_format_69 : decode bX8_format 69 = .ok (.iaload, 1) := by decide +kernel
theorem dX8_format_70 : decode bX8_format 70 = .ok (.istore_n 2, 1) := by decide +kernel
theorem dX8_format_71 : decode bX8_format 71 = .ok (.aload_n 0, 1) := by decide +kernel
theorem dX8_format_72 : decode bX8_format 72 = .ok (.getfield 36, 3) := by decide +kernel
theorem dX8_format_75 : decode bX8_format 75 = .ok (.aload_n 0, 1) := by decide +kernel
theorem dX8_format_76 : decode bX8_format 76 = .ok (.getfield 159, 3) := by decide +kernel
theorem dX8_format_79 : decode bX8_format 79 = .ok (.invokestatic 63, 3) := by decide +kernel
theorem dX8_format_82 : decode bX8_format 82 = .ok (.aload_n 0, 1) := by decide +kernel
theorem dX8_format_83 : decode bX8_format 83 = .ok (.aload_n 0, 1) := by decide +kernel
theorem dX8_format_84 : decode bX8_format 84 = .ok (.getfield 33, 3) := by decide +kernel
theorem dX8_format_87 : decode bX8_format 87 = .ok (.iload_n 2, 1) := by decide +kernel
theorem dX8_format_88 : decode bX8_format 88 = .ok (.invokevirtual 110, 3) := by decide +kernel
theorem dX8_format_91 : decode bX8_format 91 = .ok (.aload_n 0, 1) := by decide +kernel
theorem dX8_format_92 : decode bX8_format 92 = .ok (.invokevirtual 97, 3) := by decide +kernel
theorem dX8_format_95 : decode bX8_format 95 = .ok (.aload_n 0, 1) := by decide +kernel
theorem dX8_format_96 : decode bX8_format 96 = .ok (.invokevirtual 100, 3) := by decide +kernel
theorem dX8_format_99 : decode bX8_format 99 = .ok (.ifCond .lt 10, 3) := by decide +kernel
theorem dX8_format_102 : decode bX8_format 102 = .ok (.aload_n 0, 1) := by decide +kernel
theorem dX8_format_103 : decode bX8_format 103 = .ok (.getfield 39, 3) := by decide +kernel
theorem dX8_format_106 : decode bX8_format 106 = .ok (.invokestatic 104, 3) := by decide +kernel
theorem dX8_format_109 : decode bX8_format 109 = .ok (.aload_n 0, 1) := by decide +kernel
theorem dX8_format_110 : decode bX8_format 110 = .ok (.iconst 0, 1) := by decide +kernel
theorem dX8_format_111 : decode bX8_format 111 = .ok (.putfield 146, 3) := by decide +kernel
theorem dX8_format_114 : decode bX8_format 114 = .ok (.aload_n 0, 1) := by decide +kernel
theorem dX8_format_115 : decode bX8_format 115 = .ok (.getfield 16, 3) := by decide +kernel
theorem dX8_format_118 : decode bX8_format 118 = .ok (.iload_n 1, 1) := by decide +kernel
theorem dX8_format_119 : decode bX8_format 119 = .ok (.baload, 1) := by decide +kernel
theorem dX8_format_120 : decode bX8_format 120 = .ok (.ifCond .eq 19, 3) := by decide +kernel
theorem dX8_format_123 : decode bX8_format 123 = .ok (.aload_n 0, 1) := by decide +kernel
theorem dX8_format_124 : decode bX8_format 124 = .ok (.getfield 39, 3) := by decide +kernel
theorem dX8_format_127 : decode bX8_format 127 = .ok (.invokestatic 77, 3) := by decide +kernel
theorem dX8_format_130 : decode bX8_format 130 = .ok (.ifCond .ne 9, 3) := by decide +kernel
theorem dX8_format_133 : decode bX8_format 133 = .ok (.aload_n 0, 1) := by decide +kernel
theorem dX8_format_134 : decode bX8_format 134 = .ok (.bipush 45, 2) := by decide +kernel
theorem dX8_format_136 : decode bX8_format 136 = .ok (.invokevirtual 149, 3) := by decide +kernel
theorem dX8_format_139 : decode bX8_format 139 = .ok (.bipush 99, 2) := by decide +kernel
theorem dX8_format_141 : decode bX8_format 141 = .ok (.istore_n 3, 1) := by decide +kernel
theorem dX8_format_142 : decode bX8_format 142 = .ok (.iload_n 3, 1) := by decide +kernel
theorem dX8_format_143 : decode bX8_format 143 = .ok (.aload_n 0, 1) := by decide +kernel
theorem dX8_format_144 : decode bX8_format 144 = .ok (.getfield 159, 3) := by decide +kernel
theorem dX8_format_147 : decode bX8_format 147 = .ok (.if_icmp .lt 18, 3) := by decide +kernel
theorem dX8_format_150 : decode bX8_format 150 = .ok (.aload_n 0, 1) := by decide +kernel
theorem dX8_format_151 : decode bX8_format 151 = .ok (.getfield 39, 3) := by decide +kernel
theorem dX8_format_154 : decode bX8_format 154 = .ok (.iload_n 3, 1) := by decide +kernel
theorem dX8_format_155 : decode bX8_format 155 = .ok (.iaload, 1) := by decide +kernel
theorem dX8_format_156 : decode bX8_format 156 = .ok (.ifCond .ne 9, 3) := by decide +kernel
theorem dX8_format_159 : decode bX8_format 159 = .ok (.iinc 3 (-1), 3) := by decide +kernel
theorem dX8_format_162 : decode bX8_format 162 = .ok (.goto (-20), 3) := by decide +kernel
theorem dX8_format_165 : decode bX8_format 165 = .ok (.iload_n 3, 1) := by decide +kernel
theorem dX8_format_166 : decode bX8_format 166 = .ok (.aload_n 0, 1) := by decide +kernel
theorem dX8_format_167 : decode bX8_format 167 = .ok (.getfield 159, 3) := by decide +kernel
theorem dX8_format_170 : decode bX8_format 170 = .ok (.isub, 1) := by decide +kernel
theorem dX8_format_171 : decode bX8_format 171 = .ok (.iconst 1, 1) := by decide +kernel
theorem dX8_format_172 : decode bX8_format 172 = .ok (.iadd, 1) := by decide +kernel
theorem dX8_format_173 : decode bX8_format 173 = .ok (.istore 4, 2) := by decide +kernel
theorem dX8_format_175 : decode bX8_format 175 = .ok (.iload 4, 2) := by decide +kernel
theorem dX8_format_177 : decode bX8_format 177 = .ok (.aload_n 0, 1) := by decide +kernel
theorem dX8_format_178 : decode bX8_format 178 = .ok (.getfield 177, 3) := by decide +kernel
theorem dX8_format_181 : decode bX8_format 181 = .ok (.if_icmp .ge 10, 3) := by decide +kernel
theorem dX8_format_184 : decode bX8_format 184 = .ok (.aload_n 0, 1) := by decide +kernel
theorem dX8_format_185 : decode bX8_format 185 = .ok (.getfield 177, 3) := by decide +kernel
theorem dX8_format_188 : decode bX8_format 188 = .ok (.goto 5, 3) := by decide +kernel
theorem dX8_format_191 : decode bX8_format 191 = .ok (.iload 4, 2) := by decide +kernel
theorem dX8_format_193 : decode bX8_format 193 = .ok (.istore 4, 2) := by decide +kernel
theorem dX8_format_195 : decode bX8_format 195 = .ok (.iload 4, 2) := by decide +kernel
theorem dX8_format_197 : decode bX8_format 197 = .ok (.iconst 1, 1) := by decide +kernel
theorem dX8_format_198 : decode bX8_format 198 = .ok (.isub, 1) := by decide +kernel
theorem dX8_format_199 : decode bX8_format 199 = .ok (.istore 5, 2) := by decide +kernel
theorem dX8_format_201 : decode bX8_format 201 = .ok (.iload 5, 2) := by decide +kernel
theorem dX8_format_203 : decode bX8_format 203 = .ok (.ifCond .lt 54, 3) := by decide +kernel
theorem dX8_format_206 : decode bX8_format 206 = .ok (.aload_n 0, 1) := by decide +kernel
theorem dX8_format_207 : decode bX8_format 207 = .ok (.bipush 48, 2) := by decide +kernel
theorem dX8_format_209 : decode bX8_format 209 = .ok (.aload_n 0, 1) := by decide +kernel
theorem dX8_format_210 : decode bX8_format 210 = .ok (.getfield 39, 3) := by decide +kernel
theorem dX8_format_213 : decode bX8_format 213 = .ok (.aload_n 0, 1) := by decide +kernel
theorem dX8_format_214 : decode bX8_format 214 = .ok (.getfield 159, 3) := by decide +kernel
theorem dX8_format_217 : decode bX8_format 217 = .ok (.iload 5, 2) := by decide +kernel
theorem dX8_format_219 : decode bX8_format 219 = .ok (.iadd, 1) := by decide +kernel
theorem dX8_format_220 : decode bX8_format 220 = .ok (.iaload, 1) := by decide +kernel
theorem dX8_format_221 : decode bX8_format 221 = .ok (.iadd, 1) := by decide +kernel
theorem dX8_format_222 : decode bX8_format 222 = .ok (.i2c, 1) := by decide +kernel
theorem dX8_format_223 : decode bX8_format 223 = .ok (.invokevirtual 149, 3) := by decide +kernel
theorem dX8_format_226 : decode bX8_format 226 = .ok (.aload_n 0, 1) := by decide +kernel
theorem dX8_format_227 : decode bX8_format 227 = .ok (.getfield 180, 3) := by decide +kernel
theorem dX8_format_230 : decode bX8_format 230 = .ok (.ifCond .eq 21, 3) := by decide +kernel
theorem dX8_format_233 : decode bX8_format 233 = .ok (.iload 5, 2) := by decide +kernel
theorem dX8_format_235 : decode bX8_format 235 = .ok (.ifCond .le 16, 3) := by decide +kernel
theorem dX8_format_238 : decode bX8_format 238 = .ok (.iload 5, 2) := by decide +kernel
theorem dX8_format_240 : decode bX8_format 240 = .ok (.iconst 3, 1) := by decide +kernel
theorem dX8_format_241 : decode bX8_format 241 = .ok (.irem, 1) := by decide +kernel
theorem dX8_format_242 : decode bX8_format 242 = .ok (.ifCond .ne 9, 3) := by decide +kernel
theorem dX8_format_245 : decode bX8_format 245 = .ok (.aload_n 0, 1) := by decide +kernel
theorem dX8_format_246 : decode bX8_format 246 = .ok (.bipush 44, 2) := by decide +kernel
theorem dX8_format_248 : decode bX8_format 248 = .ok (.invokevirtual 149, 3) := by decide +kernel
theorem dX8_format_251 : decode bX8_format 251 = .ok (.iinc 5 (-1), 3) := by decide +kernel
theorem dX8_format_254 : decode bX8_format 254 = .ok (.goto (-53), 3) := by decide +kernel
theorem dX8_format_257 : decode bX8_format 257 = .ok (.iconst 0, 1) := by decide +kernel
theorem dX8_format_258 : decode bX8_format 258 = .ok (.istore 5, 2) := by decide +kernel
theorem dX8_format_260 : decode bX8_format 260 = .ok (.iload 5, 2) := by decide +kernel
theorem dX8_format_262 : decode bX8_format 262 = .ok (.aload_n 0, 1) := by decide +kernel
theorem dX8_format_263 : decode bX8_format 263 = .ok (.getfield 159, 3) := by decide +kernel
theorem dX8_format_266 : decode bX8_format 266 = .ok (.aload_n 0, 1) := by decide +kernel
theorem dX8_format_267 : decode bX8_format 267 = .ok (.getfield 166, 3) := by decide +kernel
theorem dX8_format_270 : decode bX8_format 270 = .ok (.isub, 1) := by decide +kernel
theorem dX8_format_271 : decode bX8_format 271 = .ok (.if_icmp .ge 19, 3) := by decide +kernel
theorem dX8_format_274 : decode bX8_format 274 = .ok (.aload_n 0, 1) := by decide +kernel
theorem dX8_format_275 : decode bX8_format 275 = .ok (.getfield 39, 3) := by decide +kernel
theorem dX8_format_278 : decode bX8_format 278 = .ok (.iload 5, 2) := by decide +kernel
theorem dX8_format_280 : decode bX8_format 280 = .ok (.iaload, 1) := by decide +kernel
theorem dX8_format_281 : decode bX8_format 281 = .ok (.ifCond .ne 9, 3) := by decide +kernel
theorem dX8_format_284 : decode bX8_format 284 = .ok (.iinc 5 1, 3) := by decide +kernel
theorem dX8_format_287 : decode bX8_format 287 = .ok (.goto (-27), 3) := by decide +kernel
theorem dX8_format_290 : decode bX8_format 290 = .ok (.iload 5, 2) := by decide +kernel
theorem dX8_format_292 : decode bX8_format 292 = .ok (.aload_n 0, 1) := by decide +kernel
theorem dX8_format_293 : decode bX8_format 293 = .ok (.getfield 159, 3) := by decide +kernel
theorem dX8_format_296 : decode bX8_format 296 = .ok (.if_icmp .ge 9, 3) := by decide +kernel
theorem dX8_format_299 : decode bX8_format 299 = .ok (.aload_n 0, 1) := by decide +kernel
theorem dX8_format_300 : decode bX8_format 300 = .ok (.bipush 46, 2) := by decide +kernel
theorem dX8_format_302 : decode bX8_format 302 = .ok (.invokevirtual 149, 3) := by decide +kernel
theorem dX8_format_305 : decode bX8_format 305 = .ok (.aload_n 0, 1) := by decide +kernel
theorem dX8_format_306 : decode bX8_format 306 = .ok (.getfield 159, 3) := by decide +kernel
theorem dX8_format_309 : decode bX8_format 309 = .ok (.iconst 1, 1) := by decide +kernel
theorem dX8_format_310 : decode bX8_format 310 = .ok (.isub, 1) := by decide +kernel
theorem dX8_format_311 : decode bX8_format 311 = .ok (.istore 6, 2) := by decide +kernel
theorem dX8_format_313 : decode bX8_format 313 = .ok (.iload 6, 2) := by decide +kernel
theorem dX8_format_315 : decode bX8_format 315 = .ok (.iload 5, 2) := by decide +kernel
theorem dX8_format_317 : decode bX8_format 317 = .ok (.if_icmp .lt 24, 3) := by decide +kernel
theorem dX8_format_320 : decode bX8_format 320 = .ok (.aload_n 0, 1) := by decide +kernel
theorem dX8_format_321 : decode bX8_format 321 = .ok (.bipush 48, 2) := by decide +kernel
theorem dX8_format_323 : decode bX8_format 323 = .ok (.aload_n 0, 1) := by decide +kernel
theorem dX8_format_324 : decode bX8_format 324 = .ok (.getfield 39, 3) := by decide +kernel
theorem dX8_format_327 : decode bX8_format 327 = .ok (.iload 6, 2) := by decide +kernel
theorem dX8_format_329 : decode bX8_format 329 = .ok (.iaload, 1) := by decide +kernel
theorem dX8_format_330 : decode bX8_format 330 = .ok (.iadd, 1) := by decide +kernel
theorem dX8_format_331 : decode bX8_format 331 = .ok (.i2c, 1) := by decide +kernel
theorem dX8_format_332 : decode bX8_format 332 = .ok (.invokevirtual 149, 3) := by decide +kernel
theorem dX8_format_335 : decode bX8_format 335 = .ok (.iinc 6 (-1), 3) := by decide +kernel
theorem dX8_format_338 : decode bX8_format 338 = .ok (.goto (-25), 3) := by decide +kernel
theorem dX8_format_341 : decode bX8_format 341 = .ok (.aload_n 0, 1) := by decide +kernel
theorem dX8_format_342 : decode bX8_format 342 = .ok (.getfield 162, 3) := by decide +kernel
theorem dX8_format_345 : decode bX8_format 345 = .ok (.ifCond .eq 9, 3) := by decide +kernel
theorem dX8_format_348 : decode bX8_format 348 = .ok (.aload_n 0, 1) := by decide +kernel
theorem dX8_format_349 : decode bX8_format 349 = .ok (.bipush 37, 2) := by decide +kernel
theorem dX8_format_351 : decode bX8_format 351 = .ok (.invokevirtual 149, 3) := by decide +kernel
theorem dX8_format_354 : decode bX8_format 354 = .ok (.aload_n 0, 1) := by decide +kernel
theorem dX8_format_355 : decode bX8_format 355 = .ok (.getfield 146, 3) := by decide +kernel
theorem dX8_format_358 : decode bX8_format 358 = .ok (.ireturn, 1) := by decide +kernel
abbrev bX8_reuse : ByteArray := prog_10_method_48_code
def yX8_reuse : MethodName := ⟨"WideDecimalDeskModel", "reuse", "()Z"⟩
def wsX8_reuse : List Cond := Cond.code yX8_reuse bX8_reuse 2 (some .boolean) :: wsA
theorem dc_X8_reuse : yX8_reuse.cls ≠ "java/lang/invoke/MethodHandle" ∧ yX8_reuse.cls ≠ "java/lang/invoke/VarHandle" ∧ (parseMethodDescriptor yX8_reuse.desc).map (fun d => d.parameters.length) = some 0 := by decide +kernel
theorem dX8_reuse_0 : decode bX8_reuse 0 = .ok (.aload_n 0, 1) := by decide +kernel
theorem dX8_reuse_1 : decode bX8_reuse 1 = .ok (.iconst 0, 1) := by decide +kernel
theorem dX8_reuse_2 : decode bX8_reuse 2 = .ok (.putfield 52, 3) := by decide +kernel
theorem dX8_reuse_5 : decode bX8_reuse 5 = .ok (.aload_n 0, 1) := by decide +kernel
theorem dX8_reuse_6 : decode bX8_reuse 6 = .ok (.getfield 146, 3) := by decide +kernel
theorem dX8_reuse_9 : decode bX8_reuse 9 = .ok (.bipush 40, 2) := by decide +kernel
theorem dX8_reuse_11 : decode bX8_reuse 11 = .ok (.if_icmp .le 5, 3) := by decide +kernel
theorem dX8_reuse_14 : decode bX8_reuse 14 = .ok (.iconst 0, 1) := by decide +kernel
theorem dX8_reuse_15 : decode bX8_reuse 15 = .ok (.ireturn, 1) := by decide +kernel
theorem dX8_reuse_16 : decode bX8_reuse 16 = .ok (.iconst 0, 1) := by decide +kernel
theorem dX8_reuse_17 : decode bX8_reuse 17 = .ok (.istore_n 1, 1) := by decide +kernel
theorem dX8_reuse_18 : decode bX8_reuse 18 = .ok (.iload_n 1, 1) := by decide +kernel
theorem dX8_reuse_19 : decode bX8_reuse 19 = .ok (.aload_n 0, 1) := by decide +kernel
theorem dX8_reuse_20 : decode bX8_reuse 20 = .ok (.getfield 146, 3) := by decide +kernel
theorem dX8_reuse_23 : decode bX8_reuse 23 = .ok (.if_icmp .ge 21, 3) := by decide +kernel
theorem dX8_reuse_26 : decode bX8_reuse 26 = .ok (.aload_n 0, 1) := by decide +kernel
theorem dX8_reuse_27 : decode bX8_reuse 27 = .ok (.getfield 20, 3) := by decide +kernel
theorem dX8_reuse_30 : decode bX8_reuse 30 = .ok (.iload_n 1, 1) := by decide +kernel
theorem dX8_reuse_31 : decode bX8_reuse 31 = .ok (.aload_n 0, 1) := by decide +kernel
theorem dX8_reuse_32 : decode bX8_reuse 32 = .ok (.getfield 24, 3) := by decide +kernel
theorem dX8_reuse_35 : decode bX8_reuse 35 = .ok (.iload_n 1, 1) := by decide +kernel
theorem dX8_reuse_36 : decode bX8_reuse 36 = .ok (.caload, 1) := by decide +kernel
theorem dX8_reuse_37 : decode bX8_reuse 37 = .ok (.castore, 1) := by decide +kernel
theorem dX8_reuse_38 : decode bX8_reuse 38 = .ok (.iinc 1 1, 3) := by decide +kernel
theorem dX8_reuse_41 : decode bX8_reuse 41 = .ok (.goto (-23), 3) := by decide +kernel
theorem dX8_reuse_44 : decode bX8_reuse 44 = .ok (.aload_n 0, 1) := by decide +kernel
theorem dX8_reuse_45 : decode bX8_reuse 45 = .ok (.aload_n 0, 1) := by decide +kernel
theorem dX8_reuse_46 : decode bX8_reuse 46 = .ok (.getfield 146, 3) := by decide +kernel
theorem dX8_reuse_49 : decode bX8_reuse 49 = .ok (.putfield 139, 3) := by decide +kernel
theorem dX8_reuse_52 : decode bX8_reuse 52 = .ok (.iconst 1, 1) := by decide +kernel
theorem dX8_reuse_53 : decode bX8_reuse 53 = .ok (.ireturn, 1) := by decide +kernel
