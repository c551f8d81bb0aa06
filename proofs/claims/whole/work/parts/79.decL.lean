abbrev bL_set : ByteArray := method_3_code
def yL_set : MethodName := ⟨"WideDecimalDeskLaw", "set", "(LWideDecimalDesk;IJIIZ)I"⟩
def wsL_set : List Cond := Cond.codeWith yL_set bL_set 8 (some .int) [(0, 12, 15, 13)] :: wsA
theorem dc_L_set : yL_set.cls ≠ "java/lang/invoke/MethodHandle" ∧ yL_set.cls ≠ "java/lang/invoke/VarHandle" ∧ (parseMethodDescriptor yL_set.desc).map (fun d => d.parameters.length) = some 6 := by decide +kernel
theorem dL_set_0 : decode bL_set 0 = .ok (.aload_n 0, 1) := by decide +kernel
theorem dL_set_1 : decode bL_set 1 = .ok (.iload_n 1, 1) := by decide +kernel
theorem dL_set_2 : decode bL_set 2 = .ok (.lload_n 2, 1) := by decide +kernel
theorem dL_set_3 : decode bL_set 3 = .ok (.iload 4, 2) := by decide +kernel
theorem dL_set_5 : decode bL_set 5 = .ok (.iload 5, 2) := by decide +kernel
theorem dL_set_7 : decode bL_set 7 = .ok (.iload 6, 2) := by decide +kernel
theorem dL_set_9 : decode bL_set 9 = .ok (.invokevirtual 7, 3) := by decide +kernel
theorem dL_set_12 : decode bL_set 12 = .ok (.goto 7, 3) := by decide +kernel
theorem dL_set_15 : decode bL_set 15 = .ok (.astore 7, 2) := by decide +kernel
theorem dL_set_17 : decode bL_set 17 = .ok (.iconst 1, 1) := by decide +kernel
theorem dL_set_18 : decode bL_set 18 = .ok (.ireturn, 1) := by decide +kernel
theorem dL_set_19 : decode bL_set 19 = .ok (.iconst 0, 1) := by decide +kernel
theorem dL_set_20 : decode bL_set 20 = .ok (.ireturn, 1) := by decide +kernel
abbrev bL_compute : ByteArray := method_4_code
def yL_compute : MethodName := ⟨"WideDecimalDeskLaw", "compute", "(LWideDecimalDesk;IIII)I"⟩
def wsL_compute : List Cond := Cond.codeWith yL_compute bL_compute 6 (some .int) [(0, 9, 12, 13), (0, 9, 16, 19)] :: wsA
theorem dc_L_compute : yL_compute.cls ≠ "java/lang/invoke/MethodHandle" ∧ yL_compute.cls ≠ "java/lang/invoke/VarHandle" ∧ (parseMethodDescriptor yL_compute.desc).map (fun d => d.parameters.length) = some 5 := by decide +kernel
theorem dL_compute_0 : decode bL_compute 0 = .ok (.aload_n 0, 1) := by decide +kernel
theorem dL_compute_1 : decode bL_compute 1 = .ok (.iload_n 1, 1) := by decide +kernel
theorem dL_compute_2 : decode bL_compute 2 = .ok (.iload_n 2, 1) := by decide +kernel
theorem dL_compute_3 : decode bL_compute 3 = .ok (.iload_n 3, 1) := by decide +kernel
theorem dL_compute_4 : decode bL_compute 4 = .ok (.iload 4, 2) := by decide +kernel
theorem dL_compute_6 : decode bL_compute 6 = .ok (.invokevirtual 15, 3) := by decide +kernel
theorem dL_compute_9 : decode bL_compute 9 = .ok (.goto 11, 3) := by decide +kernel
theorem dL_compute_12 : decode bL_compute 12 = .ok (.astore 5, 2) := by decide +kernel
theorem dL_compute_14 : decode bL_compute 14 = .ok (.iconst 1, 1) := by decide +kernel
theorem dL_compute_15 : decode bL_compute 15 = .ok (.ireturn, 1) := by decide +kernel
theorem dL_compute_16 : decode bL_compute 16 = .ok (.astore 5, 2) := by decide +kernel
theorem dL_compute_18 : decode bL_compute 18 = .ok (.iconst 2, 1) := by decide +kernel
theorem dL_compute_19 : decode bL_compute 19 = .ok (.ireturn, 1) := by decide +kernel
theorem dL_compute_20 : decode bL_compute 20 = .ok (.iconst 0, 1) := by decide +kernel
theorem dL_compute_21 : decode bL_compute 21 = .ok (.ireturn, 1) := by decide +kernel
abbrev bL_round : ByteArray := method_5_code
def yL_round : MethodName := ⟨"WideDecimalDeskLaw", "round", "(LWideDecimalDesk;IIII)I"⟩
def wsL_round : List Cond := Cond.codeWith yL_round bL_round 6 (some .int) [(0, 9, 12, 13)] :: wsA
theorem dc_L_round : yL_round.cls ≠ "java/lang/invoke/MethodHandle" ∧ yL_round.cls ≠ "java/lang/invoke/VarHandle" ∧ (parseMethodDescriptor yL_round.desc).map (fun d => d.parameters.length) = some 5 := by decide +kernel
theorem dL_round_0 : decode bL_round 0 = .ok (.aload_n 0, 1) := by decide +kernel
theorem dL_round_1 : decode bL_round 1 = .ok (.iload_n 1, 1) := by decide +kernel
theorem dL_round_2 : decode bL_round 2 = .ok (.iload_n 2, 1) := by decide +kernel
theorem dL_round_3 : decode bL_round 3 = .ok (.iload_n 3, 1) := by decide +kernel
theorem dL_round_4 : decode bL_round 4 = .ok (.iload 4, 2) := by decide +kernel
theorem dL_round_6 : decode bL_round 6 = .ok (.invokevirtual 21, 3) := by decide +kernel
theorem dL_round_9 : decode bL_round 9 = .ok (.goto 7, 3) := by decide +kernel
theorem dL_round_12 : decode bL_round 12 = .ok (.astore 5, 2) := by decide +kernel
theorem dL_round_14 : decode bL_round 14 = .ok (.iconst 1, 1) := by decide +kernel
theorem dL_round_15 : decode bL_round 15 = .ok (.ireturn, 1) := by decide +kernel
theorem dL_round_16 : decode bL_round 16 = .ok (.iconst 0, 1) := by decide +kernel
theorem dL_round_17 : decode bL_round 17 = .ok (.ireturn, 1) := by decide +kernel
abbrev bL_trim : ByteArray := method_6_code
def yL_trim : MethodName := ⟨"WideDecimalDeskLaw", "trim", "(LWideDecimalDesk;II)I"⟩
def wsL_trim : List Cond := Cond.codeWith yL_trim bL_trim 4 (some .int) [(0, 6, 9, 13)] :: wsA
theorem dc_L_trim : yL_trim.cls ≠ "java/lang/invoke/MethodHandle" ∧ yL_trim.cls ≠ "java/lang/invoke/VarHandle" ∧ (parseMethodDescriptor yL_trim.desc).map (fun d => d.parameters.length) = some 3 := by decide +kernel
theorem dL_trim_0 : decode bL_trim 0 = .ok (.aload_n 0, 1) := by decide +kernel
theorem dL_trim_1 : decode bL_trim 1 = .ok (.iload_n 1, 1) := by decide +kernel
theorem dL_trim_2 : decode bL_trim 2 = .ok (.iload_n 2, 1) := by decide +kernel
theorem dL_trim_3 : decode bL_trim 3 = .ok (.invokevirtual 24, 3) := by decide +kernel
theorem dL_trim_6 : decode bL_trim 6 = .ok (.goto 6, 3) := by decide +kernel
theorem dL_trim_9 : decode bL_trim 9 = .ok (.astore_n 3, 1) := by decide +kernel
theorem dL_trim_10 : decode bL_trim 10 = .ok (.iconst 1, 1) := by decide +kernel
theorem dL_trim_11 : decode bL_trim 11 = .ok (.ireturn, 1) := by decide +kernel
theorem dL_trim_12 : decode bL_trim 12 = .ok (.iconst 0, 1) := by decide +kernel
theorem dL_trim_13 : decode bL_trim 13 = .ok (.ireturn, 1) := by decide +kernel
abbrev bL_compare : ByteArray := method_7_code
def yL_compare : MethodName := ⟨"WideDecimalDeskLaw", "compare", "(LWideDecimalDesk;II[J)I"⟩
def wsL_compare : List Cond := Cond.codeWith yL_compare bL_compare 5 (some .int) [(0, 10, 13, 13)] :: wsA
theorem dc_L_compare : yL_compare.cls ≠ "java/lang/invoke/MethodHandle" ∧ yL_compare.cls ≠ "java/lang/invoke/VarHandle" ∧ (parseMethodDescriptor yL_compare.desc).map (fun d => d.parameters.length) = some 4 := by decide +kernel
theorem dL_compare_0 : decode bL_compare 0 = .ok (.aload_n 3, 1) := by decide +kernel
theorem dL_compare_1 : decode bL_compare 1 = .ok (.iconst 0, 1) := by decide +kernel
theorem dL_compare_2 : decode bL_compare 2 = .ok (.aload_n 0, 1) := by decide +kernel
theorem dL_compare_3 : decode bL_compare 3 = .ok (.iload_n 1, 1) := by decide +kernel
theorem dL_compare_4 : decode bL_compare 4 = .ok (.iload_n 2, 1) := by decide +kernel
theorem dL_compare_5 : decode bL_compare 5 = .ok (.invokevirtual 28, 3) := by decide +kernel
theorem dL_compare_8 : decode bL_compare 8 = .ok (.i2l, 1) := by decide +kernel
theorem dL_compare_9 : decode bL_compare 9 = .ok (.lastore, 1) := by decide +kernel
theorem dL_compare_10 : decode bL_compare 10 = .ok (.goto 7, 3) := by decide +kernel
theorem dL_compare_13 : decode bL_compare 13 = .ok (.astore 4, 2) := by decide +kernel
theorem dL_compare_15 : decode bL_compare 15 = .ok (.iconst 1, 1) := by decide +kernel
theorem dL_compare_16 : decode bL_compare 16 = .ok (.ireturn, 1) := by decide +kernel
theorem dL_compare_17 : decode bL_compare 17 = .ok (.iconst 0, 1) := by decide +kernel
theorem dL_compare_18 : decode bL_compare 18 = .ok (.ireturn, 1) := by decide +kernel
abbrev bL_parse : ByteArray := method_8_code
def yL_parse : MethodName := ⟨"WideDecimalDeskLaw", "parse", "(LWideDecimalDesk;I)I"⟩
def wsL_parse : List Cond := Cond.codeWith yL_parse bL_parse 3 (some .int) [(0, 5, 8, 13), (0, 5, 11, 36), (0, 5, 14, 19)] :: wsA
theorem dc_L_parse : yL_parse.cls ≠ "java/lang/invoke/MethodHandle" ∧ yL_parse.cls ≠ "java/lang/invoke/VarHandle" ∧ (parseMethodDescriptor yL_parse.desc).map (fun d => d.parameters.length) = some 2 := by decide +kernel
theorem dL_parse_0 : decode bL_parse 0 = .ok (.aload_n 0, 1) := by decide +kernel
theorem dL_parse_1 : decode bL_parse 1 = .ok (.iload_n 1, 1) := by decide +kernel
theorem dL_parse_2 : decode bL_parse 2 = .ok (.invokevirtual 32, 3) := by decide +kernel
theorem dL_parse_5 : decode bL_parse 5 = .ok (.goto 12, 3) := by decide +kernel
theorem dL_parse_8 : decode bL_parse 8 = .ok (.astore_n 2, 1) := by decide +kernel
theorem dL_parse_9 : decode bL_parse 9 = .ok (.iconst 1, 1) := by decide +kernel
theorem dL_parse_10 : decode bL_parse 10 = .ok (.ireturn, 1) := by decide +kernel
theorem dL_parse_11 : decode bL_parse 11 = .ok (.astore_n 2, 1) := by decide +kernel
theorem dL_parse_12 : decode bL_parse 12 = .ok (.iconst 2, 1) := by decide +kernel
theorem dL_parse_13 : decode bL_parse 13 = .ok (.ireturn, 1) := by decide +kernel
theorem dL_parse_14 : decode bL_parse 14 = .ok (.astore_n 2, 1) := by decide +kernel
theorem dL_parse_15 : decode bL_parse 15 = .ok (.iconst 3, 1) := by decide +kernel
theorem dL_parse_16 : decode bL_parse 16 = .ok (.ireturn, 1) := by decide +kernel
theorem dL_parse_17 : decode bL_parse 17 = .ok (.iconst 0, 1) := by decide +kernel
theorem dL_parse_18 : decode bL_parse 18 = .ok (.ireturn, 1) := by decide +kernel
abbrev bL_show : ByteArray := method_9_code
def yL_show : MethodName := ⟨"WideDecimalDeskLaw", "show", "(LWideDecimalDesk;I[J)I"⟩
def wsL_show : List Cond := Cond.codeWith yL_show bL_show 4 (some .int) [(0, 9, 12, 13)] :: wsA
theorem dc_L_show : yL_show.cls ≠ "java/lang/invoke/MethodHandle" ∧ yL_show.cls ≠ "java/lang/invoke/VarHandle" ∧ (parseMethodDescriptor yL_show.desc).map (fun d => d.parameters.length) = some 3 := by decide +kernel
theorem dL_show_0 : decode bL_show 0 = .ok (.aload_n 2, 1) := by decide +kernel
theorem dL_show_1 : decode bL_show 1 = .ok (.iconst 0, 1) := by decide +kernel
theorem dL_show_2 : decode bL_show 2 = .ok (.aload_n 0, 1) := by decide +kernel
theorem dL_show_3 : decode bL_show 3 = .ok (.iload_n 1, 1) := by decide +kernel
theorem dL_show_4 : decode bL_show 4 = .ok (.invokevirtual 38, 3) := by decide +kernel
theorem dL_show_7 : decode bL_show 7 = .ok (.i2l, 1) := by decide +kernel
theorem dL_show_8 : decode bL_show 8 = .ok (.lastore, 1) := by decide +kernel
theorem dL_show_9 : decode bL_show 9 = .ok (.goto 6, 3) := by decide +kernel
theorem dL_show_12 : decode bL_show 12 = .ok (.astore_n 3, 1) := by decide +kernel
theorem dL_show_13 : decode bL_show 13 = .ok (.iconst 1, 1) := by decide +kernel
theorem dL_show_14 : decode bL_show 14 = .ok (.ireturn, 1) := by decide +kernel
theorem dL_show_15 : decode bL_show 15 = .ok (.iconst 0, 1) := by decide +kernel
theorem dL_show_16 : decode bL_show 16 = .ok (.ireturn, 1) := by decide +kernel
abbrev bL_format : ByteArray := method_10_code
def yL_format : MethodName := ⟨"WideDecimalDeskLaw", "format", "(LWideDecimalDesk;I[J)I"⟩
def wsL_format : List Cond := Cond.codeWith yL_format bL_format 4 (some .int) [(0, 9, 12, 13), (0, 9, 15, 36)] :: wsA
theorem dc_L_format : yL_format.cls ≠ "java/lang/invoke/MethodHandle" ∧ yL_format.cls ≠ "java/lang/invoke/VarHandle" ∧ (parseMethodDescriptor yL_format.desc).map (fun d => d.parameters.length) = some 3 := by decide +kernel
theorem dL_format_0 : decode bL_format 0 = .ok (.aload_n 2, 1) := by decide +kernel
theorem dL_format_1 : decode bL_format 1 = .ok (.iconst 0, 1) := by decide +kernel
theorem dL_format_2 : decode bL_format 2 = .ok (.aload_n 0, 1) := by decide +kernel
theorem dL_format_3 : decode bL_format 3 = .ok (.iload_n 1, 1) := by decide +kernel
theorem dL_format_4 : decode bL_format 4 = .ok (.invokevirtual 42, 3) := by decide +kernel
theorem dL_format_7 : decode bL_format 7 = .ok (.i2l, 1) := by decide +kernel
theorem dL_format_8 : decode bL_format 8 = .ok (.lastore, 1) := by decide +kernel
theorem dL_format_9 : decode bL_format 9 = .ok (.goto 9, 3) := by decide +kernel
theorem dL_format_12 : decode bL_format 12 = .ok (.astore_n 3, 1) := by decide +kernel
theorem dL_format_13 : decode bL_format 13 = .ok (.iconst 1, 1) := by decide +kernel
theorem dL_format_14 : decode bL_format 14 = .ok (.ireturn, 1) := by decide +kernel
theorem dL_format_15 : decode bL_format 15 = .ok (.astore_n 3, 1) := by decide +kernel
theorem dL_format_16 : decode bL_format 16 = .ok (.iconst 2, 1) := by decide +kernel
theorem dL_format_17 : decode bL_format 17 = .ok (.ireturn, 1) := by decide +kernel
theorem dL_format_18 : decode bL_format 18 = .ok (.iconst 0, 1) := by decide +kernel
theorem dL_format_19 : decode bL_format 19 = .ok (.ireturn, 1) := by decide +kernel
