abbrev M_Tuple_init : MethodName × ByteArray × Nat × Option FieldType := (⟨"KeyCodec$Tuple", "<init>", "()V"⟩, prog_6_method_1_code, 2, none)
theorem d_Tuple_init_0 : decode prog_6_method_1_code 0 = .ok (.aload_n 0, 1) := by decide +kernel
theorem d_Tuple_init_1 : decode prog_6_method_1_code 1 = .ok (.invokespecial 3, 3) := by decide +kernel
theorem d_Tuple_init_4 : decode prog_6_method_1_code 4 = .ok (.aload_n 0, 1) := by decide +kernel
theorem d_Tuple_init_5 : decode prog_6_method_1_code 5 = .ok (.iconst 5, 1) := by decide +kernel
theorem d_Tuple_init_6 : decode prog_6_method_1_code 6 = .ok (.anewarray 9, 3) := by decide +kernel
theorem d_Tuple_init_9 : decode prog_6_method_1_code 9 = .ok (.putfield 11, 3) := by decide +kernel
theorem d_Tuple_init_12 : decode prog_6_method_1_code 12 = .ok (.iconst 0, 1) := by decide +kernel
theorem d_Tuple_init_13 : decode prog_6_method_1_code 13 = .ok (.istore_n 1, 1) := by decide +kernel
theorem d_Tuple_init_14 : decode prog_6_method_1_code 14 = .ok (.iload_n 1, 1) := by decide +kernel
theorem d_Tuple_init_15 : decode prog_6_method_1_code 15 = .ok (.iconst 5, 1) := by decide +kernel
theorem d_Tuple_init_16 : decode prog_6_method_1_code 16 = .ok (.if_icmp .ge 22, 3) := by decide +kernel
theorem d_Tuple_init_19 : decode prog_6_method_1_code 19 = .ok (.aload_n 0, 1) := by decide +kernel
theorem d_Tuple_init_20 : decode prog_6_method_1_code 20 = .ok (.getfield 11, 3) := by decide +kernel
theorem d_Tuple_init_23 : decode prog_6_method_1_code 23 = .ok (.iload_n 1, 1) := by decide +kernel
theorem d_Tuple_init_24 : decode prog_6_method_1_code 24 = .ok (.new 9, 3) := by decide +kernel
theorem d_Tuple_init_27 : decode prog_6_method_1_code 27 = .ok (.dup, 1) := by decide +kernel
theorem d_Tuple_init_28 : decode prog_6_method_1_code 28 = .ok (.invokespecial 17, 3) := by decide +kernel
theorem d_Tuple_init_31 : decode prog_6_method_1_code 31 = .ok (.aastore, 1) := by decide +kernel
theorem d_Tuple_init_32 : decode prog_6_method_1_code 32 = .ok (.iinc 1 1, 3) := by decide +kernel
theorem d_Tuple_init_35 : decode prog_6_method_1_code 35 = .ok (.goto (-21), 3) := by decide +kernel
theorem d_Tuple_init_38 : decode prog_6_method_1_code 38 = .ok (.return_, 1) := by decide +kernel
abbrev M_Tuple_reset : MethodName × ByteArray × Nat × Option FieldType := (⟨"KeyCodec$Tuple", "reset", "()V"⟩, prog_6_method_2_code, 2, none)
theorem d_Tuple_reset_0 : decode prog_6_method_2_code 0 = .ok (.iconst 0, 1) := by decide +kernel
theorem d_Tuple_reset_1 : decode prog_6_method_2_code 1 = .ok (.istore_n 1, 1) := by decide +kernel
theorem d_Tuple_reset_2 : decode prog_6_method_2_code 2 = .ok (.iload_n 1, 1) := by decide +kernel
theorem d_Tuple_reset_3 : decode prog_6_method_2_code 3 = .ok (.iconst 5, 1) := by decide +kernel
theorem d_Tuple_reset_4 : decode prog_6_method_2_code 4 = .ok (.if_icmp .ge 20, 3) := by decide +kernel
theorem d_Tuple_reset_7 : decode prog_6_method_2_code 7 = .ok (.aload_n 0, 1) := by decide +kernel
theorem d_Tuple_reset_8 : decode prog_6_method_2_code 8 = .ok (.getfield 11, 3) := by decide +kernel
theorem d_Tuple_reset_11 : decode prog_6_method_2_code 11 = .ok (.iload_n 1, 1) := by decide +kernel
theorem d_Tuple_reset_12 : decode prog_6_method_2_code 12 = .ok (.aaload, 1) := by decide +kernel
theorem d_Tuple_reset_13 : decode prog_6_method_2_code 13 = .ok (.lconst 0, 1) := by decide +kernel
theorem d_Tuple_reset_14 : decode prog_6_method_2_code 14 = .ok (.iconst 0, 1) := by decide +kernel
theorem d_Tuple_reset_15 : decode prog_6_method_2_code 15 = .ok (.invokevirtual 18, 3) := by decide +kernel
theorem d_Tuple_reset_18 : decode prog_6_method_2_code 18 = .ok (.iinc 1 1, 3) := by decide +kernel
theorem d_Tuple_reset_21 : decode prog_6_method_2_code 21 = .ok (.goto (-19), 3) := by decide +kernel
theorem d_Tuple_reset_24 : decode prog_6_method_2_code 24 = .ok (.return_, 1) := by decide +kernel
abbrev M_Tuple_become : MethodName × ByteArray × Nat × Option FieldType := (⟨"KeyCodec$Tuple", "become", "(LKeyCodec$Tuple;)V"⟩, prog_6_method_3_code, 3, none)
theorem d_Tuple_become_0 : decode prog_6_method_3_code 0 = .ok (.iconst 0, 1) := by decide +kernel
theorem d_Tuple_become_1 : decode prog_6_method_3_code 1 = .ok (.istore_n 2, 1) := by decide +kernel
theorem d_Tuple_become_2 : decode prog_6_method_3_code 2 = .ok (.iload_n 2, 1) := by decide +kernel
theorem d_Tuple_become_3 : decode prog_6_method_3_code 3 = .ok (.iconst 5, 1) := by decide +kernel
theorem d_Tuple_become_4 : decode prog_6_method_3_code 4 = .ok (.if_icmp .ge 24, 3) := by decide +kernel
theorem d_Tuple_become_7 : decode prog_6_method_3_code 7 = .ok (.aload_n 0, 1) := by decide +kernel
theorem d_Tuple_become_8 : decode prog_6_method_3_code 8 = .ok (.getfield 11, 3) := by decide +kernel
theorem d_Tuple_become_11 : decode prog_6_method_3_code 11 = .ok (.iload_n 2, 1) := by decide +kernel
theorem d_Tuple_become_12 : decode prog_6_method_3_code 12 = .ok (.aaload, 1) := by decide +kernel
theorem d_Tuple_become_13 : decode prog_6_method_3_code 13 = .ok (.aload_n 1, 1) := by decide +kernel
theorem d_Tuple_become_14 : decode prog_6_method_3_code 14 = .ok (.getfield 11, 3) := by decide +kernel
theorem d_Tuple_become_17 : decode prog_6_method_3_code 17 = .ok (.iload_n 2, 1) := by decide +kernel
theorem d_Tuple_become_18 : decode prog_6_method_3_code 18 = .ok (.aaload, 1) := by decide +kernel
theorem d_Tuple_become_19 : decode prog_6_method_3_code 19 = .ok (.invokevirtual 22, 3) := by decide +kernel
theorem d_Tuple_become_22 : decode prog_6_method_3_code 22 = .ok (.iinc 2 1, 3) := by decide +kernel
theorem d_Tuple_become_25 : decode prog_6_method_3_code 25 = .ok (.goto (-23), 3) := by decide +kernel
theorem d_Tuple_become_28 : decode prog_6_method_3_code 28 = .ok (.return_, 1) := by decide +kernel
theorem lo_Tuple_3 : Cond.methodLink "KeyCodec$Tuple" 3 Lib.objectInit ∈ kTs := km 57 (by decide +kernel) (by decide +kernel)
theorem lc_Tuple_9 : Cond.classLink "KeyCodec$Tuple" (9 : Nat) "KeyCodec$Value" ∈ kTs := km 58 (by decide +kernel) (by decide +kernel)
theorem lf_Tuple_11 : Cond.fieldLink "KeyCodec$Tuple" (11 : Nat) "KeyCodec$Tuple" "values" "[LKeyCodec$Value;" ∈ kTs := km 93 (by decide +kernel) (by decide +kernel)
theorem kb_Value_init : kCB M_Value_init 0 := ⟨km 4 (by decide +kernel) (by decide +kernel), km 63 (by decide +kernel) (by decide +kernel), by decide +kernel, by decide +kernel⟩
theorem lg_Tuple_17 : kCIN "KeyCodec$Tuple" 17 M_Value_init 0 "KeyCodec" := ⟨kb_Value_init, (by decide +kernel), km 62 (by decide +kernel) (by decide +kernel), rfl, rfl⟩
theorem lg_Tuple_18 : kCV "KeyCodec$Tuple" 18 M_Value_become 2 2 := ⟨kb_Value_become, km 161 (by decide +kernel) (by decide +kernel), km 162 (by decide +kernel) (by decide +kernel), km 163 (by decide +kernel) (by decide +kernel), (F_Value, 5), rfl⟩
theorem kb_Value_copy : kCB M_Value_copy 1 := ⟨km 4 (by decide +kernel) (by decide +kernel), km 267 (by decide +kernel) (by decide +kernel), by decide +kernel, by decide +kernel⟩
theorem lg_Tuple_22 : kCV "KeyCodec$Tuple" 22 M_Value_copy 1 2 := ⟨kb_Value_copy, km 264 (by decide +kernel) (by decide +kernel), km 265 (by decide +kernel) (by decide +kernel), km 266 (by decide +kernel) (by decide +kernel), (F_Value, 5), rfl⟩
