abbrev M_Value_init : MethodName × ByteArray × Nat × Option FieldType := (⟨"KeyCodec$Value", "<init>", "()V"⟩, prog_7_method_1_code, 1, none)
theorem d_Value_init_0 : decode prog_7_method_1_code 0 = .ok (.aload_n 0, 1) := by decide +kernel
theorem d_Value_init_1 : decode prog_7_method_1_code 1 = .ok (.invokespecial 3, 3) := by decide +kernel
theorem d_Value_init_4 : decode prog_7_method_1_code 4 = .ok (.aload_n 0, 1) := by decide +kernel
theorem d_Value_init_5 : decode prog_7_method_1_code 5 = .ok (.iconst 0, 1) := by decide +kernel
theorem d_Value_init_6 : decode prog_7_method_1_code 6 = .ok (.putfield 9, 3) := by decide +kernel
theorem d_Value_init_9 : decode prog_7_method_1_code 9 = .ok (.aload_n 0, 1) := by decide +kernel
theorem d_Value_init_10 : decode prog_7_method_1_code 10 = .ok (.lconst 0, 1) := by decide +kernel
theorem d_Value_init_11 : decode prog_7_method_1_code 11 = .ok (.putfield 15, 3) := by decide +kernel
theorem d_Value_init_14 : decode prog_7_method_1_code 14 = .ok (.aload_n 0, 1) := by decide +kernel
theorem d_Value_init_15 : decode prog_7_method_1_code 15 = .ok (.iconst 0, 1) := by decide +kernel
theorem d_Value_init_16 : decode prog_7_method_1_code 16 = .ok (.putfield 19, 3) := by decide +kernel
theorem d_Value_init_19 : decode prog_7_method_1_code 19 = .ok (.aload_n 0, 1) := by decide +kernel
theorem d_Value_init_20 : decode prog_7_method_1_code 20 = .ok (.bipush 10, 2) := by decide +kernel
theorem d_Value_init_22 : decode prog_7_method_1_code 22 = .ok (.newarray .int, 2) := by decide +kernel
theorem d_Value_init_24 : decode prog_7_method_1_code 24 = .ok (.putfield 23, 3) := by decide +kernel
theorem d_Value_init_27 : decode prog_7_method_1_code 27 = .ok (.aload_n 0, 1) := by decide +kernel
theorem d_Value_init_28 : decode prog_7_method_1_code 28 = .ok (.iconst 0, 1) := by decide +kernel
theorem d_Value_init_29 : decode prog_7_method_1_code 29 = .ok (.putfield 27, 3) := by decide +kernel
theorem d_Value_init_32 : decode prog_7_method_1_code 32 = .ok (.return_, 1) := by decide +kernel
abbrev M_Value_become : MethodName × ByteArray × Nat × Option FieldType := (⟨"KeyCodec$Value", "become", "(JI)V"⟩, prog_7_method_2_code, 4, none)
theorem d_Value_become_0 : decode prog_7_method_2_code 0 = .ok (.aload_n 0, 1) := by decide +kernel
theorem d_Value_become_1 : decode prog_7_method_2_code 1 = .ok (.iconst 0, 1) := by decide +kernel
theorem d_Value_become_2 : decode prog_7_method_2_code 2 = .ok (.putfield 9, 3) := by decide +kernel
theorem d_Value_become_5 : decode prog_7_method_2_code 5 = .ok (.aload_n 0, 1) := by decide +kernel
theorem d_Value_become_6 : decode prog_7_method_2_code 6 = .ok (.lload_n 1, 1) := by decide +kernel
theorem d_Value_become_7 : decode prog_7_method_2_code 7 = .ok (.putfield 15, 3) := by decide +kernel
theorem d_Value_become_10 : decode prog_7_method_2_code 10 = .ok (.aload_n 0, 1) := by decide +kernel
theorem d_Value_become_11 : decode prog_7_method_2_code 11 = .ok (.iload_n 3, 1) := by decide +kernel
theorem d_Value_become_12 : decode prog_7_method_2_code 12 = .ok (.putfield 19, 3) := by decide +kernel
theorem d_Value_become_15 : decode prog_7_method_2_code 15 = .ok (.aload_n 0, 1) := by decide +kernel
theorem d_Value_become_16 : decode prog_7_method_2_code 16 = .ok (.iconst 0, 1) := by decide +kernel
theorem d_Value_become_17 : decode prog_7_method_2_code 17 = .ok (.putfield 27, 3) := by decide +kernel
theorem d_Value_become_20 : decode prog_7_method_2_code 20 = .ok (.return_, 1) := by decide +kernel
abbrev M_Value_vanish : MethodName × ByteArray × Nat × Option FieldType := (⟨"KeyCodec$Value", "vanish", "()V"⟩, prog_7_method_3_code, 1, none)
theorem d_Value_vanish_0 : decode prog_7_method_3_code 0 = .ok (.aload_n 0, 1) := by decide +kernel
theorem d_Value_vanish_1 : decode prog_7_method_3_code 1 = .ok (.lconst 0, 1) := by decide +kernel
theorem d_Value_vanish_2 : decode prog_7_method_3_code 2 = .ok (.iconst 0, 1) := by decide +kernel
theorem d_Value_vanish_3 : decode prog_7_method_3_code 3 = .ok (.invokevirtual 30, 3) := by decide +kernel
theorem d_Value_vanish_6 : decode prog_7_method_3_code 6 = .ok (.aload_n 0, 1) := by decide +kernel
theorem d_Value_vanish_7 : decode prog_7_method_3_code 7 = .ok (.iconst 1, 1) := by decide +kernel
theorem d_Value_vanish_8 : decode prog_7_method_3_code 8 = .ok (.putfield 9, 3) := by decide +kernel
theorem d_Value_vanish_11 : decode prog_7_method_3_code 11 = .ok (.return_, 1) := by decide +kernel
abbrev M_Value_append : MethodName × ByteArray × Nat × Option FieldType := (⟨"KeyCodec$Value", "append", "(I)Z"⟩, prog_7_method_4_code, 2, some .boolean)
theorem d_Value_append_0 : decode prog_7_method_4_code 0 = .ok (.aload_n 0, 1) := by decide +kernel
theorem d_Value_append_1 : decode prog_7_method_4_code 1 = .ok (.getfield 27, 3) := by decide +kernel
theorem d_Value_append_4 : decode prog_7_method_4_code 4 = .ok (.bipush 10, 2) := by decide +kernel
theorem d_Value_append_6 : decode prog_7_method_4_code 6 = .ok (.if_icmp .lt 5, 3) := by decide +kernel
theorem d_Value_append_9 : decode prog_7_method_4_code 9 = .ok (.iconst 0, 1) := by decide +kernel
theorem d_Value_append_10 : decode prog_7_method_4_code 10 = .ok (.ireturn, 1) := by decide +kernel
theorem d_Value_append_11 : decode prog_7_method_4_code 11 = .ok (.aload_n 0, 1) := by decide +kernel
theorem d_Value_append_12 : decode prog_7_method_4_code 12 = .ok (.getfield 23, 3) := by decide +kernel
theorem d_Value_append_15 : decode prog_7_method_4_code 15 = .ok (.aload_n 0, 1) := by decide +kernel
theorem d_Value_append_16 : decode prog_7_method_4_code 16 = .ok (.getfield 27, 3) := by decide +kernel
theorem d_Value_append_19 : decode prog_7_method_4_code 19 = .ok (.iload_n 1, 1) := by decide +kernel
theorem d_Value_append_20 : decode prog_7_method_4_code 20 = .ok (.sipush 255, 3) := by decide +kernel
theorem d_Value_append_23 : decode prog_7_method_4_code 23 = .ok (.iand, 1) := by decide +kernel
theorem d_Value_append_24 : decode prog_7_method_4_code 24 = .ok (.iastore, 1) := by decide +kernel
theorem d_Value_append_25 : decode prog_7_method_4_code 25 = .ok (.aload_n 0, 1) := by decide +kernel
theorem d_Value_append_26 : decode prog_7_method_4_code 26 = .ok (.dup, 1) := by decide +kernel
theorem d_Value_append_27 : decode prog_7_method_4_code 27 = .ok (.getfield 27, 3) := by decide +kernel
theorem d_Value_append_30 : decode prog_7_method_4_code 30 = .ok (.iconst 1, 1) := by decide +kernel
theorem d_Value_append_31 : decode prog_7_method_4_code 31 = .ok (.iadd, 1) := by decide +kernel
theorem d_Value_append_32 : decode prog_7_method_4_code 32 = .ok (.putfield 27, 3) := by decide +kernel
theorem d_Value_append_35 : decode prog_7_method_4_code 35 = .ok (.aload_n 0, 1) := by decide +kernel
theorem d_Value_append_36 : decode prog_7_method_4_code 36 = .ok (.iconst 0, 1) := by decide +kernel
theorem d_Value_append_37 : decode prog_7_method_4_code 37 = .ok (.putfield 9, 3) := by decide +kernel
theorem d_Value_append_40 : decode prog_7_method_4_code 40 = .ok (.iconst 1, 1) := by decide +kernel
theorem d_Value_append_41 : decode prog_7_method_4_code 41 = .ok (.ireturn, 1) := by decide +kernel
abbrev M_Value_byteAt : MethodName × ByteArray × Nat × Option FieldType := (⟨"KeyCodec$Value", "byteAt", "(I)I"⟩, prog_7_method_5_code, 2, some .int)
theorem d_Value_byteAt_0 : decode prog_7_method_5_code 0 = .ok (.iload_n 1, 1) := by decide +kernel
theorem d_Value_byteAt_1 : decode prog_7_method_5_code 1 = .ok (.ifCond .lt 20, 3) := by decide +kernel
theorem d_Value_byteAt_4 : decode prog_7_method_5_code 4 = .ok (.iload_n 1, 1) := by decide +kernel
theorem d_Value_byteAt_5 : decode prog_7_method_5_code 5 = .ok (.aload_n 0, 1) := by decide +kernel
theorem d_Value_byteAt_6 : decode prog_7_method_5_code 6 = .ok (.getfield 27, 3) := by decide +kernel
theorem d_Value_byteAt_9 : decode prog_7_method_5_code 9 = .ok (.if_icmp .ge 12, 3) := by decide +kernel
theorem d_Value_byteAt_12 : decode prog_7_method_5_code 12 = .ok (.aload_n 0, 1) := by decide +kernel
theorem d_Value_byteAt_13 : decode prog_7_method_5_code 13 = .ok (.getfield 23, 3) := by decide +kernel
theorem d_Value_byteAt_16 : decode prog_7_method_5_code 16 = .ok (.iload_n 1, 1) := by decide +kernel
theorem d_Value_byteAt_17 : decode prog_7_method_5_code 17 = .ok (.iaload, 1) := by decide +kernel
theorem d_Value_byteAt_18 : decode prog_7_method_5_code 18 = .ok (.goto 4, 3) := by decide +kernel
theorem d_Value_byteAt_21 : decode prog_7_method_5_code 21 = .ok (.iconst (-1), 1) := by decide +kernel
theorem d_Value_byteAt_22 : decode prog_7_method_5_code 22 = .ok (.ireturn, 1) := by decide +kernel
abbrev M_Value_copy : MethodName × ByteArray × Nat × Option FieldType := (⟨"KeyCodec$Value", "copy", "(LKeyCodec$Value;)V"⟩, prog_7_method_6_code, 2, none)
theorem d_Value_copy_0 : decode prog_7_method_6_code 0 = .ok (.aload_n 0, 1) := by decide +kernel
theorem d_Value_copy_1 : decode prog_7_method_6_code 1 = .ok (.aload_n 1, 1) := by decide +kernel
theorem d_Value_copy_2 : decode prog_7_method_6_code 2 = .ok (.getfield 9, 3) := by decide +kernel
theorem d_Value_copy_5 : decode prog_7_method_6_code 5 = .ok (.putfield 9, 3) := by decide +kernel
theorem d_Value_copy_8 : decode prog_7_method_6_code 8 = .ok (.aload_n 0, 1) := by decide +kernel
theorem d_Value_copy_9 : decode prog_7_method_6_code 9 = .ok (.aload_n 1, 1) := by decide +kernel
theorem d_Value_copy_10 : decode prog_7_method_6_code 10 = .ok (.getfield 15, 3) := by decide +kernel
theorem d_Value_copy_13 : decode prog_7_method_6_code 13 = .ok (.putfield 15, 3) := by decide +kernel
theorem d_Value_copy_16 : decode prog_7_method_6_code 16 = .ok (.aload_n 0, 1) := by decide +kernel
theorem d_Value_copy_17 : decode prog_7_method_6_code 17 = .ok (.aload_n 1, 1) := by decide +kernel
theorem d_Value_copy_18 : decode prog_7_method_6_code 18 = .ok (.getfield 19, 3) := by decide +kernel
theorem d_Value_copy_21 : decode prog_7_method_6_code 21 = .ok (.putfield 19, 3) := by decide +kernel
theorem d_Value_copy_24 : decode prog_7_method_6_code 24 = .ok (.aload_n 0, 1) := by decide +kernel
theorem d_Value_copy_25 : decode prog_7_method_6_code 25 = .ok (.aload_n 1, 1) := by decide +kernel
theorem d_Value_copy_26 : decode prog_7_method_6_code 26 = .ok (.getfield 27, 3) := by decide +kernel
theorem d_Value_copy_29 : decode prog_7_method_6_code 29 = .ok (.putfield 27, 3) := by decide +kernel
theorem d_Value_copy_32 : decode prog_7_method_6_code 32 = .ok (.aload_n 1, 1) := by decide +kernel
theorem d_Value_copy_33 : decode prog_7_method_6_code 33 = .ok (.getfield 23, 3) := by decide +kernel
theorem d_Value_copy_36 : decode prog_7_method_6_code 36 = .ok (.iconst 0, 1) := by decide +kernel
theorem d_Value_copy_37 : decode prog_7_method_6_code 37 = .ok (.aload_n 0, 1) := by decide +kernel
theorem d_Value_copy_38 : decode prog_7_method_6_code 38 = .ok (.getfield 23, 3) := by decide +kernel
theorem d_Value_copy_41 : decode prog_7_method_6_code 41 = .ok (.iconst 0, 1) := by decide +kernel
theorem d_Value_copy_42 : decode prog_7_method_6_code 42 = .ok (.bipush 10, 2) := by decide +kernel
theorem d_Value_copy_44 : decode prog_7_method_6_code 44 = .ok (.invokestatic 34, 3) := by decide +kernel
theorem d_Value_copy_47 : decode prog_7_method_6_code 47 = .ok (.return_, 1) := by decide +kernel
theorem lo_Value_3 : Cond.methodLink "KeyCodec$Value" 3 Lib.objectInit ∈ kTs := km 64 (by decide +kernel) (by decide +kernel)
theorem lf_Value_9 : Cond.fieldLink "KeyCodec$Value" (9 : Nat) "KeyCodec$Value" "missing" "Z" ∈ kTs := km 65 (by decide +kernel) (by decide +kernel)
theorem lf_Value_15 : Cond.fieldLink "KeyCodec$Value" (15 : Nat) "KeyCodec$Value" "number" "J" ∈ kTs := km 69 (by decide +kernel) (by decide +kernel)
theorem lf_Value_19 : Cond.fieldLink "KeyCodec$Value" (19 : Nat) "KeyCodec$Value" "form" "I" ∈ kTs := km 73 (by decide +kernel) (by decide +kernel)
theorem lf_Value_23 : Cond.fieldLink "KeyCodec$Value" (23 : Nat) "KeyCodec$Value" "bytes" "[I" ∈ kTs := km 77 (by decide +kernel) (by decide +kernel)
theorem lf_Value_27 : Cond.fieldLink "KeyCodec$Value" (27 : Nat) "KeyCodec$Value" "size" "I" ∈ kTs := km 79 (by decide +kernel) (by decide +kernel)
theorem kb_Value_become : kCB M_Value_become 2 := ⟨km 4 (by decide +kernel) (by decide +kernel), km 164 (by decide +kernel) (by decide +kernel), by decide +kernel, by decide +kernel⟩
theorem lg_Value_30 : kCV "KeyCodec$Value" 30 M_Value_become 2 2 := ⟨kb_Value_become, km 214 (by decide +kernel) (by decide +kernel), km 162 (by decide +kernel) (by decide +kernel), km 163 (by decide +kernel) (by decide +kernel), (F_Value, 5), rfl⟩
theorem lm_Value_34 : Cond.methodLink "KeyCodec$Value" 34 arraycopyName ∈ kTs := km 268 (by decide +kernel) (by decide +kernel)
