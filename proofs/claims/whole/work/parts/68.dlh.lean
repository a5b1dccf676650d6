abbrev M_Law_field : MethodName × ByteArray × Nat × Option FieldType := (⟨"KeyCodecLaw", "field", "(LKeyCodec;II[J)I"⟩, method_3_code, 5, some .int)
theorem d_Law_field_0 : decode method_3_code 0 = .ok (.aload_n 3, 1) := by decide +kernel
theorem d_Law_field_1 : decode method_3_code 1 = .ok (.iconst 0, 1) := by decide +kernel
theorem d_Law_field_2 : decode method_3_code 2 = .ok (.aload_n 0, 1) := by decide +kernel
theorem d_Law_field_3 : decode method_3_code 3 = .ok (.iload_n 1, 1) := by decide +kernel
theorem d_Law_field_4 : decode method_3_code 4 = .ok (.iload_n 2, 1) := by decide +kernel
theorem d_Law_field_5 : decode method_3_code 5 = .ok (.invokevirtual 7, 3) := by decide +kernel
theorem d_Law_field_8 : decode method_3_code 8 = .ok (.i2l, 1) := by decide +kernel
theorem d_Law_field_9 : decode method_3_code 9 = .ok (.lastore, 1) := by decide +kernel
theorem d_Law_field_10 : decode method_3_code 10 = .ok (.goto 11, 3) := by decide +kernel
theorem d_Law_field_13 : decode method_3_code 13 = .ok (.astore 4, 2) := by decide +kernel
theorem d_Law_field_15 : decode method_3_code 15 = .ok (.iconst 1, 1) := by decide +kernel
theorem d_Law_field_16 : decode method_3_code 16 = .ok (.ireturn, 1) := by decide +kernel
theorem d_Law_field_17 : decode method_3_code 17 = .ok (.astore 4, 2) := by decide +kernel
theorem d_Law_field_19 : decode method_3_code 19 = .ok (.iconst 2, 1) := by decide +kernel
theorem d_Law_field_20 : decode method_3_code 20 = .ok (.ireturn, 1) := by decide +kernel
theorem d_Law_field_21 : decode method_3_code 21 = .ok (.iconst 0, 1) := by decide +kernel
theorem d_Law_field_22 : decode method_3_code 22 = .ok (.ireturn, 1) := by decide +kernel
abbrev M_Law_encode : MethodName × ByteArray × Nat × Option FieldType := (⟨"KeyCodecLaw", "encode", "(LKeyCodec;[J)I"⟩, method_4_code, 3, some .int)
theorem d_Law_encode_0 : decode method_4_code 0 = .ok (.aload_n 1, 1) := by decide +kernel
theorem d_Law_encode_1 : decode method_4_code 1 = .ok (.iconst 0, 1) := by decide +kernel
theorem d_Law_encode_2 : decode method_4_code 2 = .ok (.aload_n 0, 1) := by decide +kernel
theorem d_Law_encode_3 : decode method_4_code 3 = .ok (.invokevirtual 17, 3) := by decide +kernel
theorem d_Law_encode_6 : decode method_4_code 6 = .ok (.i2l, 1) := by decide +kernel
theorem d_Law_encode_7 : decode method_4_code 7 = .ok (.lastore, 1) := by decide +kernel
theorem d_Law_encode_8 : decode method_4_code 8 = .ok (.goto 6, 3) := by decide +kernel
theorem d_Law_encode_11 : decode method_4_code 11 = .ok (.astore_n 2, 1) := by decide +kernel
theorem d_Law_encode_12 : decode method_4_code 12 = .ok (.iconst 1, 1) := by decide +kernel
theorem d_Law_encode_13 : decode method_4_code 13 = .ok (.ireturn, 1) := by decide +kernel
theorem d_Law_encode_14 : decode method_4_code 14 = .ok (.iconst 0, 1) := by decide +kernel
theorem d_Law_encode_15 : decode method_4_code 15 = .ok (.ireturn, 1) := by decide +kernel
abbrev M_Law_decode : MethodName × ByteArray × Nat × Option FieldType := (⟨"KeyCodecLaw", "decode", "(LKeyCodec;[J)I"⟩, method_5_code, 3, some .int)
theorem d_Law_decode_0 : decode method_5_code 0 = .ok (.aload_n 1, 1) := by decide +kernel
theorem d_Law_decode_1 : decode method_5_code 1 = .ok (.iconst 0, 1) := by decide +kernel
theorem d_Law_decode_2 : decode method_5_code 2 = .ok (.aload_n 0, 1) := by decide +kernel
theorem d_Law_decode_3 : decode method_5_code 3 = .ok (.invokevirtual 21, 3) := by decide +kernel
theorem d_Law_decode_6 : decode method_5_code 6 = .ok (.ifCond .eq 7, 3) := by decide +kernel
theorem d_Law_decode_9 : decode method_5_code 9 = .ok (.lconst 1, 1) := by decide +kernel
theorem d_Law_decode_10 : decode method_5_code 10 = .ok (.goto 4, 3) := by decide +kernel
theorem d_Law_decode_13 : decode method_5_code 13 = .ok (.lconst 0, 1) := by decide +kernel
theorem d_Law_decode_14 : decode method_5_code 14 = .ok (.lastore, 1) := by decide +kernel
theorem d_Law_decode_15 : decode method_5_code 15 = .ok (.goto 9, 3) := by decide +kernel
theorem d_Law_decode_18 : decode method_5_code 18 = .ok (.astore_n 2, 1) := by decide +kernel
theorem d_Law_decode_19 : decode method_5_code 19 = .ok (.iconst 1, 1) := by decide +kernel
theorem d_Law_decode_20 : decode method_5_code 20 = .ok (.ireturn, 1) := by decide +kernel
theorem d_Law_decode_21 : decode method_5_code 21 = .ok (.astore_n 2, 1) := by decide +kernel
theorem d_Law_decode_22 : decode method_5_code 22 = .ok (.iconst 2, 1) := by decide +kernel
theorem d_Law_decode_23 : decode method_5_code 23 = .ok (.ireturn, 1) := by decide +kernel
theorem d_Law_decode_24 : decode method_5_code 24 = .ok (.iconst 0, 1) := by decide +kernel
theorem d_Law_decode_25 : decode method_5_code 25 = .ok (.ireturn, 1) := by decide +kernel
abbrev M_Law_keep : MethodName × ByteArray × Nat × Option FieldType := (⟨"KeyCodecLaw", "keep", "(LKeyCodec;[J)I"⟩, method_6_code, 3, some .int)
theorem d_Law_keep_0 : decode method_6_code 0 = .ok (.aload_n 1, 1) := by decide +kernel
theorem d_Law_keep_1 : decode method_6_code 1 = .ok (.iconst 0, 1) := by decide +kernel
theorem d_Law_keep_2 : decode method_6_code 2 = .ok (.aload_n 0, 1) := by decide +kernel
theorem d_Law_keep_3 : decode method_6_code 3 = .ok (.invokevirtual 25, 3) := by decide +kernel
theorem d_Law_keep_6 : decode method_6_code 6 = .ok (.i2l, 1) := by decide +kernel
theorem d_Law_keep_7 : decode method_6_code 7 = .ok (.lastore, 1) := by decide +kernel
theorem d_Law_keep_8 : decode method_6_code 8 = .ok (.goto 6, 3) := by decide +kernel
theorem d_Law_keep_11 : decode method_6_code 11 = .ok (.astore_n 2, 1) := by decide +kernel
theorem d_Law_keep_12 : decode method_6_code 12 = .ok (.iconst 1, 1) := by decide +kernel
theorem d_Law_keep_13 : decode method_6_code 13 = .ok (.ireturn, 1) := by decide +kernel
theorem d_Law_keep_14 : decode method_6_code 14 = .ok (.iconst 0, 1) := by decide +kernel
theorem d_Law_keep_15 : decode method_6_code 15 = .ok (.ireturn, 1) := by decide +kernel
theorem kb_Kc_field : kCB M_Kc_field 2 := ⟨km 1 (by decide +kernel) (by decide +kernel), km 387 (by decide +kernel) (by decide +kernel), by decide +kernel, by decide +kernel⟩
theorem lg_Law_7 : kCV "KeyCodecLaw" 7 M_Kc_field 2 0 := ⟨kb_Kc_field, km 384 (by decide +kernel) (by decide +kernel), km 385 (by decide +kernel) (by decide +kernel), km 386 (by decide +kernel) (by decide +kernel), (F_Kc, 12), rfl⟩
theorem kb_Kc_encode : kCB M_Kc_encode 0 := ⟨km 1 (by decide +kernel) (by decide +kernel), km 481 (by decide +kernel) (by decide +kernel), by decide +kernel, by decide +kernel⟩
theorem lg_Law_17 : kCV "KeyCodecLaw" 17 M_Kc_encode 0 0 := ⟨kb_Kc_encode, km 478 (by decide +kernel) (by decide +kernel), km 479 (by decide +kernel) (by decide +kernel), km 480 (by decide +kernel) (by decide +kernel), (F_Kc, 12), rfl⟩
theorem kb_Kc_decode : kCB M_Kc_decode 0 := ⟨km 1 (by decide +kernel) (by decide +kernel), km 497 (by decide +kernel) (by decide +kernel), by decide +kernel, by decide +kernel⟩
theorem lg_Law_21 : kCV "KeyCodecLaw" 21 M_Kc_decode 0 0 := ⟨kb_Kc_decode, km 494 (by decide +kernel) (by decide +kernel), km 495 (by decide +kernel) (by decide +kernel), km 496 (by decide +kernel) (by decide +kernel), (F_Kc, 12), rfl⟩
theorem kb_Kc_keep : kCB M_Kc_keep 0 := ⟨km 1 (by decide +kernel) (by decide +kernel), km 580 (by decide +kernel) (by decide +kernel), by decide +kernel, by decide +kernel⟩
theorem lg_Law_25 : kCV "KeyCodecLaw" 25 M_Kc_keep 0 0 := ⟨kb_Kc_keep, km 577 (by decide +kernel) (by decide +kernel), km 578 (by decide +kernel) (by decide +kernel), km 579 (by decide +kernel) (by decide +kernel), (F_Kc, 12), rfl⟩
