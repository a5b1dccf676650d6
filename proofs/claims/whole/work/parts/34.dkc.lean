abbrev M_Kc_init : MethodName × ByteArray × Nat × Option FieldType := (⟨"KeyCodec", "<init>", "()V"⟩, prog_1_method_1_code, 2, none)
theorem d_Kc_init_0 : decode prog_1_method_1_code 0 = .ok (.aload_n 0, 1) := by decide +kernel
theorem d_Kc_init_1 : decode prog_1_method_1_code 1 = .ok (.invokespecial 3, 3) := by decide +kernel
theorem d_Kc_init_4 : decode prog_1_method_1_code 4 = .ok (.aload_n 0, 1) := by decide +kernel
theorem d_Kc_init_5 : decode prog_1_method_1_code 5 = .ok (.new 9, 3) := by decide +kernel
theorem d_Kc_init_8 : decode prog_1_method_1_code 8 = .ok (.dup, 1) := by decide +kernel
theorem d_Kc_init_9 : decode prog_1_method_1_code 9 = .ok (.invokespecial 11, 3) := by decide +kernel
theorem d_Kc_init_12 : decode prog_1_method_1_code 12 = .ok (.putfield 12, 3) := by decide +kernel
theorem d_Kc_init_15 : decode prog_1_method_1_code 15 = .ok (.aload_n 0, 1) := by decide +kernel
theorem d_Kc_init_16 : decode prog_1_method_1_code 16 = .ok (.new 16, 3) := by decide +kernel
theorem d_Kc_init_19 : decode prog_1_method_1_code 19 = .ok (.dup, 1) := by decide +kernel
theorem d_Kc_init_20 : decode prog_1_method_1_code 20 = .ok (.invokespecial 18, 3) := by decide +kernel
theorem d_Kc_init_23 : decode prog_1_method_1_code 23 = .ok (.putfield 19, 3) := by decide +kernel
theorem d_Kc_init_26 : decode prog_1_method_1_code 26 = .ok (.aload_n 0, 1) := by decide +kernel
theorem d_Kc_init_27 : decode prog_1_method_1_code 27 = .ok (.new 16, 3) := by decide +kernel
theorem d_Kc_init_30 : decode prog_1_method_1_code 30 = .ok (.dup, 1) := by decide +kernel
theorem d_Kc_init_31 : decode prog_1_method_1_code 31 = .ok (.invokespecial 18, 3) := by decide +kernel
theorem d_Kc_init_34 : decode prog_1_method_1_code 34 = .ok (.putfield 23, 3) := by decide +kernel
theorem d_Kc_init_37 : decode prog_1_method_1_code 37 = .ok (.aload_n 0, 1) := by decide +kernel
theorem d_Kc_init_38 : decode prog_1_method_1_code 38 = .ok (.new 26, 3) := by decide +kernel
theorem d_Kc_init_41 : decode prog_1_method_1_code 41 = .ok (.dup, 1) := by decide +kernel
theorem d_Kc_init_42 : decode prog_1_method_1_code 42 = .ok (.invokespecial 28, 3) := by decide +kernel
theorem d_Kc_init_45 : decode prog_1_method_1_code 45 = .ok (.putfield 29, 3) := by decide +kernel
theorem d_Kc_init_48 : decode prog_1_method_1_code 48 = .ok (.aload_n 0, 1) := by decide +kernel
theorem d_Kc_init_49 : decode prog_1_method_1_code 49 = .ok (.new 26, 3) := by decide +kernel
theorem d_Kc_init_52 : decode prog_1_method_1_code 52 = .ok (.dup, 1) := by decide +kernel
theorem d_Kc_init_53 : decode prog_1_method_1_code 53 = .ok (.invokespecial 28, 3) := by decide +kernel
theorem d_Kc_init_56 : decode prog_1_method_1_code 56 = .ok (.putfield 33, 3) := by decide +kernel
theorem d_Kc_init_59 : decode prog_1_method_1_code 59 = .ok (.aload_n 0, 1) := by decide +kernel
theorem d_Kc_init_60 : decode prog_1_method_1_code 60 = .ok (.new 26, 3) := by decide +kernel
theorem d_Kc_init_63 : decode prog_1_method_1_code 63 = .ok (.dup, 1) := by decide +kernel
theorem d_Kc_init_64 : decode prog_1_method_1_code 64 = .ok (.invokespecial 28, 3) := by decide +kernel
theorem d_Kc_init_67 : decode prog_1_method_1_code 67 = .ok (.putfield 36, 3) := by decide +kernel
theorem d_Kc_init_70 : decode prog_1_method_1_code 70 = .ok (.aload_n 0, 1) := by decide +kernel
theorem d_Kc_init_71 : decode prog_1_method_1_code 71 = .ok (.bipush 12, 2) := by decide +kernel
theorem d_Kc_init_73 : decode prog_1_method_1_code 73 = .ok (.anewarray 16, 3) := by decide +kernel
theorem d_Kc_init_76 : decode prog_1_method_1_code 76 = .ok (.putfield 39, 3) := by decide +kernel
theorem d_Kc_init_79 : decode prog_1_method_1_code 79 = .ok (.aload_n 0, 1) := by decide +kernel
theorem d_Kc_init_80 : decode prog_1_method_1_code 80 = .ok (.bipush 12, 2) := by decide +kernel
theorem d_Kc_init_82 : decode prog_1_method_1_code 82 = .ok (.anewarray 26, 3) := by decide +kernel
theorem d_Kc_init_85 : decode prog_1_method_1_code 85 = .ok (.putfield 43, 3) := by decide +kernel
theorem d_Kc_init_88 : decode prog_1_method_1_code 88 = .ok (.aload_n 0, 1) := by decide +kernel
theorem d_Kc_init_89 : decode prog_1_method_1_code 89 = .ok (.iconst 0, 1) := by decide +kernel
theorem d_Kc_init_90 : decode prog_1_method_1_code 90 = .ok (.putfield 47, 3) := by decide +kernel
theorem d_Kc_init_93 : decode prog_1_method_1_code 93 = .ok (.aload_n 0, 1) := by decide +kernel
theorem d_Kc_init_94 : decode prog_1_method_1_code 94 = .ok (.new 26, 3) := by decide +kernel
theorem d_Kc_init_97 : decode prog_1_method_1_code 97 = .ok (.dup, 1) := by decide +kernel
theorem d_Kc_init_98 : decode prog_1_method_1_code 98 = .ok (.invokespecial 28, 3) := by decide +kernel
theorem d_Kc_init_101 : decode prog_1_method_1_code 101 = .ok (.putfield 51, 3) := by decide +kernel
theorem d_Kc_init_104 : decode prog_1_method_1_code 104 = .ok (.aload_n 0, 1) := by decide +kernel
theorem d_Kc_init_105 : decode prog_1_method_1_code 105 = .ok (.new 26, 3) := by decide +kernel
theorem d_Kc_init_108 : decode prog_1_method_1_code 108 = .ok (.dup, 1) := by decide +kernel
theorem d_Kc_init_109 : decode prog_1_method_1_code 109 = .ok (.invokespecial 28, 3) := by decide +kernel
theorem d_Kc_init_112 : decode prog_1_method_1_code 112 = .ok (.putfield 54, 3) := by decide +kernel
theorem d_Kc_init_115 : decode prog_1_method_1_code 115 = .ok (.aload_n 0, 1) := by decide +kernel
theorem d_Kc_init_116 : decode prog_1_method_1_code 116 = .ok (.iconst 0, 1) := by decide +kernel
theorem d_Kc_init_117 : decode prog_1_method_1_code 117 = .ok (.putfield 57, 3) := by decide +kernel
theorem d_Kc_init_120 : decode prog_1_method_1_code 120 = .ok (.iconst 0, 1) := by decide +kernel
theorem d_Kc_init_121 : decode prog_1_method_1_code 121 = .ok (.istore_n 1, 1) := by decide +kernel
theorem d_Kc_init_122 : decode prog_1_method_1_code 122 = .ok (.iload_n 1, 1) := by decide +kernel
theorem d_Kc_init_123 : decode prog_1_method_1_code 123 = .ok (.bipush 12, 2) := by decide +kernel
theorem d_Kc_init_125 : decode prog_1_method_1_code 125 = .ok (.if_icmp .ge 35, 3) := by decide +kernel
theorem d_Kc_init_128 : decode prog_1_method_1_code 128 = .ok (.aload_n 0, 1) := by decide +kernel
theorem d_Kc_init_129 : decode prog_1_method_1_code 129 = .ok (.getfield 39, 3) := by decide +kernel
theorem d_Kc_init_132 : decode prog_1_method_1_code 132 = .ok (.iload_n 1, 1) := by decide +kernel
theorem d_Kc_init_133 : decode prog_1_method_1_code 133 = .ok (.new 16, 3) := by decide +kernel
theorem d_Kc_init_136 : decode prog_1_method_1_code 136 = .ok (.dup, 1) := by decide +kernel
theorem d_Kc_init_137 : decode prog_1_method_1_code 137 = .ok (.invokespecial 18, 3) := by decide +kernel
theorem d_Kc_init_140 : decode prog_1_method_1_code 140 = .ok (.aastore, 1) := by decide +kernel
theorem d_Kc_init_141 : decode prog_1_method_1_code 141 = .ok (.aload_n 0, 1) := by decide +kernel
theorem d_Kc_init_142 : decode prog_1_method_1_code 142 = .ok (.getfield 43, 3) := by decide +kernel
theorem d_Kc_init_145 : decode prog_1_method_1_code 145 = .ok (.iload_n 1, 1) := by decide +kernel
theorem d_Kc_init_146 : decode prog_1_method_1_code 146 = .ok (.new 26, 3) := by decide +kernel
theorem d_Kc_init_149 : decode prog_1_method_1_code 149 = .ok (.dup, 1) := by decide +kernel
theorem d_Kc_init_150 : decode prog_1_method_1_code 150 = .ok (.invokespecial 28, 3) := by decide +kernel
theorem d_Kc_init_153 : decode prog_1_method_1_code 153 = .ok (.aastore, 1) := by decide +kernel
theorem d_Kc_init_154 : decode prog_1_method_1_code 154 = .ok (.iinc 1 1, 3) := by decide +kernel
theorem d_Kc_init_157 : decode prog_1_method_1_code 157 = .ok (.goto (-35), 3) := by decide +kernel
theorem d_Kc_init_160 : decode prog_1_method_1_code 160 = .ok (.return_, 1) := by decide +kernel
abbrev M_Kc_field : MethodName × ByteArray × Nat × Option FieldType := (⟨"KeyCodec", "field", "(II)I"⟩, prog_1_method_2_code, 3, some .int)
theorem d_Kc_field_0 : decode prog_1_method_2_code 0 = .ok (.iload_n 1, 1) := by decide +kernel
theorem d_Kc_field_1 : decode prog_1_method_2_code 1 = .ok (.ifCond .lt 18, 3) := by decide +kernel
theorem d_Kc_field_4 : decode prog_1_method_2_code 4 = .ok (.iload_n 1, 1) := by decide +kernel
theorem d_Kc_field_5 : decode prog_1_method_2_code 5 = .ok (.iconst 3, 1) := by decide +kernel
theorem d_Kc_field_6 : decode prog_1_method_2_code 6 = .ok (.if_icmp .gt 13, 3) := by decide +kernel
theorem d_Kc_field_9 : decode prog_1_method_2_code 9 = .ok (.iload_n 2, 1) := by decide +kernel
theorem d_Kc_field_10 : decode prog_1_method_2_code 10 = .ok (.ifCond .lt 9, 3) := by decide +kernel
theorem d_Kc_field_13 : decode prog_1_method_2_code 13 = .ok (.iload_n 2, 1) := by decide +kernel
theorem d_Kc_field_14 : decode prog_1_method_2_code 14 = .ok (.bipush 7, 2) := by decide +kernel
theorem d_Kc_field_16 : decode prog_1_method_2_code 16 = .ok (.if_icmp .le 13, 3) := by decide +kernel
theorem d_Kc_field_19 : decode prog_1_method_2_code 19 = .ok (.new 61, 3) := by decide +kernel
theorem d_Kc_field_22 : decode prog_1_method_2_code 22 = .ok (.dup, 1) := by decide +kernel
theorem d_Kc_field_23 : decode prog_1_method_2_code 23 = .ok (.ldc 63, 2) := by decide +kernel
theorem d_Kc_field_25 : decode prog_1_method_2_code 25 = .ok (.invokespecial 65, 3) := by decide +kernel
theorem d_Kc_field_28 : decode prog_1_method_2_code 28 = .ok (.athrow, 1) := by decide +kernel
theorem d_Kc_field_29 : decode prog_1_method_2_code 29 = .ok (.aload_n 0, 1) := by decide +kernel
theorem d_Kc_field_30 : decode prog_1_method_2_code 30 = .ok (.getfield 12, 3) := by decide +kernel
theorem d_Kc_field_33 : decode prog_1_method_2_code 33 = .ok (.getfield 68, 3) := by decide +kernel
theorem d_Kc_field_36 : decode prog_1_method_2_code 36 = .ok (.ifCond .ne 14, 3) := by decide +kernel
theorem d_Kc_field_39 : decode prog_1_method_2_code 39 = .ok (.aload_n 0, 1) := by decide +kernel
theorem d_Kc_field_40 : decode prog_1_method_2_code 40 = .ok (.getfield 12, 3) := by decide +kernel
theorem d_Kc_field_43 : decode prog_1_method_2_code 43 = .ok (.getfield 71, 3) := by decide +kernel
theorem d_Kc_field_46 : decode prog_1_method_2_code 46 = .ok (.iconst 5, 1) := by decide +kernel
theorem d_Kc_field_47 : decode prog_1_method_2_code 47 = .ok (.if_icmp .lt 13, 3) := by decide +kernel
theorem d_Kc_field_50 : decode prog_1_method_2_code 50 = .ok (.new 74, 3) := by decide +kernel
theorem d_Kc_field_53 : decode prog_1_method_2_code 53 = .ok (.dup, 1) := by decide +kernel
theorem d_Kc_field_54 : decode prog_1_method_2_code 54 = .ok (.ldc 76, 2) := by decide +kernel
theorem d_Kc_field_56 : decode prog_1_method_2_code 56 = .ok (.invokespecial 78, 3) := by decide +kernel
theorem d_Kc_field_59 : decode prog_1_method_2_code 59 = .ok (.athrow, 1) := by decide +kernel
theorem d_Kc_field_60 : decode prog_1_method_2_code 60 = .ok (.aload_n 0, 1) := by decide +kernel
theorem d_Kc_field_61 : decode prog_1_method_2_code 61 = .ok (.getfield 12, 3) := by decide +kernel
theorem d_Kc_field_64 : decode prog_1_method_2_code 64 = .ok (.iload_n 1, 1) := by decide +kernel
theorem d_Kc_field_65 : decode prog_1_method_2_code 65 = .ok (.iload_n 2, 1) := by decide +kernel
theorem d_Kc_field_66 : decode prog_1_method_2_code 66 = .ok (.invokevirtual 79, 3) := by decide +kernel
theorem d_Kc_field_69 : decode prog_1_method_2_code 69 = .ok (.ireturn, 1) := by decide +kernel
abbrev M_Kc_seal : MethodName × ByteArray × Nat × Option FieldType := (⟨"KeyCodec", "seal", "()Z"⟩, prog_1_method_3_code, 1, some .boolean)
theorem d_Kc_seal_0 : decode prog_1_method_3_code 0 = .ok (.aload_n 0, 1) := by decide +kernel
theorem d_Kc_seal_1 : decode prog_1_method_3_code 1 = .ok (.getfield 12, 3) := by decide +kernel
theorem d_Kc_seal_4 : decode prog_1_method_3_code 4 = .ok (.getfield 68, 3) := by decide +kernel
theorem d_Kc_seal_7 : decode prog_1_method_3_code 7 = .ok (.ifCond .ne 13, 3) := by decide +kernel
theorem d_Kc_seal_10 : decode prog_1_method_3_code 10 = .ok (.aload_n 0, 1) := by decide +kernel
theorem d_Kc_seal_11 : decode prog_1_method_3_code 11 = .ok (.getfield 12, 3) := by decide +kernel
theorem d_Kc_seal_14 : decode prog_1_method_3_code 14 = .ok (.getfield 71, 3) := by decide +kernel
theorem d_Kc_seal_17 : decode prog_1_method_3_code 17 = .ok (.ifCond .ne 5, 3) := by decide +kernel
theorem d_Kc_seal_20 : decode prog_1_method_3_code 20 = .ok (.iconst 0, 1) := by decide +kernel
theorem d_Kc_seal_21 : decode prog_1_method_3_code 21 = .ok (.ireturn, 1) := by decide +kernel
theorem d_Kc_seal_22 : decode prog_1_method_3_code 22 = .ok (.aload_n 0, 1) := by decide +kernel
theorem d_Kc_seal_23 : decode prog_1_method_3_code 23 = .ok (.getfield 12, 3) := by decide +kernel
theorem d_Kc_seal_26 : decode prog_1_method_3_code 26 = .ok (.iconst 1, 1) := by decide +kernel
theorem d_Kc_seal_27 : decode prog_1_method_3_code 27 = .ok (.putfield 68, 3) := by decide +kernel
theorem d_Kc_seal_30 : decode prog_1_method_3_code 30 = .ok (.aload_n 0, 1) := by decide +kernel
theorem d_Kc_seal_31 : decode prog_1_method_3_code 31 = .ok (.getfield 19, 3) := by decide +kernel
theorem d_Kc_seal_34 : decode prog_1_method_3_code 34 = .ok (.invokevirtual 83, 3) := by decide +kernel
theorem d_Kc_seal_37 : decode prog_1_method_3_code 37 = .ok (.iconst 1, 1) := by decide +kernel
theorem d_Kc_seal_38 : decode prog_1_method_3_code 38 = .ok (.ireturn, 1) := by decide +kernel
abbrev M_Kc_clear : MethodName × ByteArray × Nat × Option FieldType := (⟨"KeyCodec", "clear", "()V"⟩, prog_1_method_4_code, 1, none)
theorem d_Kc_clear_0 : decode prog_1_method_4_code 0 = .ok (.aload_n 0, 1) := by decide +kernel
theorem d_Kc_clear_1 : decode prog_1_method_4_code 1 = .ok (.getfield 12, 3) := by decide +kernel
theorem d_Kc_clear_4 : decode prog_1_method_4_code 4 = .ok (.invokevirtual 86, 3) := by decide +kernel
theorem d_Kc_clear_7 : decode prog_1_method_4_code 7 = .ok (.aload_n 0, 1) := by decide +kernel
theorem d_Kc_clear_8 : decode prog_1_method_4_code 8 = .ok (.getfield 19, 3) := by decide +kernel
theorem d_Kc_clear_11 : decode prog_1_method_4_code 11 = .ok (.invokevirtual 83, 3) := by decide +kernel
theorem d_Kc_clear_14 : decode prog_1_method_4_code 14 = .ok (.aload_n 0, 1) := by decide +kernel
theorem d_Kc_clear_15 : decode prog_1_method_4_code 15 = .ok (.getfield 29, 3) := by decide +kernel
theorem d_Kc_clear_18 : decode prog_1_method_4_code 18 = .ok (.invokevirtual 87, 3) := by decide +kernel
theorem d_Kc_clear_21 : decode prog_1_method_4_code 21 = .ok (.aload_n 0, 1) := by decide +kernel
theorem d_Kc_clear_22 : decode prog_1_method_4_code 22 = .ok (.iconst 0, 1) := by decide +kernel
theorem d_Kc_clear_23 : decode prog_1_method_4_code 23 = .ok (.putfield 47, 3) := by decide +kernel
theorem d_Kc_clear_26 : decode prog_1_method_4_code 26 = .ok (.return_, 1) := by decide +kernel
abbrev M_Kc_put : MethodName × ByteArray × Nat × Option FieldType := (⟨"KeyCodec", "put", "(IJI)Z"⟩, prog_1_method_5_code, 5, some .boolean)
theorem d_Kc_put_0 : decode prog_1_method_5_code 0 = .ok (.aload_n 0, 1) := by decide +kernel
theorem d_Kc_put_1 : decode prog_1_method_5_code 1 = .ok (.getfield 12, 3) := by decide +kernel
theorem d_Kc_put_4 : decode prog_1_method_5_code 4 = .ok (.iload_n 1, 1) := by decide +kernel
theorem d_Kc_put_5 : decode prog_1_method_5_code 5 = .ok (.invokevirtual 90, 3) := by decide +kernel
theorem d_Kc_put_8 : decode prog_1_method_5_code 8 = .ok (.ifCond .eq 17, 3) := by decide +kernel
theorem d_Kc_put_11 : decode prog_1_method_5_code 11 = .ok (.aload_n 0, 1) := by decide +kernel
theorem d_Kc_put_12 : decode prog_1_method_5_code 12 = .ok (.getfield 12, 3) := by decide +kernel
theorem d_Kc_put_15 : decode prog_1_method_5_code 15 = .ok (.iload_n 1, 1) := by decide +kernel
theorem d_Kc_put_16 : decode prog_1_method_5_code 16 = .ok (.lload_n 2, 1) := by decide +kernel
theorem d_Kc_put_17 : decode prog_1_method_5_code 17 = .ok (.iload 4, 2) := by decide +kernel
theorem d_Kc_put_19 : decode prog_1_method_5_code 19 = .ok (.invokevirtual 94, 3) := by decide +kernel
theorem d_Kc_put_22 : decode prog_1_method_5_code 22 = .ok (.ifCond .ne 5, 3) := by decide +kernel
theorem d_Kc_put_25 : decode prog_1_method_5_code 25 = .ok (.iconst 0, 1) := by decide +kernel
theorem d_Kc_put_26 : decode prog_1_method_5_code 26 = .ok (.ireturn, 1) := by decide +kernel
theorem d_Kc_put_27 : decode prog_1_method_5_code 27 = .ok (.aload_n 0, 1) := by decide +kernel
theorem d_Kc_put_28 : decode prog_1_method_5_code 28 = .ok (.getfield 19, 3) := by decide +kernel
theorem d_Kc_put_31 : decode prog_1_method_5_code 31 = .ok (.getfield 98, 3) := by decide +kernel
theorem d_Kc_put_34 : decode prog_1_method_5_code 34 = .ok (.iload_n 1, 1) := by decide +kernel
theorem d_Kc_put_35 : decode prog_1_method_5_code 35 = .ok (.aaload, 1) := by decide +kernel
theorem d_Kc_put_36 : decode prog_1_method_5_code 36 = .ok (.lload_n 2, 1) := by decide +kernel
theorem d_Kc_put_37 : decode prog_1_method_5_code 37 = .ok (.iload 4, 2) := by decide +kernel
theorem d_Kc_put_39 : decode prog_1_method_5_code 39 = .ok (.invokevirtual 102, 3) := by decide +kernel
theorem d_Kc_put_42 : decode prog_1_method_5_code 42 = .ok (.iconst 1, 1) := by decide +kernel
theorem d_Kc_put_43 : decode prog_1_method_5_code 43 = .ok (.ireturn, 1) := by decide +kernel
abbrev M_Kc_text : MethodName × ByteArray × Nat × Option FieldType := (⟨"KeyCodec", "text", "(II)Z"⟩, prog_1_method_6_code, 3, some .boolean)
theorem d_Kc_text_0 : decode prog_1_method_6_code 0 = .ok (.aload_n 0, 1) := by decide +kernel
theorem d_Kc_text_1 : decode prog_1_method_6_code 1 = .ok (.getfield 12, 3) := by decide +kernel
theorem d_Kc_text_4 : decode prog_1_method_6_code 4 = .ok (.iload_n 1, 1) := by decide +kernel
theorem d_Kc_text_5 : decode prog_1_method_6_code 5 = .ok (.invokevirtual 90, 3) := by decide +kernel
theorem d_Kc_text_8 : decode prog_1_method_6_code 8 = .ok (.ifCond .eq 36, 3) := by decide +kernel
theorem d_Kc_text_11 : decode prog_1_method_6_code 11 = .ok (.aload_n 0, 1) := by decide +kernel
theorem d_Kc_text_12 : decode prog_1_method_6_code 12 = .ok (.getfield 12, 3) := by decide +kernel
theorem d_Kc_text_15 : decode prog_1_method_6_code 15 = .ok (.getfield 108, 3) := by decide +kernel
theorem d_Kc_text_18 : decode prog_1_method_6_code 18 = .ok (.iload_n 1, 1) := by decide +kernel
theorem d_Kc_text_19 : decode prog_1_method_6_code 19 = .ok (.iaload, 1) := by decide +kernel
theorem d_Kc_text_20 : decode prog_1_method_6_code 20 = .ok (.iconst 2, 1) := by decide +kernel
theorem d_Kc_text_21 : decode prog_1_method_6_code 21 = .ok (.if_icmp .ne 23, 3) := by decide +kernel
theorem d_Kc_text_24 : decode prog_1_method_6_code 24 = .ok (.aload_n 0, 1) := by decide +kernel
theorem d_Kc_text_25 : decode prog_1_method_6_code 25 = .ok (.getfield 19, 3) := by decide +kernel
theorem d_Kc_text_28 : decode prog_1_method_6_code 28 = .ok (.getfield 98, 3) := by decide +kernel
theorem d_Kc_text_31 : decode prog_1_method_6_code 31 = .ok (.iload_n 1, 1) := by decide +kernel
theorem d_Kc_text_32 : decode prog_1_method_6_code 32 = .ok (.aaload, 1) := by decide +kernel
theorem d_Kc_text_33 : decode prog_1_method_6_code 33 = .ok (.iload_n 2, 1) := by decide +kernel
theorem d_Kc_text_34 : decode prog_1_method_6_code 34 = .ok (.invokevirtual 112, 3) := by decide +kernel
theorem d_Kc_text_37 : decode prog_1_method_6_code 37 = .ok (.ifCond .eq 7, 3) := by decide +kernel
theorem d_Kc_text_40 : decode prog_1_method_6_code 40 = .ok (.iconst 1, 1) := by decide +kernel
theorem d_Kc_text_41 : decode prog_1_method_6_code 41 = .ok (.goto 4, 3) := by decide +kernel
theorem d_Kc_text_44 : decode prog_1_method_6_code 44 = .ok (.iconst 0, 1) := by decide +kernel
theorem d_Kc_text_45 : decode prog_1_method_6_code 45 = .ok (.ireturn, 1) := by decide +kernel
abbrev M_Kc_absent : MethodName × ByteArray × Nat × Option FieldType := (⟨"KeyCodec", "absent", "(I)Z"⟩, prog_1_method_7_code, 2, some .boolean)
theorem d_Kc_absent_0 : decode prog_1_method_7_code 0 = .ok (.aload_n 0, 1) := by decide +kernel
theorem d_Kc_absent_1 : decode prog_1_method_7_code 1 = .ok (.getfield 12, 3) := by decide +kernel
theorem d_Kc_absent_4 : decode prog_1_method_7_code 4 = .ok (.iload_n 1, 1) := by decide +kernel
theorem d_Kc_absent_5 : decode prog_1_method_7_code 5 = .ok (.invokevirtual 90, 3) := by decide +kernel
theorem d_Kc_absent_8 : decode prog_1_method_7_code 8 = .ok (.ifCond .eq 15, 3) := by decide +kernel
theorem d_Kc_absent_11 : decode prog_1_method_7_code 11 = .ok (.aload_n 0, 1) := by decide +kernel
theorem d_Kc_absent_12 : decode prog_1_method_7_code 12 = .ok (.getfield 12, 3) := by decide +kernel
theorem d_Kc_absent_15 : decode prog_1_method_7_code 15 = .ok (.iload_n 1, 1) := by decide +kernel
theorem d_Kc_absent_16 : decode prog_1_method_7_code 16 = .ok (.iconst 2, 1) := by decide +kernel
theorem d_Kc_absent_17 : decode prog_1_method_7_code 17 = .ok (.invokevirtual 114, 3) := by decide +kernel
theorem d_Kc_absent_20 : decode prog_1_method_7_code 20 = .ok (.ifCond .ne 5, 3) := by decide +kernel
theorem d_Kc_absent_23 : decode prog_1_method_7_code 23 = .ok (.iconst 0, 1) := by decide +kernel
theorem d_Kc_absent_24 : decode prog_1_method_7_code 24 = .ok (.ireturn, 1) := by decide +kernel
theorem d_Kc_absent_25 : decode prog_1_method_7_code 25 = .ok (.aload_n 0, 1) := by decide +kernel
theorem d_Kc_absent_26 : decode prog_1_method_7_code 26 = .ok (.getfield 19, 3) := by decide +kernel
theorem d_Kc_absent_29 : decode prog_1_method_7_code 29 = .ok (.getfield 98, 3) := by decide +kernel
theorem d_Kc_absent_32 : decode prog_1_method_7_code 32 = .ok (.iload_n 1, 1) := by decide +kernel
theorem d_Kc_absent_33 : decode prog_1_method_7_code 33 = .ok (.aaload, 1) := by decide +kernel
theorem d_Kc_absent_34 : decode prog_1_method_7_code 34 = .ok (.invokevirtual 118, 3) := by decide +kernel
theorem d_Kc_absent_37 : decode prog_1_method_7_code 37 = .ok (.iconst 1, 1) := by decide +kernel
theorem d_Kc_absent_38 : decode prog_1_method_7_code 38 = .ok (.ireturn, 1) := by decide +kernel
abbrev M_Kc_get : MethodName × ByteArray × Nat × Option FieldType := (⟨"KeyCodec", "get", "(II)J"⟩, prog_1_method_8_code, 4, some .long)
theorem d_Kc_get_0 : decode prog_1_method_8_code 0 = .ok (.aload_n 0, 1) := by decide +kernel
theorem d_Kc_get_1 : decode prog_1_method_8_code 1 = .ok (.getfield 12, 3) := by decide +kernel
theorem d_Kc_get_4 : decode prog_1_method_8_code 4 = .ok (.iload_n 1, 1) := by decide +kernel
theorem d_Kc_get_5 : decode prog_1_method_8_code 5 = .ok (.invokevirtual 90, 3) := by decide +kernel
theorem d_Kc_get_8 : decode prog_1_method_8_code 8 = .ok (.ifCond .eq 7, 3) := by decide +kernel
theorem d_Kc_get_11 : decode prog_1_method_8_code 11 = .ok (.iload_n 2, 1) := by decide +kernel
theorem d_Kc_get_12 : decode prog_1_method_8_code 12 = .ok (.ifCond .ge 7, 3) := by decide +kernel
theorem d_Kc_get_15 : decode prog_1_method_8_code 15 = .ok (.ldc2_w 121, 3) := by decide +kernel
theorem d_Kc_get_18 : decode prog_1_method_8_code 18 = .ok (.lreturn, 1) := by decide +kernel
theorem d_Kc_get_19 : decode prog_1_method_8_code 19 = .ok (.aload_n 0, 1) := by decide +kernel
theorem d_Kc_get_20 : decode prog_1_method_8_code 20 = .ok (.getfield 19, 3) := by decide +kernel
theorem d_Kc_get_23 : decode prog_1_method_8_code 23 = .ok (.getfield 98, 3) := by decide +kernel
theorem d_Kc_get_26 : decode prog_1_method_8_code 26 = .ok (.iload_n 1, 1) := by decide +kernel
theorem d_Kc_get_27 : decode prog_1_method_8_code 27 = .ok (.aaload, 1) := by decide +kernel
theorem d_Kc_get_28 : decode prog_1_method_8_code 28 = .ok (.astore_n 3, 1) := by decide +kernel
theorem d_Kc_get_29 : decode prog_1_method_8_code 29 = .ok (.iload_n 2, 1) := by decide +kernel
theorem d_Kc_get_30 : decode prog_1_method_8_code 30 = .ok (.tableswitch 71 0 2 #[26, 39, 65], 26) := by decide +kernel
theorem d_Kc_get_56 : decode prog_1_method_8_code 56 = .ok (.aload_n 3, 1) := by decide +kernel
theorem d_Kc_get_57 : decode prog_1_method_8_code 57 = .ok (.getfield 123, 3) := by decide +kernel
theorem d_Kc_get_60 : decode prog_1_method_8_code 60 = .ok (.ifCond .eq 7, 3) := by decide +kernel
theorem d_Kc_get_63 : decode prog_1_method_8_code 63 = .ok (.lconst 1, 1) := by decide +kernel
theorem d_Kc_get_64 : decode prog_1_method_8_code 64 = .ok (.goto 4, 3) := by decide +kernel
theorem d_Kc_get_67 : decode prog_1_method_8_code 67 = .ok (.lconst 0, 1) := by decide +kernel
theorem d_Kc_get_68 : decode prog_1_method_8_code 68 = .ok (.lreturn, 1) := by decide +kernel
theorem d_Kc_get_69 : decode prog_1_method_8_code 69 = .ok (.aload_n 0, 1) := by decide +kernel
theorem d_Kc_get_70 : decode prog_1_method_8_code 70 = .ok (.getfield 12, 3) := by decide +kernel
theorem d_Kc_get_73 : decode prog_1_method_8_code 73 = .ok (.getfield 108, 3) := by decide +kernel
theorem d_Kc_get_76 : decode prog_1_method_8_code 76 = .ok (.iload_n 1, 1) := by decide +kernel
theorem d_Kc_get_77 : decode prog_1_method_8_code 77 = .ok (.iaload, 1) := by decide +kernel
theorem d_Kc_get_78 : decode prog_1_method_8_code 78 = .ok (.iconst 2, 1) := by decide +kernel
theorem d_Kc_get_79 : decode prog_1_method_8_code 79 = .ok (.if_icmp .ne 11, 3) := by decide +kernel
theorem d_Kc_get_82 : decode prog_1_method_8_code 82 = .ok (.aload_n 3, 1) := by decide +kernel
theorem d_Kc_get_83 : decode prog_1_method_8_code 83 = .ok (.getfield 126, 3) := by decide +kernel
theorem d_Kc_get_86 : decode prog_1_method_8_code 86 = .ok (.i2l, 1) := by decide +kernel
theorem d_Kc_get_87 : decode prog_1_method_8_code 87 = .ok (.goto 7, 3) := by decide +kernel
theorem d_Kc_get_90 : decode prog_1_method_8_code 90 = .ok (.aload_n 3, 1) := by decide +kernel
theorem d_Kc_get_91 : decode prog_1_method_8_code 91 = .ok (.getfield 129, 3) := by decide +kernel
theorem d_Kc_get_94 : decode prog_1_method_8_code 94 = .ok (.lreturn, 1) := by decide +kernel
theorem d_Kc_get_95 : decode prog_1_method_8_code 95 = .ok (.aload_n 3, 1) := by decide +kernel
theorem d_Kc_get_96 : decode prog_1_method_8_code 96 = .ok (.getfield 133, 3) := by decide +kernel
theorem d_Kc_get_99 : decode prog_1_method_8_code 99 = .ok (.i2l, 1) := by decide +kernel
theorem d_Kc_get_100 : decode prog_1_method_8_code 100 = .ok (.lreturn, 1) := by decide +kernel
theorem d_Kc_get_101 : decode prog_1_method_8_code 101 = .ok (.aload_n 3, 1) := by decide +kernel
theorem d_Kc_get_102 : decode prog_1_method_8_code 102 = .ok (.iload_n 2, 1) := by decide +kernel
theorem d_Kc_get_103 : decode prog_1_method_8_code 103 = .ok (.iconst 3, 1) := by decide +kernel
theorem d_Kc_get_104 : decode prog_1_method_8_code 104 = .ok (.isub, 1) := by decide +kernel
theorem d_Kc_get_105 : decode prog_1_method_8_code 105 = .ok (.invokevirtual 136, 3) := by decide +kernel
theorem d_Kc_get_108 : decode prog_1_method_8_code 108 = .ok (.i2l, 1) := by decide +kernel
theorem d_Kc_get_109 : decode prog_1_method_8_code 109 = .ok (.lreturn, 1) := by decide +kernel
abbrev M_Kc_encode : MethodName × ByteArray × Nat × Option FieldType := (⟨"KeyCodec", "encode", "()I"⟩, prog_1_method_9_code, 1, some .int)
theorem d_Kc_encode_0 : decode prog_1_method_9_code 0 = .ok (.aload_n 0, 1) := by decide +kernel
theorem d_Kc_encode_1 : decode prog_1_method_9_code 1 = .ok (.getfield 12, 3) := by decide +kernel
theorem d_Kc_encode_4 : decode prog_1_method_9_code 4 = .ok (.getfield 68, 3) := by decide +kernel
theorem d_Kc_encode_7 : decode prog_1_method_9_code 7 = .ok (.ifCond .ne 13, 3) := by decide +kernel
theorem d_Kc_encode_10 : decode prog_1_method_9_code 10 = .ok (.new 74, 3) := by decide +kernel
theorem d_Kc_encode_13 : decode prog_1_method_9_code 13 = .ok (.dup, 1) := by decide +kernel
theorem d_Kc_encode_14 : decode prog_1_method_9_code 14 = .ok (.ldc 140, 2) := by decide +kernel
theorem d_Kc_encode_16 : decode prog_1_method_9_code 16 = .ok (.invokespecial 78, 3) := by decide +kernel
theorem d_Kc_encode_19 : decode prog_1_method_9_code 19 = .ok (.athrow, 1) := by decide +kernel
theorem d_Kc_encode_20 : decode prog_1_method_9_code 20 = .ok (.aload_n 0, 1) := by decide +kernel
theorem d_Kc_encode_21 : decode prog_1_method_9_code 21 = .ok (.getfield 12, 3) := by decide +kernel
theorem d_Kc_encode_24 : decode prog_1_method_9_code 24 = .ok (.aload_n 0, 1) := by decide +kernel
theorem d_Kc_encode_25 : decode prog_1_method_9_code 25 = .ok (.getfield 19, 3) := by decide +kernel
theorem d_Kc_encode_28 : decode prog_1_method_9_code 28 = .ok (.aload_n 0, 1) := by decide +kernel
theorem d_Kc_encode_29 : decode prog_1_method_9_code 29 = .ok (.getfield 29, 3) := by decide +kernel
theorem d_Kc_encode_32 : decode prog_1_method_9_code 32 = .ok (.invokestatic 142, 3) := by decide +kernel
theorem d_Kc_encode_35 : decode prog_1_method_9_code 35 = .ok (.aload_n 0, 1) := by decide +kernel
theorem d_Kc_encode_36 : decode prog_1_method_9_code 36 = .ok (.getfield 29, 3) := by decide +kernel
theorem d_Kc_encode_39 : decode prog_1_method_9_code 39 = .ok (.getfield 148, 3) := by decide +kernel
theorem d_Kc_encode_42 : decode prog_1_method_9_code 42 = .ok (.ireturn, 1) := by decide +kernel
abbrev M_Kc_load : MethodName × ByteArray × Nat × Option FieldType := (⟨"KeyCodec", "load", "(IJ)Z"⟩, prog_1_method_10_code, 4, some .boolean)
theorem d_Kc_load_0 : decode prog_1_method_10_code 0 = .ok (.iload_n 1, 1) := by decide +kernel
theorem d_Kc_load_1 : decode prog_1_method_10_code 1 = .ok (.iconst 1, 1) := by decide +kernel
theorem d_Kc_load_2 : decode prog_1_method_10_code 2 = .ok (.if_icmp .lt 20, 3) := by decide +kernel
theorem d_Kc_load_5 : decode prog_1_method_10_code 5 = .ok (.iload_n 1, 1) := by decide +kernel
theorem d_Kc_load_6 : decode prog_1_method_10_code 6 = .ok (.bipush 8, 2) := by decide +kernel
theorem d_Kc_load_8 : decode prog_1_method_10_code 8 = .ok (.if_icmp .gt 14, 3) := by decide +kernel
theorem d_Kc_load_11 : decode prog_1_method_10_code 11 = .ok (.aload_n 0, 1) := by decide +kernel
theorem d_Kc_load_12 : decode prog_1_method_10_code 12 = .ok (.getfield 29, 3) := by decide +kernel
theorem d_Kc_load_15 : decode prog_1_method_10_code 15 = .ok (.iload_n 1, 1) := by decide +kernel
theorem d_Kc_load_16 : decode prog_1_method_10_code 16 = .ok (.invokevirtual 149, 3) := by decide +kernel
theorem d_Kc_load_19 : decode prog_1_method_10_code 19 = .ok (.ifCond .ne 5, 3) := by decide +kernel
theorem d_Kc_load_22 : decode prog_1_method_10_code 22 = .ok (.iconst 0, 1) := by decide +kernel
theorem d_Kc_load_23 : decode prog_1_method_10_code 23 = .ok (.ireturn, 1) := by decide +kernel
theorem d_Kc_load_24 : decode prog_1_method_10_code 24 = .ok (.aload_n 0, 1) := by decide +kernel
theorem d_Kc_load_25 : decode prog_1_method_10_code 25 = .ok (.getfield 29, 3) := by decide +kernel
theorem d_Kc_load_28 : decode prog_1_method_10_code 28 = .ok (.iload_n 1, 1) := by decide +kernel
theorem d_Kc_load_29 : decode prog_1_method_10_code 29 = .ok (.lload_n 2, 1) := by decide +kernel
theorem d_Kc_load_30 : decode prog_1_method_10_code 30 = .ok (.iconst 0, 1) := by decide +kernel
theorem d_Kc_load_31 : decode prog_1_method_10_code 31 = .ok (.invokevirtual 152, 3) := by decide +kernel
theorem d_Kc_load_34 : decode prog_1_method_10_code 34 = .ok (.iconst 1, 1) := by decide +kernel
theorem d_Kc_load_35 : decode prog_1_method_10_code 35 = .ok (.ireturn, 1) := by decide +kernel
abbrev M_Kc_clearKey : MethodName × ByteArray × Nat × Option FieldType := (⟨"KeyCodec", "clearKey", "()V"⟩, prog_1_method_11_code, 1, none)
theorem d_Kc_clearKey_0 : decode prog_1_method_11_code 0 = .ok (.aload_n 0, 1) := by decide +kernel
theorem d_Kc_clearKey_1 : decode prog_1_method_11_code 1 = .ok (.getfield 29, 3) := by decide +kernel
theorem d_Kc_clearKey_4 : decode prog_1_method_11_code 4 = .ok (.invokevirtual 87, 3) := by decide +kernel
theorem d_Kc_clearKey_7 : decode prog_1_method_11_code 7 = .ok (.return_, 1) := by decide +kernel
abbrev M_Kc_key : MethodName × ByteArray × Nat × Option FieldType := (⟨"KeyCodec", "key", "(I)I"⟩, prog_1_method_12_code, 2, some .int)
theorem d_Kc_key_0 : decode prog_1_method_12_code 0 = .ok (.iload_n 1, 1) := by decide +kernel
theorem d_Kc_key_1 : decode prog_1_method_12_code 1 = .ok (.iconst (-1), 1) := by decide +kernel
theorem d_Kc_key_2 : decode prog_1_method_12_code 2 = .ok (.if_icmp .ne 13, 3) := by decide +kernel
theorem d_Kc_key_5 : decode prog_1_method_12_code 5 = .ok (.aload_n 0, 1) := by decide +kernel
theorem d_Kc_key_6 : decode prog_1_method_12_code 6 = .ok (.getfield 29, 3) := by decide +kernel
theorem d_Kc_key_9 : decode prog_1_method_12_code 9 = .ok (.getfield 148, 3) := by decide +kernel
theorem d_Kc_key_12 : decode prog_1_method_12_code 12 = .ok (.goto 11, 3) := by decide +kernel
theorem d_Kc_key_15 : decode prog_1_method_12_code 15 = .ok (.aload_n 0, 1) := by decide +kernel
theorem d_Kc_key_16 : decode prog_1_method_12_code 16 = .ok (.getfield 29, 3) := by decide +kernel
theorem d_Kc_key_19 : decode prog_1_method_12_code 19 = .ok (.iload_n 1, 1) := by decide +kernel
theorem d_Kc_key_20 : decode prog_1_method_12_code 20 = .ok (.invokevirtual 156, 3) := by decide +kernel
theorem d_Kc_key_23 : decode prog_1_method_12_code 23 = .ok (.ireturn, 1) := by decide +kernel
abbrev M_Kc_decode : MethodName × ByteArray × Nat × Option FieldType := (⟨"KeyCodec", "decode", "()Z"⟩, prog_1_method_13_code, 2, some .boolean)
theorem d_Kc_decode_0 : decode prog_1_method_13_code 0 = .ok (.aload_n 0, 1) := by decide +kernel
theorem d_Kc_decode_1 : decode prog_1_method_13_code 1 = .ok (.getfield 12, 3) := by decide +kernel
theorem d_Kc_decode_4 : decode prog_1_method_13_code 4 = .ok (.getfield 68, 3) := by decide +kernel
theorem d_Kc_decode_7 : decode prog_1_method_13_code 7 = .ok (.ifCond .ne 13, 3) := by decide +kernel
theorem d_Kc_decode_10 : decode prog_1_method_13_code 10 = .ok (.new 74, 3) := by decide +kernel
theorem d_Kc_decode_13 : decode prog_1_method_13_code 13 = .ok (.dup, 1) := by decide +kernel
theorem d_Kc_decode_14 : decode prog_1_method_13_code 14 = .ok (.ldc 140, 2) := by decide +kernel
theorem d_Kc_decode_16 : decode prog_1_method_13_code 16 = .ok (.invokespecial 78, 3) := by decide +kernel
theorem d_Kc_decode_19 : decode prog_1_method_13_code 19 = .ok (.athrow, 1) := by decide +kernel
theorem d_Kc_decode_20 : decode prog_1_method_13_code 20 = .ok (.new 157, 3) := by decide +kernel
theorem d_Kc_decode_23 : decode prog_1_method_13_code 23 = .ok (.dup, 1) := by decide +kernel
theorem d_Kc_decode_24 : decode prog_1_method_13_code 24 = .ok (.aload_n 0, 1) := by decide +kernel
theorem d_Kc_decode_25 : decode prog_1_method_13_code 25 = .ok (.getfield 12, 3) := by decide +kernel
theorem d_Kc_decode_28 : decode prog_1_method_13_code 28 = .ok (.aload_n 0, 1) := by decide +kernel
theorem d_Kc_decode_29 : decode prog_1_method_13_code 29 = .ok (.getfield 29, 3) := by decide +kernel
theorem d_Kc_decode_32 : decode prog_1_method_13_code 32 = .ok (.invokespecial 159, 3) := by decide +kernel
theorem d_Kc_decode_35 : decode prog_1_method_13_code 35 = .ok (.aload_n 0, 1) := by decide +kernel
theorem d_Kc_decode_36 : decode prog_1_method_13_code 36 = .ok (.getfield 23, 3) := by decide +kernel
theorem d_Kc_decode_39 : decode prog_1_method_13_code 39 = .ok (.invokevirtual 162, 3) := by decide +kernel
theorem d_Kc_decode_42 : decode prog_1_method_13_code 42 = .ok (.istore_n 1, 1) := by decide +kernel
theorem d_Kc_decode_43 : decode prog_1_method_13_code 43 = .ok (.iload_n 1, 1) := by decide +kernel
theorem d_Kc_decode_44 : decode prog_1_method_13_code 44 = .ok (.ifCond .eq 38, 3) := by decide +kernel
theorem d_Kc_decode_47 : decode prog_1_method_13_code 47 = .ok (.aload_n 0, 1) := by decide +kernel
theorem d_Kc_decode_48 : decode prog_1_method_13_code 48 = .ok (.getfield 12, 3) := by decide +kernel
theorem d_Kc_decode_51 : decode prog_1_method_13_code 51 = .ok (.aload_n 0, 1) := by decide +kernel
theorem d_Kc_decode_52 : decode prog_1_method_13_code 52 = .ok (.getfield 23, 3) := by decide +kernel
theorem d_Kc_decode_55 : decode prog_1_method_13_code 55 = .ok (.aload_n 0, 1) := by decide +kernel
theorem d_Kc_decode_56 : decode prog_1_method_13_code 56 = .ok (.getfield 33, 3) := by decide +kernel
theorem d_Kc_decode_59 : decode prog_1_method_13_code 59 = .ok (.invokestatic 142, 3) := by decide +kernel
theorem d_Kc_decode_62 : decode prog_1_method_13_code 62 = .ok (.aload_n 0, 1) := by decide +kernel
theorem d_Kc_decode_63 : decode prog_1_method_13_code 63 = .ok (.getfield 33, 3) := by decide +kernel
theorem d_Kc_decode_66 : decode prog_1_method_13_code 66 = .ok (.aload_n 0, 1) := by decide +kernel
theorem d_Kc_decode_67 : decode prog_1_method_13_code 67 = .ok (.getfield 29, 3) := by decide +kernel
theorem d_Kc_decode_70 : decode prog_1_method_13_code 70 = .ok (.invokevirtual 166, 3) := by decide +kernel
theorem d_Kc_decode_73 : decode prog_1_method_13_code 73 = .ok (.ifCond .ne 7, 3) := by decide +kernel
theorem d_Kc_decode_76 : decode prog_1_method_13_code 76 = .ok (.iconst 1, 1) := by decide +kernel
theorem d_Kc_decode_77 : decode prog_1_method_13_code 77 = .ok (.goto 4, 3) := by decide +kernel
theorem d_Kc_decode_80 : decode prog_1_method_13_code 80 = .ok (.iconst 0, 1) := by decide +kernel
theorem d_Kc_decode_81 : decode prog_1_method_13_code 81 = .ok (.istore_n 1, 1) := by decide +kernel
theorem d_Kc_decode_82 : decode prog_1_method_13_code 82 = .ok (.iload_n 1, 1) := by decide +kernel
theorem d_Kc_decode_83 : decode prog_1_method_13_code 83 = .ok (.ifCond .ne 13, 3) := by decide +kernel
theorem d_Kc_decode_86 : decode prog_1_method_13_code 86 = .ok (.new 61, 3) := by decide +kernel
theorem d_Kc_decode_89 : decode prog_1_method_13_code 89 = .ok (.dup, 1) := by decide +kernel
theorem d_Kc_decode_90 : decode prog_1_method_13_code 90 = .ok (.ldc 170, 2) := by decide +kernel
theorem d_Kc_decode_92 : decode prog_1_method_13_code 92 = .ok (.invokespecial 65, 3) := by decide +kernel
theorem d_Kc_decode_95 : decode prog_1_method_13_code 95 = .ok (.athrow, 1) := by decide +kernel
theorem d_Kc_decode_96 : decode prog_1_method_13_code 96 = .ok (.aload_n 0, 1) := by decide +kernel
theorem d_Kc_decode_97 : decode prog_1_method_13_code 97 = .ok (.getfield 19, 3) := by decide +kernel
theorem d_Kc_decode_100 : decode prog_1_method_13_code 100 = .ok (.aload_n 0, 1) := by decide +kernel
theorem d_Kc_decode_101 : decode prog_1_method_13_code 101 = .ok (.getfield 23, 3) := by decide +kernel
theorem d_Kc_decode_104 : decode prog_1_method_13_code 104 = .ok (.invokevirtual 172, 3) := by decide +kernel
theorem d_Kc_decode_107 : decode prog_1_method_13_code 107 = .ok (.iconst 1, 1) := by decide +kernel
theorem d_Kc_decode_108 : decode prog_1_method_13_code 108 = .ok (.ireturn, 1) := by decide +kernel
abbrev M_Kc_keep : MethodName × ByteArray × Nat × Option FieldType := (⟨"KeyCodec", "keep", "()I"⟩, prog_1_method_14_code, 2, some .int)
theorem d_Kc_keep_0 : decode prog_1_method_14_code 0 = .ok (.aload_n 0, 1) := by decide +kernel
theorem d_Kc_keep_1 : decode prog_1_method_14_code 1 = .ok (.getfield 12, 3) := by decide +kernel
theorem d_Kc_keep_4 : decode prog_1_method_14_code 4 = .ok (.getfield 68, 3) := by decide +kernel
theorem d_Kc_keep_7 : decode prog_1_method_14_code 7 = .ok (.ifCond .eq 12, 3) := by decide +kernel
theorem d_Kc_keep_10 : decode prog_1_method_14_code 10 = .ok (.aload_n 0, 1) := by decide +kernel
theorem d_Kc_keep_11 : decode prog_1_method_14_code 11 = .ok (.getfield 47, 3) := by decide +kernel
theorem d_Kc_keep_14 : decode prog_1_method_14_code 14 = .ok (.bipush 12, 2) := by decide +kernel
theorem d_Kc_keep_16 : decode prog_1_method_14_code 16 = .ok (.if_icmp .lt 13, 3) := by decide +kernel
theorem d_Kc_keep_19 : decode prog_1_method_14_code 19 = .ok (.new 74, 3) := by decide +kernel
theorem d_Kc_keep_22 : decode prog_1_method_14_code 22 = .ok (.dup, 1) := by decide +kernel
theorem d_Kc_keep_23 : decode prog_1_method_14_code 23 = .ok (.ldc 175, 2) := by decide +kernel
theorem d_Kc_keep_25 : decode prog_1_method_14_code 25 = .ok (.invokespecial 78, 3) := by decide +kernel
theorem d_Kc_keep_28 : decode prog_1_method_14_code 28 = .ok (.athrow, 1) := by decide +kernel
theorem d_Kc_keep_29 : decode prog_1_method_14_code 29 = .ok (.aload_n 0, 1) := by decide +kernel
theorem d_Kc_keep_30 : decode prog_1_method_14_code 30 = .ok (.getfield 47, 3) := by decide +kernel
theorem d_Kc_keep_33 : decode prog_1_method_14_code 33 = .ok (.istore_n 1, 1) := by decide +kernel
theorem d_Kc_keep_34 : decode prog_1_method_14_code 34 = .ok (.aload_n 0, 1) := by decide +kernel
theorem d_Kc_keep_35 : decode prog_1_method_14_code 35 = .ok (.getfield 39, 3) := by decide +kernel
theorem d_Kc_keep_38 : decode prog_1_method_14_code 38 = .ok (.iload_n 1, 1) := by decide +kernel
theorem d_Kc_keep_39 : decode prog_1_method_14_code 39 = .ok (.aaload, 1) := by decide +kernel
theorem d_Kc_keep_40 : decode prog_1_method_14_code 40 = .ok (.aload_n 0, 1) := by decide +kernel
theorem d_Kc_keep_41 : decode prog_1_method_14_code 41 = .ok (.getfield 19, 3) := by decide +kernel
theorem d_Kc_keep_44 : decode prog_1_method_14_code 44 = .ok (.invokevirtual 172, 3) := by decide +kernel
theorem d_Kc_keep_47 : decode prog_1_method_14_code 47 = .ok (.aload_n 0, 1) := by decide +kernel
theorem d_Kc_keep_48 : decode prog_1_method_14_code 48 = .ok (.getfield 12, 3) := by decide +kernel
theorem d_Kc_keep_51 : decode prog_1_method_14_code 51 = .ok (.aload_n 0, 1) := by decide +kernel
theorem d_Kc_keep_52 : decode prog_1_method_14_code 52 = .ok (.getfield 19, 3) := by decide +kernel
theorem d_Kc_keep_55 : decode prog_1_method_14_code 55 = .ok (.aload_n 0, 1) := by decide +kernel
theorem d_Kc_keep_56 : decode prog_1_method_14_code 56 = .ok (.getfield 43, 3) := by decide +kernel
theorem d_Kc_keep_59 : decode prog_1_method_14_code 59 = .ok (.iload_n 1, 1) := by decide +kernel
theorem d_Kc_keep_60 : decode prog_1_method_14_code 60 = .ok (.aaload, 1) := by decide +kernel
theorem d_Kc_keep_61 : decode prog_1_method_14_code 61 = .ok (.invokestatic 142, 3) := by decide +kernel
theorem d_Kc_keep_64 : decode prog_1_method_14_code 64 = .ok (.aload_n 0, 1) := by decide +kernel
theorem d_Kc_keep_65 : decode prog_1_method_14_code 65 = .ok (.dup, 1) := by decide +kernel
theorem d_Kc_keep_66 : decode prog_1_method_14_code 66 = .ok (.getfield 47, 3) := by decide +kernel
theorem d_Kc_keep_69 : decode prog_1_method_14_code 69 = .ok (.iconst 1, 1) := by decide +kernel
theorem d_Kc_keep_70 : decode prog_1_method_14_code 70 = .ok (.iadd, 1) := by decide +kernel
theorem d_Kc_keep_71 : decode prog_1_method_14_code 71 = .ok (.putfield 47, 3) := by decide +kernel
theorem d_Kc_keep_74 : decode prog_1_method_14_code 74 = .ok (.iload_n 1, 1) := by decide +kernel
theorem d_Kc_keep_75 : decode prog_1_method_14_code 75 = .ok (.ireturn, 1) := by decide +kernel
abbrev M_Kc_take : MethodName × ByteArray × Nat × Option FieldType := (⟨"KeyCodec", "take", "(I)Z"⟩, prog_1_method_15_code, 2, some .boolean)
theorem d_Kc_take_0 : decode prog_1_method_15_code 0 = .ok (.aload_n 0, 1) := by decide +kernel
theorem d_Kc_take_1 : decode prog_1_method_15_code 1 = .ok (.iload_n 1, 1) := by decide +kernel
theorem d_Kc_take_2 : decode prog_1_method_15_code 2 = .ok (.invokevirtual 177, 3) := by decide +kernel
theorem d_Kc_take_5 : decode prog_1_method_15_code 5 = .ok (.ifCond .ne 5, 3) := by decide +kernel
theorem d_Kc_take_8 : decode prog_1_method_15_code 8 = .ok (.iconst 0, 1) := by decide +kernel
theorem d_Kc_take_9 : decode prog_1_method_15_code 9 = .ok (.ireturn, 1) := by decide +kernel
theorem d_Kc_take_10 : decode prog_1_method_15_code 10 = .ok (.aload_n 0, 1) := by decide +kernel
theorem d_Kc_take_11 : decode prog_1_method_15_code 11 = .ok (.getfield 19, 3) := by decide +kernel
theorem d_Kc_take_14 : decode prog_1_method_15_code 14 = .ok (.aload_n 0, 1) := by decide +kernel
theorem d_Kc_take_15 : decode prog_1_method_15_code 15 = .ok (.getfield 39, 3) := by decide +kernel
theorem d_Kc_take_18 : decode prog_1_method_15_code 18 = .ok (.iload_n 1, 1) := by decide +kernel
theorem d_Kc_take_19 : decode prog_1_method_15_code 19 = .ok (.aaload, 1) := by decide +kernel
theorem d_Kc_take_20 : decode prog_1_method_15_code 20 = .ok (.invokevirtual 172, 3) := by decide +kernel
theorem d_Kc_take_23 : decode prog_1_method_15_code 23 = .ok (.iconst 1, 1) := by decide +kernel
theorem d_Kc_take_24 : decode prog_1_method_15_code 24 = .ok (.ireturn, 1) := by decide +kernel
abbrev M_Kc_kept : MethodName × ByteArray × Nat × Option FieldType := (⟨"KeyCodec", "kept", "()I"⟩, prog_1_method_16_code, 1, some .int)
theorem d_Kc_kept_0 : decode prog_1_method_16_code 0 = .ok (.aload_n 0, 1) := by decide +kernel
theorem d_Kc_kept_1 : decode prog_1_method_16_code 1 = .ok (.getfield 47, 3) := by decide +kernel
theorem d_Kc_kept_4 : decode prog_1_method_16_code 4 = .ok (.ireturn, 1) := by decide +kernel
abbrev M_Kc_compare : MethodName × ByteArray × Nat × Option FieldType := (⟨"KeyCodec", "compare", "(II)I"⟩, prog_1_method_17_code, 3, some .int)
theorem d_Kc_compare_0 : decode prog_1_method_17_code 0 = .ok (.aload_n 0, 1) := by decide +kernel
theorem d_Kc_compare_1 : decode prog_1_method_17_code 1 = .ok (.iload_n 1, 1) := by decide +kernel
theorem d_Kc_compare_2 : decode prog_1_method_17_code 2 = .ok (.invokevirtual 177, 3) := by decide +kernel
theorem d_Kc_compare_5 : decode prog_1_method_17_code 5 = .ok (.ifCond .eq 11, 3) := by decide +kernel
theorem d_Kc_compare_8 : decode prog_1_method_17_code 8 = .ok (.aload_n 0, 1) := by decide +kernel
theorem d_Kc_compare_9 : decode prog_1_method_17_code 9 = .ok (.iload_n 2, 1) := by decide +kernel
theorem d_Kc_compare_10 : decode prog_1_method_17_code 10 = .ok (.invokevirtual 177, 3) := by decide +kernel
theorem d_Kc_compare_13 : decode prog_1_method_17_code 13 = .ok (.ifCond .ne 6, 3) := by decide +kernel
theorem d_Kc_compare_16 : decode prog_1_method_17_code 16 = .ok (.bipush (-2), 2) := by decide +kernel
theorem d_Kc_compare_18 : decode prog_1_method_17_code 18 = .ok (.ireturn, 1) := by decide +kernel
theorem d_Kc_compare_19 : decode prog_1_method_17_code 19 = .ok (.aload_n 0, 1) := by decide +kernel
theorem d_Kc_compare_20 : decode prog_1_method_17_code 20 = .ok (.iload_n 1, 1) := by decide +kernel
theorem d_Kc_compare_21 : decode prog_1_method_17_code 21 = .ok (.aload_n 0, 1) := by decide +kernel
theorem d_Kc_compare_22 : decode prog_1_method_17_code 22 = .ok (.getfield 12, 3) := by decide +kernel
theorem d_Kc_compare_25 : decode prog_1_method_17_code 25 = .ok (.getfield 71, 3) := by decide +kernel
theorem d_Kc_compare_28 : decode prog_1_method_17_code 28 = .ok (.aload_n 0, 1) := by decide +kernel
theorem d_Kc_compare_29 : decode prog_1_method_17_code 29 = .ok (.getfield 33, 3) := by decide +kernel
theorem d_Kc_compare_32 : decode prog_1_method_17_code 32 = .ok (.invokevirtual 180, 3) := by decide +kernel
theorem d_Kc_compare_35 : decode prog_1_method_17_code 35 = .ok (.aload_n 0, 1) := by decide +kernel
theorem d_Kc_compare_36 : decode prog_1_method_17_code 36 = .ok (.iload_n 2, 1) := by decide +kernel
theorem d_Kc_compare_37 : decode prog_1_method_17_code 37 = .ok (.aload_n 0, 1) := by decide +kernel
theorem d_Kc_compare_38 : decode prog_1_method_17_code 38 = .ok (.getfield 12, 3) := by decide +kernel
theorem d_Kc_compare_41 : decode prog_1_method_17_code 41 = .ok (.getfield 71, 3) := by decide +kernel
theorem d_Kc_compare_44 : decode prog_1_method_17_code 44 = .ok (.aload_n 0, 1) := by decide +kernel
theorem d_Kc_compare_45 : decode prog_1_method_17_code 45 = .ok (.getfield 36, 3) := by decide +kernel
theorem d_Kc_compare_48 : decode prog_1_method_17_code 48 = .ok (.invokevirtual 180, 3) := by decide +kernel
theorem d_Kc_compare_51 : decode prog_1_method_17_code 51 = .ok (.aload_n 0, 1) := by decide +kernel
theorem d_Kc_compare_52 : decode prog_1_method_17_code 52 = .ok (.getfield 33, 3) := by decide +kernel
theorem d_Kc_compare_55 : decode prog_1_method_17_code 55 = .ok (.aload_n 0, 1) := by decide +kernel
theorem d_Kc_compare_56 : decode prog_1_method_17_code 56 = .ok (.getfield 36, 3) := by decide +kernel
theorem d_Kc_compare_59 : decode prog_1_method_17_code 59 = .ok (.invokevirtual 166, 3) := by decide +kernel
theorem d_Kc_compare_62 : decode prog_1_method_17_code 62 = .ok (.ireturn, 1) := by decide +kernel
abbrev M_Kc_compareKeys : MethodName × ByteArray × Nat × Option FieldType := (⟨"KeyCodec", "compareKeys", "(II)I"⟩, prog_1_method_18_code, 3, some .int)
theorem d_Kc_compareKeys_0 : decode prog_1_method_18_code 0 = .ok (.aload_n 0, 1) := by decide +kernel
theorem d_Kc_compareKeys_1 : decode prog_1_method_18_code 1 = .ok (.iload_n 1, 1) := by decide +kernel
theorem d_Kc_compareKeys_2 : decode prog_1_method_18_code 2 = .ok (.invokevirtual 177, 3) := by decide +kernel
theorem d_Kc_compareKeys_5 : decode prog_1_method_18_code 5 = .ok (.ifCond .eq 11, 3) := by decide +kernel
theorem d_Kc_compareKeys_8 : decode prog_1_method_18_code 8 = .ok (.aload_n 0, 1) := by decide +kernel
theorem d_Kc_compareKeys_9 : decode prog_1_method_18_code 9 = .ok (.iload_n 2, 1) := by decide +kernel
theorem d_Kc_compareKeys_10 : decode prog_1_method_18_code 10 = .ok (.invokevirtual 177, 3) := by decide +kernel
theorem d_Kc_compareKeys_13 : decode prog_1_method_18_code 13 = .ok (.ifCond .ne 6, 3) := by decide +kernel
theorem d_Kc_compareKeys_16 : decode prog_1_method_18_code 16 = .ok (.bipush (-2), 2) := by decide +kernel
theorem d_Kc_compareKeys_18 : decode prog_1_method_18_code 18 = .ok (.ireturn, 1) := by decide +kernel
theorem d_Kc_compareKeys_19 : decode prog_1_method_18_code 19 = .ok (.aload_n 0, 1) := by decide +kernel
theorem d_Kc_compareKeys_20 : decode prog_1_method_18_code 20 = .ok (.getfield 43, 3) := by decide +kernel
theorem d_Kc_compareKeys_23 : decode prog_1_method_18_code 23 = .ok (.iload_n 1, 1) := by decide +kernel
theorem d_Kc_compareKeys_24 : decode prog_1_method_18_code 24 = .ok (.aaload, 1) := by decide +kernel
theorem d_Kc_compareKeys_25 : decode prog_1_method_18_code 25 = .ok (.aload_n 0, 1) := by decide +kernel
theorem d_Kc_compareKeys_26 : decode prog_1_method_18_code 26 = .ok (.getfield 43, 3) := by decide +kernel
theorem d_Kc_compareKeys_29 : decode prog_1_method_18_code 29 = .ok (.iload_n 2, 1) := by decide +kernel
theorem d_Kc_compareKeys_30 : decode prog_1_method_18_code 30 = .ok (.aaload, 1) := by decide +kernel
theorem d_Kc_compareKeys_31 : decode prog_1_method_18_code 31 = .ok (.invokevirtual 166, 3) := by decide +kernel
theorem d_Kc_compareKeys_34 : decode prog_1_method_18_code 34 = .ok (.ireturn, 1) := by decide +kernel
abbrev M_Kc_rank : MethodName × ByteArray × Nat × Option FieldType := (⟨"KeyCodec", "rank", "(I)I"⟩, prog_1_method_19_code, 2, some .int)
theorem d_Kc_rank_0 : decode prog_1_method_19_code 0 = .ok (.aload_n 0, 1) := by decide +kernel
theorem d_Kc_rank_1 : decode prog_1_method_19_code 1 = .ok (.iload_n 1, 1) := by decide +kernel
theorem d_Kc_rank_2 : decode prog_1_method_19_code 2 = .ok (.invokevirtual 177, 3) := by decide +kernel
theorem d_Kc_rank_5 : decode prog_1_method_19_code 5 = .ok (.ifCond .eq 11, 3) := by decide +kernel
theorem d_Kc_rank_8 : decode prog_1_method_19_code 8 = .ok (.aload_n 0, 1) := by decide +kernel
theorem d_Kc_rank_9 : decode prog_1_method_19_code 9 = .ok (.iload_n 1, 1) := by decide +kernel
theorem d_Kc_rank_10 : decode prog_1_method_19_code 10 = .ok (.invokevirtual 184, 3) := by decide +kernel
theorem d_Kc_rank_13 : decode prog_1_method_19_code 13 = .ok (.goto 4, 3) := by decide +kernel
theorem d_Kc_rank_16 : decode prog_1_method_19_code 16 = .ok (.iconst (-1), 1) := by decide +kernel
theorem d_Kc_rank_17 : decode prog_1_method_19_code 17 = .ok (.ireturn, 1) := by decide +kernel
abbrev M_Kc_shared : MethodName × ByteArray × Nat × Option FieldType := (⟨"KeyCodec", "shared", "(I)I"⟩, prog_1_method_20_code, 2, some .int)
theorem d_Kc_shared_0 : decode prog_1_method_20_code 0 = .ok (.iload_n 1, 1) := by decide +kernel
theorem d_Kc_shared_1 : decode prog_1_method_20_code 1 = .ok (.ifCond .lt 11, 3) := by decide +kernel
theorem d_Kc_shared_4 : decode prog_1_method_20_code 4 = .ok (.iload_n 1, 1) := by decide +kernel
theorem d_Kc_shared_5 : decode prog_1_method_20_code 5 = .ok (.aload_n 0, 1) := by decide +kernel
theorem d_Kc_shared_6 : decode prog_1_method_20_code 6 = .ok (.getfield 47, 3) := by decide +kernel
theorem d_Kc_shared_9 : decode prog_1_method_20_code 9 = .ok (.if_icmp .lt 5, 3) := by decide +kernel
theorem d_Kc_shared_12 : decode prog_1_method_20_code 12 = .ok (.iconst (-1), 1) := by decide +kernel
theorem d_Kc_shared_13 : decode prog_1_method_20_code 13 = .ok (.ireturn, 1) := by decide +kernel
theorem d_Kc_shared_14 : decode prog_1_method_20_code 14 = .ok (.iload_n 1, 1) := by decide +kernel
theorem d_Kc_shared_15 : decode prog_1_method_20_code 15 = .ok (.ifCond .ne 5, 3) := by decide +kernel
theorem d_Kc_shared_18 : decode prog_1_method_20_code 18 = .ok (.iconst 0, 1) := by decide +kernel
theorem d_Kc_shared_19 : decode prog_1_method_20_code 19 = .ok (.ireturn, 1) := by decide +kernel
theorem d_Kc_shared_20 : decode prog_1_method_20_code 20 = .ok (.aload_n 0, 1) := by decide +kernel
theorem d_Kc_shared_21 : decode prog_1_method_20_code 21 = .ok (.getfield 43, 3) := by decide +kernel
theorem d_Kc_shared_24 : decode prog_1_method_20_code 24 = .ok (.aload_n 0, 1) := by decide +kernel
theorem d_Kc_shared_25 : decode prog_1_method_20_code 25 = .ok (.iload_n 1, 1) := by decide +kernel
theorem d_Kc_shared_26 : decode prog_1_method_20_code 26 = .ok (.invokevirtual 187, 3) := by decide +kernel
theorem d_Kc_shared_29 : decode prog_1_method_20_code 29 = .ok (.aaload, 1) := by decide +kernel
theorem d_Kc_shared_30 : decode prog_1_method_20_code 30 = .ok (.aload_n 0, 1) := by decide +kernel
theorem d_Kc_shared_31 : decode prog_1_method_20_code 31 = .ok (.getfield 43, 3) := by decide +kernel
theorem d_Kc_shared_34 : decode prog_1_method_20_code 34 = .ok (.aload_n 0, 1) := by decide +kernel
theorem d_Kc_shared_35 : decode prog_1_method_20_code 35 = .ok (.iload_n 1, 1) := by decide +kernel
theorem d_Kc_shared_36 : decode prog_1_method_20_code 36 = .ok (.iconst 1, 1) := by decide +kernel
theorem d_Kc_shared_37 : decode prog_1_method_20_code 37 = .ok (.isub, 1) := by decide +kernel
theorem d_Kc_shared_38 : decode prog_1_method_20_code 38 = .ok (.invokevirtual 187, 3) := by decide +kernel
theorem d_Kc_shared_41 : decode prog_1_method_20_code 41 = .ok (.aaload, 1) := by decide +kernel
theorem d_Kc_shared_42 : decode prog_1_method_20_code 42 = .ok (.invokevirtual 190, 3) := by decide +kernel
theorem d_Kc_shared_45 : decode prog_1_method_20_code 45 = .ok (.ireturn, 1) := by decide +kernel
abbrev M_Kc_bounds : MethodName × ByteArray × Nat × Option FieldType := (⟨"KeyCodec", "bounds", "(II)Z"⟩, prog_1_method_21_code, 3, some .boolean)
theorem d_Kc_bounds_0 : decode prog_1_method_21_code 0 = .ok (.aload_n 0, 1) := by decide +kernel
theorem d_Kc_bounds_1 : decode prog_1_method_21_code 1 = .ok (.iload_n 1, 1) := by decide +kernel
theorem d_Kc_bounds_2 : decode prog_1_method_21_code 2 = .ok (.invokevirtual 177, 3) := by decide +kernel
theorem d_Kc_bounds_5 : decode prog_1_method_21_code 5 = .ok (.ifCond .eq 18, 3) := by decide +kernel
theorem d_Kc_bounds_8 : decode prog_1_method_21_code 8 = .ok (.iload_n 2, 1) := by decide +kernel
theorem d_Kc_bounds_9 : decode prog_1_method_21_code 9 = .ok (.ifCond .lt 14, 3) := by decide +kernel
theorem d_Kc_bounds_12 : decode prog_1_method_21_code 12 = .ok (.iload_n 2, 1) := by decide +kernel
theorem d_Kc_bounds_13 : decode prog_1_method_21_code 13 = .ok (.aload_n 0, 1) := by decide +kernel
theorem d_Kc_bounds_14 : decode prog_1_method_21_code 14 = .ok (.getfield 12, 3) := by decide +kernel
theorem d_Kc_bounds_17 : decode prog_1_method_21_code 17 = .ok (.getfield 71, 3) := by decide +kernel
theorem d_Kc_bounds_20 : decode prog_1_method_21_code 20 = .ok (.if_icmp .le 5, 3) := by decide +kernel
theorem d_Kc_bounds_23 : decode prog_1_method_21_code 23 = .ok (.iconst 0, 1) := by decide +kernel
theorem d_Kc_bounds_24 : decode prog_1_method_21_code 24 = .ok (.ireturn, 1) := by decide +kernel
theorem d_Kc_bounds_25 : decode prog_1_method_21_code 25 = .ok (.aload_n 0, 1) := by decide +kernel
theorem d_Kc_bounds_26 : decode prog_1_method_21_code 26 = .ok (.iload_n 1, 1) := by decide +kernel
theorem d_Kc_bounds_27 : decode prog_1_method_21_code 27 = .ok (.iload_n 2, 1) := by decide +kernel
theorem d_Kc_bounds_28 : decode prog_1_method_21_code 28 = .ok (.aload_n 0, 1) := by decide +kernel
theorem d_Kc_bounds_29 : decode prog_1_method_21_code 29 = .ok (.getfield 51, 3) := by decide +kernel
theorem d_Kc_bounds_32 : decode prog_1_method_21_code 32 = .ok (.invokevirtual 180, 3) := by decide +kernel
theorem d_Kc_bounds_35 : decode prog_1_method_21_code 35 = .ok (.aload_n 0, 1) := by decide +kernel
theorem d_Kc_bounds_36 : decode prog_1_method_21_code 36 = .ok (.aload_n 0, 1) := by decide +kernel
theorem d_Kc_bounds_37 : decode prog_1_method_21_code 37 = .ok (.getfield 54, 3) := by decide +kernel
theorem d_Kc_bounds_40 : decode prog_1_method_21_code 40 = .ok (.aload_n 0, 1) := by decide +kernel
theorem d_Kc_bounds_41 : decode prog_1_method_21_code 41 = .ok (.getfield 51, 3) := by decide +kernel
theorem d_Kc_bounds_44 : decode prog_1_method_21_code 44 = .ok (.invokevirtual 193, 3) := by decide +kernel
theorem d_Kc_bounds_47 : decode prog_1_method_21_code 47 = .ok (.putfield 57, 3) := by decide +kernel
theorem d_Kc_bounds_50 : decode prog_1_method_21_code 50 = .ok (.iconst 1, 1) := by decide +kernel
theorem d_Kc_bounds_51 : decode prog_1_method_21_code 51 = .ok (.ireturn, 1) := by decide +kernel
abbrev M_Kc_between : MethodName × ByteArray × Nat × Option FieldType := (⟨"KeyCodec", "between", "(IIII)Z"⟩, prog_1_method_22_code, 5, some .boolean)
theorem d_Kc_between_0 : decode prog_1_method_22_code 0 = .ok (.aload_n 0, 1) := by decide +kernel
theorem d_Kc_between_1 : decode prog_1_method_22_code 1 = .ok (.iload_n 1, 1) := by decide +kernel
theorem d_Kc_between_2 : decode prog_1_method_22_code 2 = .ok (.invokevirtual 177, 3) := by decide +kernel
theorem d_Kc_between_5 : decode prog_1_method_22_code 5 = .ok (.ifCond .eq 35, 3) := by decide +kernel
theorem d_Kc_between_8 : decode prog_1_method_22_code 8 = .ok (.aload_n 0, 1) := by decide +kernel
theorem d_Kc_between_9 : decode prog_1_method_22_code 9 = .ok (.iload_n 3, 1) := by decide +kernel
theorem d_Kc_between_10 : decode prog_1_method_22_code 10 = .ok (.invokevirtual 177, 3) := by decide +kernel
theorem d_Kc_between_13 : decode prog_1_method_22_code 13 = .ok (.ifCond .eq 27, 3) := by decide +kernel
theorem d_Kc_between_16 : decode prog_1_method_22_code 16 = .ok (.aload_n 0, 1) := by decide +kernel
theorem d_Kc_between_17 : decode prog_1_method_22_code 17 = .ok (.iload 4, 2) := by decide +kernel
theorem d_Kc_between_19 : decode prog_1_method_22_code 19 = .ok (.invokevirtual 177, 3) := by decide +kernel
theorem d_Kc_between_22 : decode prog_1_method_22_code 22 = .ok (.ifCond .eq 18, 3) := by decide +kernel
theorem d_Kc_between_25 : decode prog_1_method_22_code 25 = .ok (.iload_n 2, 1) := by decide +kernel
theorem d_Kc_between_26 : decode prog_1_method_22_code 26 = .ok (.ifCond .lt 14, 3) := by decide +kernel
theorem d_Kc_between_29 : decode prog_1_method_22_code 29 = .ok (.iload_n 2, 1) := by decide +kernel
theorem d_Kc_between_30 : decode prog_1_method_22_code 30 = .ok (.aload_n 0, 1) := by decide +kernel
theorem d_Kc_between_31 : decode prog_1_method_22_code 31 = .ok (.getfield 12, 3) := by decide +kernel
theorem d_Kc_between_34 : decode prog_1_method_22_code 34 = .ok (.getfield 71, 3) := by decide +kernel
theorem d_Kc_between_37 : decode prog_1_method_22_code 37 = .ok (.if_icmp .lt 5, 3) := by decide +kernel
theorem d_Kc_between_40 : decode prog_1_method_22_code 40 = .ok (.iconst 0, 1) := by decide +kernel
theorem d_Kc_between_41 : decode prog_1_method_22_code 41 = .ok (.ireturn, 1) := by decide +kernel
theorem d_Kc_between_42 : decode prog_1_method_22_code 42 = .ok (.aload_n 0, 1) := by decide +kernel
theorem d_Kc_between_43 : decode prog_1_method_22_code 43 = .ok (.iload_n 1, 1) := by decide +kernel
theorem d_Kc_between_44 : decode prog_1_method_22_code 44 = .ok (.iload_n 2, 1) := by decide +kernel
theorem d_Kc_between_45 : decode prog_1_method_22_code 45 = .ok (.aload_n 0, 1) := by decide +kernel
theorem d_Kc_between_46 : decode prog_1_method_22_code 46 = .ok (.getfield 51, 3) := by decide +kernel
theorem d_Kc_between_49 : decode prog_1_method_22_code 49 = .ok (.invokevirtual 180, 3) := by decide +kernel
theorem d_Kc_between_52 : decode prog_1_method_22_code 52 = .ok (.aload_n 0, 1) := by decide +kernel
theorem d_Kc_between_53 : decode prog_1_method_22_code 53 = .ok (.getfield 12, 3) := by decide +kernel
theorem d_Kc_between_56 : decode prog_1_method_22_code 56 = .ok (.aload_n 0, 1) := by decide +kernel
theorem d_Kc_between_57 : decode prog_1_method_22_code 57 = .ok (.getfield 39, 3) := by decide +kernel
theorem d_Kc_between_60 : decode prog_1_method_22_code 60 = .ok (.iload_n 3, 1) := by decide +kernel
theorem d_Kc_between_61 : decode prog_1_method_22_code 61 = .ok (.aaload, 1) := by decide +kernel
theorem d_Kc_between_62 : decode prog_1_method_22_code 62 = .ok (.iload_n 2, 1) := by decide +kernel
theorem d_Kc_between_63 : decode prog_1_method_22_code 63 = .ok (.aload_n 0, 1) := by decide +kernel
theorem d_Kc_between_64 : decode prog_1_method_22_code 64 = .ok (.getfield 51, 3) := by decide +kernel
theorem d_Kc_between_67 : decode prog_1_method_22_code 67 = .ok (.invokestatic 197, 3) := by decide +kernel
theorem d_Kc_between_70 : decode prog_1_method_22_code 70 = .ok (.aload_n 0, 1) := by decide +kernel
theorem d_Kc_between_71 : decode prog_1_method_22_code 71 = .ok (.iload_n 1, 1) := by decide +kernel
theorem d_Kc_between_72 : decode prog_1_method_22_code 72 = .ok (.iload_n 2, 1) := by decide +kernel
theorem d_Kc_between_73 : decode prog_1_method_22_code 73 = .ok (.aload_n 0, 1) := by decide +kernel
theorem d_Kc_between_74 : decode prog_1_method_22_code 74 = .ok (.getfield 54, 3) := by decide +kernel
theorem d_Kc_between_77 : decode prog_1_method_22_code 77 = .ok (.invokevirtual 180, 3) := by decide +kernel
theorem d_Kc_between_80 : decode prog_1_method_22_code 80 = .ok (.aload_n 0, 1) := by decide +kernel
theorem d_Kc_between_81 : decode prog_1_method_22_code 81 = .ok (.getfield 12, 3) := by decide +kernel
theorem d_Kc_between_84 : decode prog_1_method_22_code 84 = .ok (.aload_n 0, 1) := by decide +kernel
theorem d_Kc_between_85 : decode prog_1_method_22_code 85 = .ok (.getfield 39, 3) := by decide +kernel
theorem d_Kc_between_88 : decode prog_1_method_22_code 88 = .ok (.iload 4, 2) := by decide +kernel
theorem d_Kc_between_90 : decode prog_1_method_22_code 90 = .ok (.aaload, 1) := by decide +kernel
theorem d_Kc_between_91 : decode prog_1_method_22_code 91 = .ok (.iload_n 2, 1) := by decide +kernel
theorem d_Kc_between_92 : decode prog_1_method_22_code 92 = .ok (.aload_n 0, 1) := by decide +kernel
theorem d_Kc_between_93 : decode prog_1_method_22_code 93 = .ok (.getfield 54, 3) := by decide +kernel
theorem d_Kc_between_96 : decode prog_1_method_22_code 96 = .ok (.invokestatic 197, 3) := by decide +kernel
theorem d_Kc_between_99 : decode prog_1_method_22_code 99 = .ok (.aload_n 0, 1) := by decide +kernel
theorem d_Kc_between_100 : decode prog_1_method_22_code 100 = .ok (.iconst 1, 1) := by decide +kernel
theorem d_Kc_between_101 : decode prog_1_method_22_code 101 = .ok (.putfield 57, 3) := by decide +kernel
theorem d_Kc_between_104 : decode prog_1_method_22_code 104 = .ok (.iconst 1, 1) := by decide +kernel
theorem d_Kc_between_105 : decode prog_1_method_22_code 105 = .ok (.ireturn, 1) := by decide +kernel
abbrev M_Kc_bound : MethodName × ByteArray × Nat × Option FieldType := (⟨"KeyCodec", "bound", "(II)I"⟩, prog_1_method_23_code, 4, some .int)
theorem d_Kc_bound_0 : decode prog_1_method_23_code 0 = .ok (.iload_n 1, 1) := by decide +kernel
theorem d_Kc_bound_1 : decode prog_1_method_23_code 1 = .ok (.ifCond .eq 17, 3) := by decide +kernel
theorem d_Kc_bound_4 : decode prog_1_method_23_code 4 = .ok (.iload_n 1, 1) := by decide +kernel
theorem d_Kc_bound_5 : decode prog_1_method_23_code 5 = .ok (.iconst 1, 1) := by decide +kernel
theorem d_Kc_bound_6 : decode prog_1_method_23_code 6 = .ok (.if_icmp .ne 10, 3) := by decide +kernel
theorem d_Kc_bound_9 : decode prog_1_method_23_code 9 = .ok (.aload_n 0, 1) := by decide +kernel
theorem d_Kc_bound_10 : decode prog_1_method_23_code 10 = .ok (.getfield 57, 3) := by decide +kernel
theorem d_Kc_bound_13 : decode prog_1_method_23_code 13 = .ok (.ifCond .ne 5, 3) := by decide +kernel
theorem d_Kc_bound_16 : decode prog_1_method_23_code 16 = .ok (.iconst (-1), 1) := by decide +kernel
theorem d_Kc_bound_17 : decode prog_1_method_23_code 17 = .ok (.ireturn, 1) := by decide +kernel
theorem d_Kc_bound_18 : decode prog_1_method_23_code 18 = .ok (.iload_n 1, 1) := by decide +kernel
theorem d_Kc_bound_19 : decode prog_1_method_23_code 19 = .ok (.ifCond .ne 10, 3) := by decide +kernel
theorem d_Kc_bound_22 : decode prog_1_method_23_code 22 = .ok (.aload_n 0, 1) := by decide +kernel
theorem d_Kc_bound_23 : decode prog_1_method_23_code 23 = .ok (.getfield 51, 3) := by decide +kernel
theorem d_Kc_bound_26 : decode prog_1_method_23_code 26 = .ok (.goto 7, 3) := by decide +kernel
theorem d_Kc_bound_29 : decode prog_1_method_23_code 29 = .ok (.aload_n 0, 1) := by decide +kernel
theorem d_Kc_bound_30 : decode prog_1_method_23_code 30 = .ok (.getfield 54, 3) := by decide +kernel
theorem d_Kc_bound_33 : decode prog_1_method_23_code 33 = .ok (.astore_n 3, 1) := by decide +kernel
theorem d_Kc_bound_34 : decode prog_1_method_23_code 34 = .ok (.iload_n 2, 1) := by decide +kernel
theorem d_Kc_bound_35 : decode prog_1_method_23_code 35 = .ok (.iconst (-1), 1) := by decide +kernel
theorem d_Kc_bound_36 : decode prog_1_method_23_code 36 = .ok (.if_icmp .ne 10, 3) := by decide +kernel
theorem d_Kc_bound_39 : decode prog_1_method_23_code 39 = .ok (.aload_n 3, 1) := by decide +kernel
theorem d_Kc_bound_40 : decode prog_1_method_23_code 40 = .ok (.getfield 148, 3) := by decide +kernel
theorem d_Kc_bound_43 : decode prog_1_method_23_code 43 = .ok (.goto 8, 3) := by decide +kernel
theorem d_Kc_bound_46 : decode prog_1_method_23_code 46 = .ok (.aload_n 3, 1) := by decide +kernel
theorem d_Kc_bound_47 : decode prog_1_method_23_code 47 = .ok (.iload_n 2, 1) := by decide +kernel
theorem d_Kc_bound_48 : decode prog_1_method_23_code 48 = .ok (.invokevirtual 156, 3) := by decide +kernel
theorem d_Kc_bound_51 : decode prog_1_method_23_code 51 = .ok (.ireturn, 1) := by decide +kernel
abbrev M_Kc_within : MethodName × ByteArray × Nat × Option FieldType := (⟨"KeyCodec", "within", "(I)Z"⟩, prog_1_method_24_code, 3, some .boolean)
theorem d_Kc_within_0 : decode prog_1_method_24_code 0 = .ok (.aload_n 0, 1) := by decide +kernel
theorem d_Kc_within_1 : decode prog_1_method_24_code 1 = .ok (.iload_n 1, 1) := by decide +kernel
theorem d_Kc_within_2 : decode prog_1_method_24_code 2 = .ok (.invokevirtual 177, 3) := by decide +kernel
theorem d_Kc_within_5 : decode prog_1_method_24_code 5 = .ok (.ifCond .ne 5, 3) := by decide +kernel
theorem d_Kc_within_8 : decode prog_1_method_24_code 8 = .ok (.iconst 0, 1) := by decide +kernel
theorem d_Kc_within_9 : decode prog_1_method_24_code 9 = .ok (.ireturn, 1) := by decide +kernel
theorem d_Kc_within_10 : decode prog_1_method_24_code 10 = .ok (.aload_n 0, 1) := by decide +kernel
theorem d_Kc_within_11 : decode prog_1_method_24_code 11 = .ok (.getfield 43, 3) := by decide +kernel
theorem d_Kc_within_14 : decode prog_1_method_24_code 14 = .ok (.iload_n 1, 1) := by decide +kernel
theorem d_Kc_within_15 : decode prog_1_method_24_code 15 = .ok (.aaload, 1) := by decide +kernel
theorem d_Kc_within_16 : decode prog_1_method_24_code 16 = .ok (.astore_n 2, 1) := by decide +kernel
theorem d_Kc_within_17 : decode prog_1_method_24_code 17 = .ok (.aload_n 2, 1) := by decide +kernel
theorem d_Kc_within_18 : decode prog_1_method_24_code 18 = .ok (.aload_n 0, 1) := by decide +kernel
theorem d_Kc_within_19 : decode prog_1_method_24_code 19 = .ok (.getfield 51, 3) := by decide +kernel
theorem d_Kc_within_22 : decode prog_1_method_24_code 22 = .ok (.invokevirtual 166, 3) := by decide +kernel
theorem d_Kc_within_25 : decode prog_1_method_24_code 25 = .ok (.ifCond .lt 25, 3) := by decide +kernel
theorem d_Kc_within_28 : decode prog_1_method_24_code 28 = .ok (.aload_n 0, 1) := by decide +kernel
theorem d_Kc_within_29 : decode prog_1_method_24_code 29 = .ok (.getfield 57, 3) := by decide +kernel
theorem d_Kc_within_32 : decode prog_1_method_24_code 32 = .ok (.ifCond .eq 14, 3) := by decide +kernel
theorem d_Kc_within_35 : decode prog_1_method_24_code 35 = .ok (.aload_n 2, 1) := by decide +kernel
theorem d_Kc_within_36 : decode prog_1_method_24_code 36 = .ok (.aload_n 0, 1) := by decide +kernel
theorem d_Kc_within_37 : decode prog_1_method_24_code 37 = .ok (.getfield 54, 3) := by decide +kernel
theorem d_Kc_within_40 : decode prog_1_method_24_code 40 = .ok (.invokevirtual 166, 3) := by decide +kernel
theorem d_Kc_within_43 : decode prog_1_method_24_code 43 = .ok (.ifCond .ge 7, 3) := by decide +kernel
theorem d_Kc_within_46 : decode prog_1_method_24_code 46 = .ok (.iconst 1, 1) := by decide +kernel
theorem d_Kc_within_47 : decode prog_1_method_24_code 47 = .ok (.goto 4, 3) := by decide +kernel
theorem d_Kc_within_50 : decode prog_1_method_24_code 50 = .ok (.iconst 0, 1) := by decide +kernel
theorem d_Kc_within_51 : decode prog_1_method_24_code 51 = .ok (.ireturn, 1) := by decide +kernel
abbrev M_Kc_isKept : MethodName × ByteArray × Nat × Option FieldType := (⟨"KeyCodec", "isKept", "(I)Z"⟩, prog_1_method_25_code, 2, some .boolean)
theorem d_Kc_isKept_0 : decode prog_1_method_25_code 0 = .ok (.iload_n 1, 1) := by decide +kernel
theorem d_Kc_isKept_1 : decode prog_1_method_25_code 1 = .ok (.ifCond .lt 15, 3) := by decide +kernel
theorem d_Kc_isKept_4 : decode prog_1_method_25_code 4 = .ok (.iload_n 1, 1) := by decide +kernel
theorem d_Kc_isKept_5 : decode prog_1_method_25_code 5 = .ok (.aload_n 0, 1) := by decide +kernel
theorem d_Kc_isKept_6 : decode prog_1_method_25_code 6 = .ok (.getfield 47, 3) := by decide +kernel
theorem d_Kc_isKept_9 : decode prog_1_method_25_code 9 = .ok (.if_icmp .ge 7, 3) := by decide +kernel
theorem d_Kc_isKept_12 : decode prog_1_method_25_code 12 = .ok (.iconst 1, 1) := by decide +kernel
theorem d_Kc_isKept_13 : decode prog_1_method_25_code 13 = .ok (.goto 4, 3) := by decide +kernel
theorem d_Kc_isKept_16 : decode prog_1_method_25_code 16 = .ok (.iconst 0, 1) := by decide +kernel
theorem d_Kc_isKept_17 : decode prog_1_method_25_code 17 = .ok (.ireturn, 1) := by decide +kernel
abbrev M_Kc_writeStart : MethodName × ByteArray × Nat × Option FieldType := (⟨"KeyCodec", "writeStart", "(IILKeyCodec$Row;)V"⟩, prog_1_method_26_code, 4, none)
theorem d_Kc_writeStart_0 : decode prog_1_method_26_code 0 = .ok (.aload_n 3, 1) := by decide +kernel
theorem d_Kc_writeStart_1 : decode prog_1_method_26_code 1 = .ok (.invokevirtual 87, 3) := by decide +kernel
theorem d_Kc_writeStart_4 : decode prog_1_method_26_code 4 = .ok (.aload_n 0, 1) := by decide +kernel
theorem d_Kc_writeStart_5 : decode prog_1_method_26_code 5 = .ok (.getfield 12, 3) := by decide +kernel
theorem d_Kc_writeStart_8 : decode prog_1_method_26_code 8 = .ok (.aload_n 0, 1) := by decide +kernel
theorem d_Kc_writeStart_9 : decode prog_1_method_26_code 9 = .ok (.getfield 39, 3) := by decide +kernel
theorem d_Kc_writeStart_12 : decode prog_1_method_26_code 12 = .ok (.iload_n 1, 1) := by decide +kernel
theorem d_Kc_writeStart_13 : decode prog_1_method_26_code 13 = .ok (.aaload, 1) := by decide +kernel
theorem d_Kc_writeStart_14 : decode prog_1_method_26_code 14 = .ok (.iload_n 2, 1) := by decide +kernel
theorem d_Kc_writeStart_15 : decode prog_1_method_26_code 15 = .ok (.aload_n 3, 1) := by decide +kernel
theorem d_Kc_writeStart_16 : decode prog_1_method_26_code 16 = .ok (.invokestatic 201, 3) := by decide +kernel
theorem d_Kc_writeStart_19 : decode prog_1_method_26_code 19 = .ok (.return_, 1) := by decide +kernel
abbrev M_Kc_countBefore : MethodName × ByteArray × Nat × Option FieldType := (⟨"KeyCodec", "countBefore", "(I)I"⟩, prog_1_method_27_code, 5, some .int)
theorem d_Kc_countBefore_0 : decode prog_1_method_27_code 0 = .ok (.iconst 0, 1) := by decide +kernel
theorem d_Kc_countBefore_1 : decode prog_1_method_27_code 1 = .ok (.istore_n 2, 1) := by decide +kernel
theorem d_Kc_countBefore_2 : decode prog_1_method_27_code 2 = .ok (.iconst 0, 1) := by decide +kernel
theorem d_Kc_countBefore_3 : decode prog_1_method_27_code 3 = .ok (.istore_n 3, 1) := by decide +kernel
theorem d_Kc_countBefore_4 : decode prog_1_method_27_code 4 = .ok (.iload_n 3, 1) := by decide +kernel
theorem d_Kc_countBefore_5 : decode prog_1_method_27_code 5 = .ok (.aload_n 0, 1) := by decide +kernel
theorem d_Kc_countBefore_6 : decode prog_1_method_27_code 6 = .ok (.getfield 47, 3) := by decide +kernel
theorem d_Kc_countBefore_9 : decode prog_1_method_27_code 9 = .ok (.if_icmp .ge 44, 3) := by decide +kernel
theorem d_Kc_countBefore_12 : decode prog_1_method_27_code 12 = .ok (.aload_n 0, 1) := by decide +kernel
theorem d_Kc_countBefore_13 : decode prog_1_method_27_code 13 = .ok (.getfield 43, 3) := by decide +kernel
theorem d_Kc_countBefore_16 : decode prog_1_method_27_code 16 = .ok (.iload_n 3, 1) := by decide +kernel
theorem d_Kc_countBefore_17 : decode prog_1_method_27_code 17 = .ok (.aaload, 1) := by decide +kernel
theorem d_Kc_countBefore_18 : decode prog_1_method_27_code 18 = .ok (.aload_n 0, 1) := by decide +kernel
theorem d_Kc_countBefore_19 : decode prog_1_method_27_code 19 = .ok (.getfield 43, 3) := by decide +kernel
theorem d_Kc_countBefore_22 : decode prog_1_method_27_code 22 = .ok (.iload_n 1, 1) := by decide +kernel
theorem d_Kc_countBefore_23 : decode prog_1_method_27_code 23 = .ok (.aaload, 1) := by decide +kernel
theorem d_Kc_countBefore_24 : decode prog_1_method_27_code 24 = .ok (.invokevirtual 166, 3) := by decide +kernel
theorem d_Kc_countBefore_27 : decode prog_1_method_27_code 27 = .ok (.istore 4, 2) := by decide +kernel
theorem d_Kc_countBefore_29 : decode prog_1_method_27_code 29 = .ok (.iload 4, 2) := by decide +kernel
theorem d_Kc_countBefore_31 : decode prog_1_method_27_code 31 = .ok (.ifCond .lt 13, 3) := by decide +kernel
theorem d_Kc_countBefore_34 : decode prog_1_method_27_code 34 = .ok (.iload 4, 2) := by decide +kernel
theorem d_Kc_countBefore_36 : decode prog_1_method_27_code 36 = .ok (.ifCond .ne 11, 3) := by decide +kernel
theorem d_Kc_countBefore_39 : decode prog_1_method_27_code 39 = .ok (.iload_n 3, 1) := by decide +kernel
theorem d_Kc_countBefore_40 : decode prog_1_method_27_code 40 = .ok (.iload_n 1, 1) := by decide +kernel
theorem d_Kc_countBefore_41 : decode prog_1_method_27_code 41 = .ok (.if_icmp .ge 6, 3) := by decide +kernel
theorem d_Kc_countBefore_44 : decode prog_1_method_27_code 44 = .ok (.iinc 2 1, 3) := by decide +kernel
theorem d_Kc_countBefore_47 : decode prog_1_method_27_code 47 = .ok (.iinc 3 1, 3) := by decide +kernel
theorem d_Kc_countBefore_50 : decode prog_1_method_27_code 50 = .ok (.goto (-46), 3) := by decide +kernel
theorem d_Kc_countBefore_53 : decode prog_1_method_27_code 53 = .ok (.iload_n 2, 1) := by decide +kernel
theorem d_Kc_countBefore_54 : decode prog_1_method_27_code 54 = .ok (.ireturn, 1) := by decide +kernel
abbrev M_Kc_withRank : MethodName × ByteArray × Nat × Option FieldType := (⟨"KeyCodec", "withRank", "(I)I"⟩, prog_1_method_28_code, 3, some .int)
theorem d_Kc_withRank_0 : decode prog_1_method_28_code 0 = .ok (.iconst 0, 1) := by decide +kernel
theorem d_Kc_withRank_1 : decode prog_1_method_28_code 1 = .ok (.istore_n 2, 1) := by decide +kernel
theorem d_Kc_withRank_2 : decode prog_1_method_28_code 2 = .ok (.iload_n 2, 1) := by decide +kernel
theorem d_Kc_withRank_3 : decode prog_1_method_28_code 3 = .ok (.aload_n 0, 1) := by decide +kernel
theorem d_Kc_withRank_4 : decode prog_1_method_28_code 4 = .ok (.getfield 47, 3) := by decide +kernel
theorem d_Kc_withRank_7 : decode prog_1_method_28_code 7 = .ok (.if_icmp .ge 20, 3) := by decide +kernel
theorem d_Kc_withRank_10 : decode prog_1_method_28_code 10 = .ok (.aload_n 0, 1) := by decide +kernel
theorem d_Kc_withRank_11 : decode prog_1_method_28_code 11 = .ok (.iload_n 2, 1) := by decide +kernel
theorem d_Kc_withRank_12 : decode prog_1_method_28_code 12 = .ok (.invokevirtual 184, 3) := by decide +kernel
theorem d_Kc_withRank_15 : decode prog_1_method_28_code 15 = .ok (.iload_n 1, 1) := by decide +kernel
theorem d_Kc_withRank_16 : decode prog_1_method_28_code 16 = .ok (.if_icmp .ne 5, 3) := by decide +kernel
theorem d_Kc_withRank_19 : decode prog_1_method_28_code 19 = .ok (.iload_n 2, 1) := by decide +kernel
theorem d_Kc_withRank_20 : decode prog_1_method_28_code 20 = .ok (.ireturn, 1) := by decide +kernel
theorem d_Kc_withRank_21 : decode prog_1_method_28_code 21 = .ok (.iinc 2 1, 3) := by decide +kernel
theorem d_Kc_withRank_24 : decode prog_1_method_28_code 24 = .ok (.goto (-22), 3) := by decide +kernel
theorem d_Kc_withRank_27 : decode prog_1_method_28_code 27 = .ok (.iconst 0, 1) := by decide +kernel
theorem d_Kc_withRank_28 : decode prog_1_method_28_code 28 = .ok (.ireturn, 1) := by decide +kernel
theorem lo_Kc_3 : Cond.methodLink "KeyCodec" 3 Lib.objectInit ∈ kTs := km 22 (by decide +kernel) (by decide +kernel)
theorem lc_Kc_9 : Cond.classLink "KeyCodec" (9 : Nat) "KeyCodec$Schema" ∈ kTs := km 25 (by decide +kernel) (by decide +kernel)
theorem kb_Schema_init : kCB M_Schema_init 0 := ⟨km 2 (by decide +kernel) (by decide +kernel), km 29 (by decide +kernel) (by decide +kernel), by decide +kernel, by decide +kernel⟩
theorem lg_Kc_11 : kCIN "KeyCodec" 11 M_Schema_init 0 "KeyCodec" := ⟨kb_Schema_init, (by decide +kernel), km 28 (by decide +kernel) (by decide +kernel), rfl, rfl⟩
theorem lf_Kc_12 : Cond.fieldLink "KeyCodec" (12 : Nat) "KeyCodec" "schema" "LKeyCodec$Schema;" ∈ kTs := km 116 (by decide +kernel) (by decide +kernel)
theorem lc_Kc_16 : Cond.classLink "KeyCodec" (16 : Nat) "KeyCodec$Tuple" ∈ kTs := km 52 (by decide +kernel) (by decide +kernel)
theorem kb_Tuple_init : kCB M_Tuple_init 0 := ⟨km 3 (by decide +kernel) (by decide +kernel), km 56 (by decide +kernel) (by decide +kernel), by decide +kernel, by decide +kernel⟩
theorem lg_Kc_18 : kCI "KeyCodec" 18 M_Tuple_init 0 := ⟨kb_Tuple_init, km 54 (by decide +kernel) (by decide +kernel), km 55 (by decide +kernel) (by decide +kernel), rfl, rfl⟩
theorem lf_Kc_19 : Cond.fieldLink "KeyCodec" (19 : Nat) "KeyCodec" "loaded" "LKeyCodec$Tuple;" ∈ kTs := km 117 (by decide +kernel) (by decide +kernel)
theorem lf_Kc_23 : Cond.fieldLink "KeyCodec" (23 : Nat) "KeyCodec" "scratch" "LKeyCodec$Tuple;" ∈ kTs := km 118 (by decide +kernel) (by decide +kernel)
theorem lc_Kc_26 : Cond.classLink "KeyCodec" (26 : Nat) "KeyCodec$Row" ∈ kTs := km 100 (by decide +kernel) (by decide +kernel)
theorem kb_Row_init : kCB M_Row_init 0 := ⟨km 5 (by decide +kernel) (by decide +kernel), km 104 (by decide +kernel) (by decide +kernel), by decide +kernel, by decide +kernel⟩
theorem lg_Kc_28 : kCIN "KeyCodec" 28 M_Row_init 0 "KeyCodec" := ⟨kb_Row_init, (by decide +kernel), km 103 (by decide +kernel) (by decide +kernel), rfl, rfl⟩
theorem lf_Kc_29 : Cond.fieldLink "KeyCodec" (29 : Nat) "KeyCodec" "keyRow" "LKeyCodec$Row;" ∈ kTs := km 119 (by decide +kernel) (by decide +kernel)
theorem lf_Kc_33 : Cond.fieldLink "KeyCodec" (33 : Nat) "KeyCodec" "left" "LKeyCodec$Row;" ∈ kTs := km 120 (by decide +kernel) (by decide +kernel)
theorem lf_Kc_36 : Cond.fieldLink "KeyCodec" (36 : Nat) "KeyCodec" "right" "LKeyCodec$Row;" ∈ kTs := km 121 (by decide +kernel) (by decide +kernel)
theorem lf_Kc_39 : Cond.fieldLink "KeyCodec" (39 : Nat) "KeyCodec" "keptTuples" "[LKeyCodec$Tuple;" ∈ kTs := km 122 (by decide +kernel) (by decide +kernel)
theorem lf_Kc_43 : Cond.fieldLink "KeyCodec" (43 : Nat) "KeyCodec" "keptKeys" "[LKeyCodec$Row;" ∈ kTs := km 123 (by decide +kernel) (by decide +kernel)
theorem lf_Kc_47 : Cond.fieldLink "KeyCodec" (47 : Nat) "KeyCodec" "keptCount" "I" ∈ kTs := km 124 (by decide +kernel) (by decide +kernel)
theorem lf_Kc_51 : Cond.fieldLink "KeyCodec" (51 : Nat) "KeyCodec" "low" "LKeyCodec$Row;" ∈ kTs := km 125 (by decide +kernel) (by decide +kernel)
theorem lf_Kc_54 : Cond.fieldLink "KeyCodec" (54 : Nat) "KeyCodec" "high" "LKeyCodec$Row;" ∈ kTs := km 126 (by decide +kernel) (by decide +kernel)
theorem lf_Kc_57 : Cond.fieldLink "KeyCodec" (57 : Nat) "KeyCodec" "highEnds" "Z" ∈ kTs := km 127 (by decide +kernel) (by decide +kernel)
theorem lf_Kc_68 : Cond.fieldLink "KeyCodec" (68 : Nat) "KeyCodec$Schema" "closed" "Z" ∈ kTs := km 41 (by decide +kernel) (by decide +kernel)
theorem lf_Kc_71 : Cond.fieldLink "KeyCodec" (71 : Nat) "KeyCodec$Schema" "count" "I" ∈ kTs := km 39 (by decide +kernel) (by decide +kernel)
theorem kb_Schema_append : kCB M_Schema_append 2 := ⟨km 2 (by decide +kernel) (by decide +kernel), km 474 (by decide +kernel) (by decide +kernel), by decide +kernel, by decide +kernel⟩
theorem lg_Kc_79 : kCV "KeyCodec" 79 M_Schema_append 2 4 := ⟨kb_Schema_append, km 471 (by decide +kernel) (by decide +kernel), km 472 (by decide +kernel) (by decide +kernel), km 473 (by decide +kernel) (by decide +kernel), (F_Schema, 4), rfl⟩
theorem lg_Kc_83 : kCV "KeyCodec" 83 M_Tuple_reset 0 3 := ⟨kb_Tuple_reset, km 157 (by decide +kernel) (by decide +kernel), km 158 (by decide +kernel) (by decide +kernel), km 159 (by decide +kernel) (by decide +kernel), (F_Tuple, 1), rfl⟩
theorem kb_Schema_reset : kCB M_Schema_reset 0 := ⟨km 2 (by decide +kernel) (by decide +kernel), km 172 (by decide +kernel) (by decide +kernel), by decide +kernel, by decide +kernel⟩
theorem lg_Kc_86 : kCV "KeyCodec" 86 M_Schema_reset 0 4 := ⟨kb_Schema_reset, km 169 (by decide +kernel) (by decide +kernel), km 170 (by decide +kernel) (by decide +kernel), km 171 (by decide +kernel) (by decide +kernel), (F_Schema, 4), rfl⟩
theorem lg_Kc_87 : kCV "KeyCodec" 87 M_Row_empty 0 1 := ⟨kb_Row_empty, km 173 (by decide +kernel) (by decide +kernel), km 174 (by decide +kernel) (by decide +kernel), km 175 (by decide +kernel) (by decide +kernel), (F_Row, 2), rfl⟩
theorem kb_Schema_isUsable : kCB M_Schema_isUsable 1 := ⟨km 2 (by decide +kernel) (by decide +kernel), km 184 (by decide +kernel) (by decide +kernel), by decide +kernel, by decide +kernel⟩
theorem lg_Kc_90 : kCV "KeyCodec" 90 M_Schema_isUsable 1 4 := ⟨kb_Schema_isUsable, km 181 (by decide +kernel) (by decide +kernel), km 182 (by decide +kernel) (by decide +kernel), km 183 (by decide +kernel) (by decide +kernel), (F_Schema, 4), rfl⟩
theorem lg_Kc_94 : kCV "KeyCodec" 94 M_Schema_allows 3 4 := ⟨kb_Schema_allows, km 185 (by decide +kernel) (by decide +kernel), km 186 (by decide +kernel) (by decide +kernel), km 187 (by decide +kernel) (by decide +kernel), (F_Schema, 4), rfl⟩
theorem lf_Kc_98 : Cond.fieldLink "KeyCodec" (98 : Nat) "KeyCodec$Tuple" "values" "[LKeyCodec$Value;" ∈ kTs := km 96 (by decide +kernel) (by decide +kernel)
theorem lg_Kc_102 : kCV "KeyCodec" 102 M_Value_become 2 2 := ⟨kb_Value_become, km 193 (by decide +kernel) (by decide +kernel), km 162 (by decide +kernel) (by decide +kernel), km 163 (by decide +kernel) (by decide +kernel), (F_Value, 5), rfl⟩
theorem lf_Kc_108 : Cond.fieldLink "KeyCodec" (108 : Nat) "KeyCodec$Schema" "kinds" "[I" ∈ kTs := km 34 (by decide +kernel) (by decide +kernel)
theorem lg_Kc_112 : kCV "KeyCodec" 112 M_Value_append 1 2 := ⟨kb_Value_append, km 198 (by decide +kernel) (by decide +kernel), km 199 (by decide +kernel) (by decide +kernel), km 200 (by decide +kernel) (by decide +kernel), (F_Value, 5), rfl⟩
theorem lg_Kc_114 : kCV "KeyCodec" 114 M_Schema_has 2 4 := ⟨kb_Schema_has, km 206 (by decide +kernel) (by decide +kernel), km 207 (by decide +kernel) (by decide +kernel), km 208 (by decide +kernel) (by decide +kernel), (F_Schema, 4), rfl⟩
theorem lg_Kc_118 : kCV "KeyCodec" 118 M_Value_vanish 0 2 := ⟨kb_Value_vanish, km 210 (by decide +kernel) (by decide +kernel), km 211 (by decide +kernel) (by decide +kernel), km 212 (by decide +kernel) (by decide +kernel), (F_Value, 5), rfl⟩
theorem lK_Kc_121 : Cond.constantLong "KeyCodec" (121 : Nat) (-1 : Int64) ∈ kTs := km 219 (by decide +kernel) (by decide +kernel)
theorem lf_Kc_123 : Cond.fieldLink "KeyCodec" (123 : Nat) "KeyCodec$Value" "missing" "Z" ∈ kTs := km 68 (by decide +kernel) (by decide +kernel)
theorem lf_Kc_126 : Cond.fieldLink "KeyCodec" (126 : Nat) "KeyCodec$Value" "size" "I" ∈ kTs := km 81 (by decide +kernel) (by decide +kernel)
theorem lf_Kc_129 : Cond.fieldLink "KeyCodec" (129 : Nat) "KeyCodec$Value" "number" "J" ∈ kTs := km 71 (by decide +kernel) (by decide +kernel)
theorem lf_Kc_133 : Cond.fieldLink "KeyCodec" (133 : Nat) "KeyCodec$Value" "form" "I" ∈ kTs := km 75 (by decide +kernel) (by decide +kernel)
theorem kb_Value_byteAt : kCB M_Value_byteAt 1 := ⟨km 4 (by decide +kernel) (by decide +kernel), km 223 (by decide +kernel) (by decide +kernel), by decide +kernel, by decide +kernel⟩
theorem lg_Kc_136 : kCV "KeyCodec" 136 M_Value_byteAt 1 2 := ⟨kb_Value_byteAt, km 220 (by decide +kernel) (by decide +kernel), km 221 (by decide +kernel) (by decide +kernel), km 222 (by decide +kernel) (by decide +kernel), (F_Value, 5), rfl⟩
theorem kb_Writer_writeKey : kCB M_Writer_writeKey 3 := ⟨km 12 (by decide +kernel) (by decide +kernel), km 485 (by decide +kernel) (by decide +kernel), by decide +kernel, by decide +kernel⟩
theorem lg_Kc_142 : kCS "KeyCodec" 142 M_Writer_writeKey 3 := ⟨kb_Writer_writeKey, km 483 (by decide +kernel) (by decide +kernel), km 484 (by decide +kernel) (by decide +kernel)⟩
theorem lf_Kc_148 : Cond.fieldLink "KeyCodec" (148 : Nat) "KeyCodec$Row" "size" "I" ∈ kTs := km 108 (by decide +kernel) (by decide +kernel)
theorem kb_Row_hasRoomFor : kCB M_Row_hasRoomFor 1 := ⟨km 5 (by decide +kernel) (by decide +kernel), km 231 (by decide +kernel) (by decide +kernel), by decide +kernel, by decide +kernel⟩
theorem lg_Kc_149 : kCV "KeyCodec" 149 M_Row_hasRoomFor 1 1 := ⟨kb_Row_hasRoomFor, km 228 (by decide +kernel) (by decide +kernel), km 229 (by decide +kernel) (by decide +kernel), km 230 (by decide +kernel) (by decide +kernel), (F_Row, 2), rfl⟩
theorem lg_Kc_152 : kCV "KeyCodec" 152 M_Row_appendLowest 3 1 := ⟨kb_Row_appendLowest, km 232 (by decide +kernel) (by decide +kernel), km 233 (by decide +kernel) (by decide +kernel), km 234 (by decide +kernel) (by decide +kernel), (F_Row, 2), rfl⟩
theorem lg_Kc_156 : kCV "KeyCodec" 156 M_Row_byteAt 1 1 := ⟨kb_Row_byteAt, km 248 (by decide +kernel) (by decide +kernel), km 249 (by decide +kernel) (by decide +kernel), km 250 (by decide +kernel) (by decide +kernel), (F_Row, 2), rfl⟩
theorem lc_Kc_157 : Cond.classLink "KeyCodec" (157 : Nat) "KeyCodec$KeyReader" ∈ kTs := km 498 (by decide +kernel) (by decide +kernel)
theorem kb_Reader_init : kCB M_Reader_init 2 := ⟨km 14 (by decide +kernel) (by decide +kernel), km 502 (by decide +kernel) (by decide +kernel), by decide +kernel, by decide +kernel⟩
theorem lg_Kc_159 : kCI "KeyCodec" 159 M_Reader_init 2 := ⟨kb_Reader_init, km 500 (by decide +kernel) (by decide +kernel), km 501 (by decide +kernel) (by decide +kernel), rfl, rfl⟩
theorem kb_Reader_readTuple : kCB M_Reader_readTuple 1 := ⟨km 14 (by decide +kernel) (by decide +kernel), km 523 (by decide +kernel) (by decide +kernel), by decide +kernel, by decide +kernel⟩
theorem lg_Kc_162 : kCV "KeyCodec" 162 M_Reader_readTuple 1 5 := ⟨kb_Reader_readTuple, km 520 (by decide +kernel) (by decide +kernel), km 521 (by decide +kernel) (by decide +kernel), km 522 (by decide +kernel) (by decide +kernel), (F_Reader, 5), rfl⟩
theorem kb_Row_orderAgainst : kCB M_Row_orderAgainst 1 := ⟨km 5 (by decide +kernel) (by decide +kernel), km 324 (by decide +kernel) (by decide +kernel), by decide +kernel, by decide +kernel⟩
theorem lg_Kc_166 : kCV "KeyCodec" 166 M_Row_orderAgainst 1 1 := ⟨kb_Row_orderAgainst, km 321 (by decide +kernel) (by decide +kernel), km 322 (by decide +kernel) (by decide +kernel), km 323 (by decide +kernel) (by decide +kernel), (F_Row, 2), rfl⟩
theorem kb_Tuple_become : kCB M_Tuple_become 1 := ⟨km 3 (by decide +kernel) (by decide +kernel), km 263 (by decide +kernel) (by decide +kernel), by decide +kernel, by decide +kernel⟩
theorem lg_Kc_172 : kCV "KeyCodec" 172 M_Tuple_become 1 3 := ⟨kb_Tuple_become, km 260 (by decide +kernel) (by decide +kernel), km 261 (by decide +kernel) (by decide +kernel), km 262 (by decide +kernel) (by decide +kernel), (F_Tuple, 1), rfl⟩
theorem kb_Kc_isKept : kCB M_Kc_isKept 1 := ⟨km 1 (by decide +kernel) (by decide +kernel), km 259 (by decide +kernel) (by decide +kernel), by decide +kernel, by decide +kernel⟩
theorem lg_Kc_177 : kCV "KeyCodec" 177 M_Kc_isKept 1 0 := ⟨kb_Kc_isKept, km 256 (by decide +kernel) (by decide +kernel), km 258 (by decide +kernel) (by decide +kernel), kms 0 (by decide +kernel) (by decide +kernel), (F_Kc, 12), rfl⟩
theorem kb_Kc_writeStart : kCB M_Kc_writeStart 3 := ⟨km 1 (by decide +kernel) (by decide +kernel), km 282 (by decide +kernel) (by decide +kernel), by decide +kernel, by decide +kernel⟩
theorem lg_Kc_180 : kCV "KeyCodec" 180 M_Kc_writeStart 3 0 := ⟨kb_Kc_writeStart, km 279 (by decide +kernel) (by decide +kernel), km 281 (by decide +kernel) (by decide +kernel), kms 1 (by decide +kernel) (by decide +kernel), (F_Kc, 12), rfl⟩
theorem kb_Kc_countBefore : kCB M_Kc_countBefore 1 := ⟨km 1 (by decide +kernel) (by decide +kernel), km 347 (by decide +kernel) (by decide +kernel), by decide +kernel, by decide +kernel⟩
theorem lg_Kc_184 : kCV "KeyCodec" 184 M_Kc_countBefore 1 0 := ⟨kb_Kc_countBefore, km 344 (by decide +kernel) (by decide +kernel), km 346 (by decide +kernel) (by decide +kernel), kms 2 (by decide +kernel) (by decide +kernel), (F_Kc, 12), rfl⟩
theorem kb_Kc_withRank : kCB M_Kc_withRank 1 := ⟨km 1 (by decide +kernel) (by decide +kernel), km 355 (by decide +kernel) (by decide +kernel), by decide +kernel, by decide +kernel⟩
theorem lg_Kc_187 : kCV "KeyCodec" 187 M_Kc_withRank 1 0 := ⟨kb_Kc_withRank, km 352 (by decide +kernel) (by decide +kernel), km 354 (by decide +kernel) (by decide +kernel), kms 3 (by decide +kernel) (by decide +kernel), (F_Kc, 12), rfl⟩
theorem lg_Kc_190 : kCV "KeyCodec" 190 M_Row_sharedWith 1 1 := ⟨kb_Row_sharedWith, km 356 (by decide +kernel) (by decide +kernel), km 326 (by decide +kernel) (by decide +kernel), km 327 (by decide +kernel) (by decide +kernel), (F_Row, 2), rfl⟩
theorem kb_Row_becomeEndOf : kCB M_Row_becomeEndOf 1 := ⟨km 5 (by decide +kernel) (by decide +kernel), km 364 (by decide +kernel) (by decide +kernel), by decide +kernel, by decide +kernel⟩
theorem lg_Kc_193 : kCV "KeyCodec" 193 M_Row_becomeEndOf 1 1 := ⟨kb_Row_becomeEndOf, km 361 (by decide +kernel) (by decide +kernel), km 362 (by decide +kernel) (by decide +kernel), km 363 (by decide +kernel) (by decide +kernel), (F_Row, 2), rfl⟩
theorem lg_Kc_197 : kCS "KeyCodec" 197 M_Writer_writeField 4 := ⟨kb_Writer_writeField, km 370 (by decide +kernel) (by decide +kernel), km 287 (by decide +kernel) (by decide +kernel)⟩
theorem lg_Kc_201 : kCS "KeyCodec" 201 M_Writer_writeFields 4 := ⟨kb_Writer_writeFields, km 283 (by decide +kernel) (by decide +kernel), km 284 (by decide +kernel) (by decide +kernel)⟩
