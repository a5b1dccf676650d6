abbrev M_Mod_init : MethodName × ByteArray × Nat × Option FieldType := (⟨"KeyCodecModel", "<init>", "()V"⟩, prog_9_method_1_code, 1, none)
theorem d_Mod_init_0 : decode prog_9_method_1_code 0 = .ok (.aload_n 0, 1) := by decide +kernel
theorem d_Mod_init_1 : decode prog_9_method_1_code 1 = .ok (.invokespecial 1, 3) := by decide +kernel
theorem d_Mod_init_4 : decode prog_9_method_1_code 4 = .ok (.aload_n 0, 1) := by decide +kernel
theorem d_Mod_init_5 : decode prog_9_method_1_code 5 = .ok (.iconst 5, 1) := by decide +kernel
theorem d_Mod_init_6 : decode prog_9_method_1_code 6 = .ok (.newarray .int, 2) := by decide +kernel
theorem d_Mod_init_8 : decode prog_9_method_1_code 8 = .ok (.putfield 7, 3) := by decide +kernel
theorem d_Mod_init_11 : decode prog_9_method_1_code 11 = .ok (.aload_n 0, 1) := by decide +kernel
theorem d_Mod_init_12 : decode prog_9_method_1_code 12 = .ok (.iconst 5, 1) := by decide +kernel
theorem d_Mod_init_13 : decode prog_9_method_1_code 13 = .ok (.newarray .int, 2) := by decide +kernel
theorem d_Mod_init_15 : decode prog_9_method_1_code 15 = .ok (.putfield 13, 3) := by decide +kernel
theorem d_Mod_init_18 : decode prog_9_method_1_code 18 = .ok (.aload_n 0, 1) := by decide +kernel
theorem d_Mod_init_19 : decode prog_9_method_1_code 19 = .ok (.bipush 70, 2) := by decide +kernel
theorem d_Mod_init_21 : decode prog_9_method_1_code 21 = .ok (.newarray .long, 2) := by decide +kernel
theorem d_Mod_init_23 : decode prog_9_method_1_code 23 = .ok (.putfield 16, 3) := by decide +kernel
theorem d_Mod_init_26 : decode prog_9_method_1_code 26 = .ok (.aload_n 0, 1) := by decide +kernel
theorem d_Mod_init_27 : decode prog_9_method_1_code 27 = .ok (.bipush 70, 2) := by decide +kernel
theorem d_Mod_init_29 : decode prog_9_method_1_code 29 = .ok (.newarray .int, 2) := by decide +kernel
theorem d_Mod_init_31 : decode prog_9_method_1_code 31 = .ok (.putfield 20, 3) := by decide +kernel
theorem d_Mod_init_34 : decode prog_9_method_1_code 34 = .ok (.aload_n 0, 1) := by decide +kernel
theorem d_Mod_init_35 : decode prog_9_method_1_code 35 = .ok (.bipush 70, 2) := by decide +kernel
theorem d_Mod_init_37 : decode prog_9_method_1_code 37 = .ok (.newarray .boolean, 2) := by decide +kernel
theorem d_Mod_init_39 : decode prog_9_method_1_code 39 = .ok (.putfield 23, 3) := by decide +kernel
theorem d_Mod_init_42 : decode prog_9_method_1_code 42 = .ok (.aload_n 0, 1) := by decide +kernel
theorem d_Mod_init_43 : decode prog_9_method_1_code 43 = .ok (.bipush 70, 2) := by decide +kernel
theorem d_Mod_init_45 : decode prog_9_method_1_code 45 = .ok (.newarray .int, 2) := by decide +kernel
theorem d_Mod_init_47 : decode prog_9_method_1_code 47 = .ok (.putfield 27, 3) := by decide +kernel
theorem d_Mod_init_50 : decode prog_9_method_1_code 50 = .ok (.aload_n 0, 1) := by decide +kernel
theorem d_Mod_init_51 : decode prog_9_method_1_code 51 = .ok (.sipush 700, 3) := by decide +kernel
theorem d_Mod_init_54 : decode prog_9_method_1_code 54 = .ok (.newarray .int, 2) := by decide +kernel
theorem d_Mod_init_56 : decode prog_9_method_1_code 56 = .ok (.putfield 30, 3) := by decide +kernel
theorem d_Mod_init_59 : decode prog_9_method_1_code 59 = .ok (.aload_n 0, 1) := by decide +kernel
theorem d_Mod_init_60 : decode prog_9_method_1_code 60 = .ok (.bipush 120, 2) := by decide +kernel
theorem d_Mod_init_62 : decode prog_9_method_1_code 62 = .ok (.newarray .int, 2) := by decide +kernel
theorem d_Mod_init_64 : decode prog_9_method_1_code 64 = .ok (.putfield 33, 3) := by decide +kernel
theorem d_Mod_init_67 : decode prog_9_method_1_code 67 = .ok (.aload_n 0, 1) := by decide +kernel
theorem d_Mod_init_68 : decode prog_9_method_1_code 68 = .ok (.sipush 400, 3) := by decide +kernel
theorem d_Mod_init_71 : decode prog_9_method_1_code 71 = .ok (.newarray .int, 2) := by decide +kernel
theorem d_Mod_init_73 : decode prog_9_method_1_code 73 = .ok (.putfield 36, 3) := by decide +kernel
theorem d_Mod_init_76 : decode prog_9_method_1_code 76 = .ok (.aload_n 0, 1) := by decide +kernel
theorem d_Mod_init_77 : decode prog_9_method_1_code 77 = .ok (.bipush 12, 2) := by decide +kernel
theorem d_Mod_init_79 : decode prog_9_method_1_code 79 = .ok (.newarray .int, 2) := by decide +kernel
theorem d_Mod_init_81 : decode prog_9_method_1_code 81 = .ok (.putfield 39, 3) := by decide +kernel
theorem d_Mod_init_84 : decode prog_9_method_1_code 84 = .ok (.aload_n 0, 1) := by decide +kernel
theorem d_Mod_init_85 : decode prog_9_method_1_code 85 = .ok (.iconst 2, 1) := by decide +kernel
theorem d_Mod_init_86 : decode prog_9_method_1_code 86 = .ok (.newarray .int, 2) := by decide +kernel
theorem d_Mod_init_88 : decode prog_9_method_1_code 88 = .ok (.putfield 42, 3) := by decide +kernel
theorem d_Mod_init_91 : decode prog_9_method_1_code 91 = .ok (.aload_n 0, 1) := by decide +kernel
theorem d_Mod_init_92 : decode prog_9_method_1_code 92 = .ok (.sipush 200, 3) := by decide +kernel
theorem d_Mod_init_95 : decode prog_9_method_1_code 95 = .ok (.newarray .int, 2) := by decide +kernel
theorem d_Mod_init_97 : decode prog_9_method_1_code 97 = .ok (.putfield 45, 3) := by decide +kernel
theorem d_Mod_init_100 : decode prog_9_method_1_code 100 = .ok (.aload_n 0, 1) := by decide +kernel
theorem d_Mod_init_101 : decode prog_9_method_1_code 101 = .ok (.sipush 200, 3) := by decide +kernel
theorem d_Mod_init_104 : decode prog_9_method_1_code 104 = .ok (.newarray .int, 2) := by decide +kernel
theorem d_Mod_init_106 : decode prog_9_method_1_code 106 = .ok (.putfield 48, 3) := by decide +kernel
theorem d_Mod_init_109 : decode prog_9_method_1_code 109 = .ok (.aload_n 0, 1) := by decide +kernel
theorem d_Mod_init_110 : decode prog_9_method_1_code 110 = .ok (.iconst (-1), 1) := by decide +kernel
theorem d_Mod_init_111 : decode prog_9_method_1_code 111 = .ok (.putfield 51, 3) := by decide +kernel
theorem d_Mod_init_114 : decode prog_9_method_1_code 114 = .ok (.return_, 1) := by decide +kernel
abbrev M_Mod_thrown : MethodName × ByteArray × Nat × Option FieldType := (⟨"KeyCodecModel", "thrown", "()I"⟩, prog_9_method_2_code, 1, some .int)
theorem d_Mod_thrown_0 : decode prog_9_method_2_code 0 = .ok (.aload_n 0, 1) := by decide +kernel
theorem d_Mod_thrown_1 : decode prog_9_method_2_code 1 = .ok (.getfield 55, 3) := by decide +kernel
theorem d_Mod_thrown_4 : decode prog_9_method_2_code 4 = .ok (.ireturn, 1) := by decide +kernel
abbrev M_Mod_isDown : MethodName × ByteArray × Nat × Option FieldType := (⟨"KeyCodecModel", "isDown", "(I)Z"⟩, prog_9_method_3_code, 2, some .boolean)
theorem d_Mod_isDown_0 : decode prog_9_method_3_code 0 = .ok (.aload_n 0, 1) := by decide +kernel
theorem d_Mod_isDown_1 : decode prog_9_method_3_code 1 = .ok (.getfield 13, 3) := by decide +kernel
theorem d_Mod_isDown_4 : decode prog_9_method_3_code 4 = .ok (.iload_n 1, 1) := by decide +kernel
theorem d_Mod_isDown_5 : decode prog_9_method_3_code 5 = .ok (.iaload, 1) := by decide +kernel
theorem d_Mod_isDown_6 : decode prog_9_method_3_code 6 = .ok (.iconst 1, 1) := by decide +kernel
theorem d_Mod_isDown_7 : decode prog_9_method_3_code 7 = .ok (.iand, 1) := by decide +kernel
theorem d_Mod_isDown_8 : decode prog_9_method_3_code 8 = .ok (.ifCond .eq 7, 3) := by decide +kernel
theorem d_Mod_isDown_11 : decode prog_9_method_3_code 11 = .ok (.iconst 1, 1) := by decide +kernel
theorem d_Mod_isDown_12 : decode prog_9_method_3_code 12 = .ok (.goto 4, 3) := by decide +kernel
theorem d_Mod_isDown_15 : decode prog_9_method_3_code 15 = .ok (.iconst 0, 1) := by decide +kernel
theorem d_Mod_isDown_16 : decode prog_9_method_3_code 16 = .ok (.ireturn, 1) := by decide +kernel
abbrev M_Mod_isOptional : MethodName × ByteArray × Nat × Option FieldType := (⟨"KeyCodecModel", "isOptional", "(I)Z"⟩, prog_9_method_4_code, 2, some .boolean)
theorem d_Mod_isOptional_0 : decode prog_9_method_4_code 0 = .ok (.aload_n 0, 1) := by decide +kernel
theorem d_Mod_isOptional_1 : decode prog_9_method_4_code 1 = .ok (.getfield 13, 3) := by decide +kernel
theorem d_Mod_isOptional_4 : decode prog_9_method_4_code 4 = .ok (.iload_n 1, 1) := by decide +kernel
theorem d_Mod_isOptional_5 : decode prog_9_method_4_code 5 = .ok (.iaload, 1) := by decide +kernel
theorem d_Mod_isOptional_6 : decode prog_9_method_4_code 6 = .ok (.iconst 2, 1) := by decide +kernel
theorem d_Mod_isOptional_7 : decode prog_9_method_4_code 7 = .ok (.iand, 1) := by decide +kernel
theorem d_Mod_isOptional_8 : decode prog_9_method_4_code 8 = .ok (.ifCond .eq 7, 3) := by decide +kernel
theorem d_Mod_isOptional_11 : decode prog_9_method_4_code 11 = .ok (.iconst 1, 1) := by decide +kernel
theorem d_Mod_isOptional_12 : decode prog_9_method_4_code 12 = .ok (.goto 4, 3) := by decide +kernel
theorem d_Mod_isOptional_15 : decode prog_9_method_4_code 15 = .ok (.iconst 0, 1) := by decide +kernel
theorem d_Mod_isOptional_16 : decode prog_9_method_4_code 16 = .ok (.ireturn, 1) := by decide +kernel
abbrev M_Mod_isLast : MethodName × ByteArray × Nat × Option FieldType := (⟨"KeyCodecModel", "isLast", "(I)Z"⟩, prog_9_method_5_code, 2, some .boolean)
theorem d_Mod_isLast_0 : decode prog_9_method_5_code 0 = .ok (.aload_n 0, 1) := by decide +kernel
theorem d_Mod_isLast_1 : decode prog_9_method_5_code 1 = .ok (.getfield 13, 3) := by decide +kernel
theorem d_Mod_isLast_4 : decode prog_9_method_5_code 4 = .ok (.iload_n 1, 1) := by decide +kernel
theorem d_Mod_isLast_5 : decode prog_9_method_5_code 5 = .ok (.iaload, 1) := by decide +kernel
theorem d_Mod_isLast_6 : decode prog_9_method_5_code 6 = .ok (.iconst 4, 1) := by decide +kernel
theorem d_Mod_isLast_7 : decode prog_9_method_5_code 7 = .ok (.iand, 1) := by decide +kernel
theorem d_Mod_isLast_8 : decode prog_9_method_5_code 8 = .ok (.ifCond .eq 7, 3) := by decide +kernel
theorem d_Mod_isLast_11 : decode prog_9_method_5_code 11 = .ok (.iconst 1, 1) := by decide +kernel
theorem d_Mod_isLast_12 : decode prog_9_method_5_code 12 = .ok (.goto 4, 3) := by decide +kernel
theorem d_Mod_isLast_15 : decode prog_9_method_5_code 15 = .ok (.iconst 0, 1) := by decide +kernel
theorem d_Mod_isLast_16 : decode prog_9_method_5_code 16 = .ok (.ireturn, 1) := by decide +kernel
abbrev M_Mod_field : MethodName × ByteArray × Nat × Option FieldType := (⟨"KeyCodecModel", "field", "(II)I"⟩, prog_9_method_6_code, 3, some .int)
theorem d_Mod_field_0 : decode prog_9_method_6_code 0 = .ok (.aload_n 0, 1) := by decide +kernel
theorem d_Mod_field_1 : decode prog_9_method_6_code 1 = .ok (.iload_n 1, 1) := by decide +kernel
theorem d_Mod_field_2 : decode prog_9_method_6_code 2 = .ok (.ifCond .lt 18, 3) := by decide +kernel
theorem d_Mod_field_5 : decode prog_9_method_6_code 5 = .ok (.iload_n 1, 1) := by decide +kernel
theorem d_Mod_field_6 : decode prog_9_method_6_code 6 = .ok (.iconst 3, 1) := by decide +kernel
theorem d_Mod_field_7 : decode prog_9_method_6_code 7 = .ok (.if_icmp .gt 13, 3) := by decide +kernel
theorem d_Mod_field_10 : decode prog_9_method_6_code 10 = .ok (.iload_n 2, 1) := by decide +kernel
theorem d_Mod_field_11 : decode prog_9_method_6_code 11 = .ok (.ifCond .lt 9, 3) := by decide +kernel
theorem d_Mod_field_14 : decode prog_9_method_6_code 14 = .ok (.iload_n 2, 1) := by decide +kernel
theorem d_Mod_field_15 : decode prog_9_method_6_code 15 = .ok (.bipush 7, 2) := by decide +kernel
theorem d_Mod_field_17 : decode prog_9_method_6_code 17 = .ok (.if_icmp .le 7, 3) := by decide +kernel
theorem d_Mod_field_20 : decode prog_9_method_6_code 20 = .ok (.iconst 1, 1) := by decide +kernel
theorem d_Mod_field_21 : decode prog_9_method_6_code 21 = .ok (.goto 23, 3) := by decide +kernel
theorem d_Mod_field_24 : decode prog_9_method_6_code 24 = .ok (.aload_n 0, 1) := by decide +kernel
theorem d_Mod_field_25 : decode prog_9_method_6_code 25 = .ok (.getfield 58, 3) := by decide +kernel
theorem d_Mod_field_28 : decode prog_9_method_6_code 28 = .ok (.ifCond .ne 11, 3) := by decide +kernel
theorem d_Mod_field_31 : decode prog_9_method_6_code 31 = .ok (.aload_n 0, 1) := by decide +kernel
theorem d_Mod_field_32 : decode prog_9_method_6_code 32 = .ok (.getfield 62, 3) := by decide +kernel
theorem d_Mod_field_35 : decode prog_9_method_6_code 35 = .ok (.iconst 5, 1) := by decide +kernel
theorem d_Mod_field_36 : decode prog_9_method_6_code 36 = .ok (.if_icmp .ne 7, 3) := by decide +kernel
theorem d_Mod_field_39 : decode prog_9_method_6_code 39 = .ok (.iconst 2, 1) := by decide +kernel
theorem d_Mod_field_40 : decode prog_9_method_6_code 40 = .ok (.goto 4, 3) := by decide +kernel
theorem d_Mod_field_43 : decode prog_9_method_6_code 43 = .ok (.iconst 0, 1) := by decide +kernel
theorem d_Mod_field_44 : decode prog_9_method_6_code 44 = .ok (.putfield 55, 3) := by decide +kernel
theorem d_Mod_field_47 : decode prog_9_method_6_code 47 = .ok (.aload_n 0, 1) := by decide +kernel
theorem d_Mod_field_48 : decode prog_9_method_6_code 48 = .ok (.getfield 55, 3) := by decide +kernel
theorem d_Mod_field_51 : decode prog_9_method_6_code 51 = .ok (.ifCond .eq 5, 3) := by decide +kernel
theorem d_Mod_field_54 : decode prog_9_method_6_code 54 = .ok (.iconst 0, 1) := by decide +kernel
theorem d_Mod_field_55 : decode prog_9_method_6_code 55 = .ok (.ireturn, 1) := by decide +kernel
theorem d_Mod_field_56 : decode prog_9_method_6_code 56 = .ok (.aload_n 0, 1) := by decide +kernel
theorem d_Mod_field_57 : decode prog_9_method_6_code 57 = .ok (.getfield 7, 3) := by decide +kernel
theorem d_Mod_field_60 : decode prog_9_method_6_code 60 = .ok (.aload_n 0, 1) := by decide +kernel
theorem d_Mod_field_61 : decode prog_9_method_6_code 61 = .ok (.getfield 62, 3) := by decide +kernel
theorem d_Mod_field_64 : decode prog_9_method_6_code 64 = .ok (.iload_n 1, 1) := by decide +kernel
theorem d_Mod_field_65 : decode prog_9_method_6_code 65 = .ok (.iastore, 1) := by decide +kernel
theorem d_Mod_field_66 : decode prog_9_method_6_code 66 = .ok (.aload_n 0, 1) := by decide +kernel
theorem d_Mod_field_67 : decode prog_9_method_6_code 67 = .ok (.getfield 13, 3) := by decide +kernel
theorem d_Mod_field_70 : decode prog_9_method_6_code 70 = .ok (.aload_n 0, 1) := by decide +kernel
theorem d_Mod_field_71 : decode prog_9_method_6_code 71 = .ok (.getfield 62, 3) := by decide +kernel
theorem d_Mod_field_74 : decode prog_9_method_6_code 74 = .ok (.iload_n 2, 1) := by decide +kernel
theorem d_Mod_field_75 : decode prog_9_method_6_code 75 = .ok (.iastore, 1) := by decide +kernel
theorem d_Mod_field_76 : decode prog_9_method_6_code 76 = .ok (.aload_n 0, 1) := by decide +kernel
theorem d_Mod_field_77 : decode prog_9_method_6_code 77 = .ok (.dup, 1) := by decide +kernel
theorem d_Mod_field_78 : decode prog_9_method_6_code 78 = .ok (.getfield 62, 3) := by decide +kernel
theorem d_Mod_field_81 : decode prog_9_method_6_code 81 = .ok (.iconst 1, 1) := by decide +kernel
theorem d_Mod_field_82 : decode prog_9_method_6_code 82 = .ok (.iadd, 1) := by decide +kernel
theorem d_Mod_field_83 : decode prog_9_method_6_code 83 = .ok (.putfield 62, 3) := by decide +kernel
theorem d_Mod_field_86 : decode prog_9_method_6_code 86 = .ok (.aload_n 0, 1) := by decide +kernel
theorem d_Mod_field_87 : decode prog_9_method_6_code 87 = .ok (.getfield 62, 3) := by decide +kernel
theorem d_Mod_field_90 : decode prog_9_method_6_code 90 = .ok (.iconst 1, 1) := by decide +kernel
theorem d_Mod_field_91 : decode prog_9_method_6_code 91 = .ok (.isub, 1) := by decide +kernel
theorem d_Mod_field_92 : decode prog_9_method_6_code 92 = .ok (.ireturn, 1) := by decide +kernel
abbrev M_Mod_empty : MethodName × ByteArray × Nat × Option FieldType := (⟨"KeyCodecModel", "empty", "(I)V"⟩, prog_9_method_7_code, 3, none)
theorem d_Mod_empty_0 : decode prog_9_method_7_code 0 = .ok (.iconst 5, 1) := by decide +kernel
theorem d_Mod_empty_1 : decode prog_9_method_7_code 1 = .ok (.iload_n 1, 1) := by decide +kernel
theorem d_Mod_empty_2 : decode prog_9_method_7_code 2 = .ok (.imul, 1) := by decide +kernel
theorem d_Mod_empty_3 : decode prog_9_method_7_code 3 = .ok (.istore_n 2, 1) := by decide +kernel
theorem d_Mod_empty_4 : decode prog_9_method_7_code 4 = .ok (.iload_n 2, 1) := by decide +kernel
theorem d_Mod_empty_5 : decode prog_9_method_7_code 5 = .ok (.iconst 5, 1) := by decide +kernel
theorem d_Mod_empty_6 : decode prog_9_method_7_code 6 = .ok (.iload_n 1, 1) := by decide +kernel
theorem d_Mod_empty_7 : decode prog_9_method_7_code 7 = .ok (.imul, 1) := by decide +kernel
theorem d_Mod_empty_8 : decode prog_9_method_7_code 8 = .ok (.iconst 5, 1) := by decide +kernel
theorem d_Mod_empty_9 : decode prog_9_method_7_code 9 = .ok (.iadd, 1) := by decide +kernel
theorem d_Mod_empty_10 : decode prog_9_method_7_code 10 = .ok (.if_icmp .ge 37, 3) := by decide +kernel
theorem d_Mod_empty_13 : decode prog_9_method_7_code 13 = .ok (.aload_n 0, 1) := by decide +kernel
theorem d_Mod_empty_14 : decode prog_9_method_7_code 14 = .ok (.getfield 16, 3) := by decide +kernel
theorem d_Mod_empty_17 : decode prog_9_method_7_code 17 = .ok (.iload_n 2, 1) := by decide +kernel
theorem d_Mod_empty_18 : decode prog_9_method_7_code 18 = .ok (.lconst 0, 1) := by decide +kernel
theorem d_Mod_empty_19 : decode prog_9_method_7_code 19 = .ok (.lastore, 1) := by decide +kernel
theorem d_Mod_empty_20 : decode prog_9_method_7_code 20 = .ok (.aload_n 0, 1) := by decide +kernel
theorem d_Mod_empty_21 : decode prog_9_method_7_code 21 = .ok (.getfield 20, 3) := by decide +kernel
theorem d_Mod_empty_24 : decode prog_9_method_7_code 24 = .ok (.iload_n 2, 1) := by decide +kernel
theorem d_Mod_empty_25 : decode prog_9_method_7_code 25 = .ok (.iconst 0, 1) := by decide +kernel
theorem d_Mod_empty_26 : decode prog_9_method_7_code 26 = .ok (.iastore, 1) := by decide +kernel
theorem d_Mod_empty_27 : decode prog_9_method_7_code 27 = .ok (.aload_n 0, 1) := by decide +kernel
theorem d_Mod_empty_28 : decode prog_9_method_7_code 28 = .ok (.getfield 23, 3) := by decide +kernel
theorem d_Mod_empty_31 : decode prog_9_method_7_code 31 = .ok (.iload_n 2, 1) := by decide +kernel
theorem d_Mod_empty_32 : decode prog_9_method_7_code 32 = .ok (.iconst 0, 1) := by decide +kernel
theorem d_Mod_empty_33 : decode prog_9_method_7_code 33 = .ok (.bastore, 1) := by decide +kernel
theorem d_Mod_empty_34 : decode prog_9_method_7_code 34 = .ok (.aload_n 0, 1) := by decide +kernel
theorem d_Mod_empty_35 : decode prog_9_method_7_code 35 = .ok (.getfield 27, 3) := by decide +kernel
theorem d_Mod_empty_38 : decode prog_9_method_7_code 38 = .ok (.iload_n 2, 1) := by decide +kernel
theorem d_Mod_empty_39 : decode prog_9_method_7_code 39 = .ok (.iconst 0, 1) := by decide +kernel
theorem d_Mod_empty_40 : decode prog_9_method_7_code 40 = .ok (.iastore, 1) := by decide +kernel
theorem d_Mod_empty_41 : decode prog_9_method_7_code 41 = .ok (.iinc 2 1, 3) := by decide +kernel
theorem d_Mod_empty_44 : decode prog_9_method_7_code 44 = .ok (.goto (-40), 3) := by decide +kernel
theorem d_Mod_empty_47 : decode prog_9_method_7_code 47 = .ok (.return_, 1) := by decide +kernel
abbrev M_Mod_seal : MethodName × ByteArray × Nat × Option FieldType := (⟨"KeyCodecModel", "seal", "()Z"⟩, prog_9_method_8_code, 1, some .boolean)
theorem d_Mod_seal_0 : decode prog_9_method_8_code 0 = .ok (.aload_n 0, 1) := by decide +kernel
theorem d_Mod_seal_1 : decode prog_9_method_8_code 1 = .ok (.iconst 0, 1) := by decide +kernel
theorem d_Mod_seal_2 : decode prog_9_method_8_code 2 = .ok (.putfield 55, 3) := by decide +kernel
theorem d_Mod_seal_5 : decode prog_9_method_8_code 5 = .ok (.aload_n 0, 1) := by decide +kernel
theorem d_Mod_seal_6 : decode prog_9_method_8_code 6 = .ok (.getfield 58, 3) := by decide +kernel
theorem d_Mod_seal_9 : decode prog_9_method_8_code 9 = .ok (.ifCond .ne 10, 3) := by decide +kernel
theorem d_Mod_seal_12 : decode prog_9_method_8_code 12 = .ok (.aload_n 0, 1) := by decide +kernel
theorem d_Mod_seal_13 : decode prog_9_method_8_code 13 = .ok (.getfield 62, 3) := by decide +kernel
theorem d_Mod_seal_16 : decode prog_9_method_8_code 16 = .ok (.ifCond .ne 5, 3) := by decide +kernel
theorem d_Mod_seal_19 : decode prog_9_method_8_code 19 = .ok (.iconst 0, 1) := by decide +kernel
theorem d_Mod_seal_20 : decode prog_9_method_8_code 20 = .ok (.ireturn, 1) := by decide +kernel
theorem d_Mod_seal_21 : decode prog_9_method_8_code 21 = .ok (.aload_n 0, 1) := by decide +kernel
theorem d_Mod_seal_22 : decode prog_9_method_8_code 22 = .ok (.iconst 1, 1) := by decide +kernel
theorem d_Mod_seal_23 : decode prog_9_method_8_code 23 = .ok (.putfield 58, 3) := by decide +kernel
theorem d_Mod_seal_26 : decode prog_9_method_8_code 26 = .ok (.aload_n 0, 1) := by decide +kernel
theorem d_Mod_seal_27 : decode prog_9_method_8_code 27 = .ok (.iconst 0, 1) := by decide +kernel
theorem d_Mod_seal_28 : decode prog_9_method_8_code 28 = .ok (.invokevirtual 65, 3) := by decide +kernel
theorem d_Mod_seal_31 : decode prog_9_method_8_code 31 = .ok (.iconst 1, 1) := by decide +kernel
theorem d_Mod_seal_32 : decode prog_9_method_8_code 32 = .ok (.ireturn, 1) := by decide +kernel
abbrev M_Mod_clear : MethodName × ByteArray × Nat × Option FieldType := (⟨"KeyCodecModel", "clear", "()V"⟩, prog_9_method_9_code, 1, none)
theorem d_Mod_clear_0 : decode prog_9_method_9_code 0 = .ok (.aload_n 0, 1) := by decide +kernel
theorem d_Mod_clear_1 : decode prog_9_method_9_code 1 = .ok (.iconst 0, 1) := by decide +kernel
theorem d_Mod_clear_2 : decode prog_9_method_9_code 2 = .ok (.putfield 55, 3) := by decide +kernel
theorem d_Mod_clear_5 : decode prog_9_method_9_code 5 = .ok (.aload_n 0, 1) := by decide +kernel
theorem d_Mod_clear_6 : decode prog_9_method_9_code 6 = .ok (.iconst 0, 1) := by decide +kernel
theorem d_Mod_clear_7 : decode prog_9_method_9_code 7 = .ok (.putfield 58, 3) := by decide +kernel
theorem d_Mod_clear_10 : decode prog_9_method_9_code 10 = .ok (.aload_n 0, 1) := by decide +kernel
theorem d_Mod_clear_11 : decode prog_9_method_9_code 11 = .ok (.iconst 0, 1) := by decide +kernel
theorem d_Mod_clear_12 : decode prog_9_method_9_code 12 = .ok (.putfield 62, 3) := by decide +kernel
theorem d_Mod_clear_15 : decode prog_9_method_9_code 15 = .ok (.aload_n 0, 1) := by decide +kernel
theorem d_Mod_clear_16 : decode prog_9_method_9_code 16 = .ok (.iconst 0, 1) := by decide +kernel
theorem d_Mod_clear_17 : decode prog_9_method_9_code 17 = .ok (.putfield 69, 3) := by decide +kernel
theorem d_Mod_clear_20 : decode prog_9_method_9_code 20 = .ok (.aload_n 0, 1) := by decide +kernel
theorem d_Mod_clear_21 : decode prog_9_method_9_code 21 = .ok (.iconst 0, 1) := by decide +kernel
theorem d_Mod_clear_22 : decode prog_9_method_9_code 22 = .ok (.putfield 72, 3) := by decide +kernel
theorem d_Mod_clear_25 : decode prog_9_method_9_code 25 = .ok (.aload_n 0, 1) := by decide +kernel
theorem d_Mod_clear_26 : decode prog_9_method_9_code 26 = .ok (.iconst 0, 1) := by decide +kernel
theorem d_Mod_clear_27 : decode prog_9_method_9_code 27 = .ok (.invokevirtual 65, 3) := by decide +kernel
theorem d_Mod_clear_30 : decode prog_9_method_9_code 30 = .ok (.return_, 1) := by decide +kernel
abbrev M_Mod_isField : MethodName × ByteArray × Nat × Option FieldType := (⟨"KeyCodecModel", "isField", "(I)Z"⟩, prog_9_method_10_code, 2, some .boolean)
theorem d_Mod_isField_0 : decode prog_9_method_10_code 0 = .ok (.aload_n 0, 1) := by decide +kernel
theorem d_Mod_isField_1 : decode prog_9_method_10_code 1 = .ok (.getfield 58, 3) := by decide +kernel
theorem d_Mod_isField_4 : decode prog_9_method_10_code 4 = .ok (.ifCond .eq 19, 3) := by decide +kernel
theorem d_Mod_isField_7 : decode prog_9_method_10_code 7 = .ok (.iload_n 1, 1) := by decide +kernel
theorem d_Mod_isField_8 : decode prog_9_method_10_code 8 = .ok (.ifCond .lt 15, 3) := by decide +kernel
theorem d_Mod_isField_11 : decode prog_9_method_10_code 11 = .ok (.iload_n 1, 1) := by decide +kernel
theorem d_Mod_isField_12 : decode prog_9_method_10_code 12 = .ok (.aload_n 0, 1) := by decide +kernel
theorem d_Mod_isField_13 : decode prog_9_method_10_code 13 = .ok (.getfield 62, 3) := by decide +kernel
theorem d_Mod_isField_16 : decode prog_9_method_10_code 16 = .ok (.if_icmp .ge 7, 3) := by decide +kernel
theorem d_Mod_isField_19 : decode prog_9_method_10_code 19 = .ok (.iconst 1, 1) := by decide +kernel
theorem d_Mod_isField_20 : decode prog_9_method_10_code 20 = .ok (.goto 4, 3) := by decide +kernel
theorem d_Mod_isField_23 : decode prog_9_method_10_code 23 = .ok (.iconst 0, 1) := by decide +kernel
theorem d_Mod_isField_24 : decode prog_9_method_10_code 24 = .ok (.ireturn, 1) := by decide +kernel
abbrev M_Mod_isValue : MethodName × ByteArray × Nat × Option FieldType := (⟨"KeyCodecModel", "isValue", "(IJI)Z"⟩, prog_9_method_11_code, 4, some .boolean)
theorem d_Mod_isValue_0 : decode prog_9_method_11_code 0 = .ok (.iload_n 0, 1) := by decide +kernel
theorem d_Mod_isValue_1 : decode prog_9_method_11_code 1 = .ok (.ifCond .ne 13, 3) := by decide +kernel
theorem d_Mod_isValue_4 : decode prog_9_method_11_code 4 = .ok (.iload_n 3, 1) := by decide +kernel
theorem d_Mod_isValue_5 : decode prog_9_method_11_code 5 = .ok (.ifCond .ne 7, 3) := by decide +kernel
theorem d_Mod_isValue_8 : decode prog_9_method_11_code 8 = .ok (.iconst 1, 1) := by decide +kernel
theorem d_Mod_isValue_9 : decode prog_9_method_11_code 9 = .ok (.goto 4, 3) := by decide +kernel
theorem d_Mod_isValue_12 : decode prog_9_method_11_code 12 = .ok (.iconst 0, 1) := by decide +kernel
theorem d_Mod_isValue_13 : decode prog_9_method_11_code 13 = .ok (.ireturn, 1) := by decide +kernel
theorem d_Mod_isValue_14 : decode prog_9_method_11_code 14 = .ok (.iload_n 0, 1) := by decide +kernel
theorem d_Mod_isValue_15 : decode prog_9_method_11_code 15 = .ok (.iconst 1, 1) := by decide +kernel
theorem d_Mod_isValue_16 : decode prog_9_method_11_code 16 = .ok (.if_icmp .ne 35, 3) := by decide +kernel
theorem d_Mod_isValue_19 : decode prog_9_method_11_code 19 = .ok (.lload_n 1, 1) := by decide +kernel
theorem d_Mod_isValue_20 : decode prog_9_method_11_code 20 = .ok (.ldc2_w 75, 3) := by decide +kernel
theorem d_Mod_isValue_23 : decode prog_9_method_11_code 23 = .ok (.lcmp, 1) := by decide +kernel
theorem d_Mod_isValue_24 : decode prog_9_method_11_code 24 = .ok (.ifCond .lt 25, 3) := by decide +kernel
theorem d_Mod_isValue_27 : decode prog_9_method_11_code 27 = .ok (.lload_n 1, 1) := by decide +kernel
theorem d_Mod_isValue_28 : decode prog_9_method_11_code 28 = .ok (.ldc2_w 77, 3) := by decide +kernel
theorem d_Mod_isValue_31 : decode prog_9_method_11_code 31 = .ok (.lcmp, 1) := by decide +kernel
theorem d_Mod_isValue_32 : decode prog_9_method_11_code 32 = .ok (.ifCond .gt 17, 3) := by decide +kernel
theorem d_Mod_isValue_35 : decode prog_9_method_11_code 35 = .ok (.iload_n 3, 1) := by decide +kernel
theorem d_Mod_isValue_36 : decode prog_9_method_11_code 36 = .ok (.ifCond .lt 13, 3) := by decide +kernel
theorem d_Mod_isValue_39 : decode prog_9_method_11_code 39 = .ok (.iload_n 3, 1) := by decide +kernel
theorem d_Mod_isValue_40 : decode prog_9_method_11_code 40 = .ok (.bipush 9, 2) := by decide +kernel
theorem d_Mod_isValue_42 : decode prog_9_method_11_code 42 = .ok (.if_icmp .gt 7, 3) := by decide +kernel
theorem d_Mod_isValue_45 : decode prog_9_method_11_code 45 = .ok (.iconst 1, 1) := by decide +kernel
theorem d_Mod_isValue_46 : decode prog_9_method_11_code 46 = .ok (.goto 4, 3) := by decide +kernel
theorem d_Mod_isValue_49 : decode prog_9_method_11_code 49 = .ok (.iconst 0, 1) := by decide +kernel
theorem d_Mod_isValue_50 : decode prog_9_method_11_code 50 = .ok (.ireturn, 1) := by decide +kernel
theorem d_Mod_isValue_51 : decode prog_9_method_11_code 51 = .ok (.iload_n 0, 1) := by decide +kernel
theorem d_Mod_isValue_52 : decode prog_9_method_11_code 52 = .ok (.iconst 2, 1) := by decide +kernel
theorem d_Mod_isValue_53 : decode prog_9_method_11_code 53 = .ok (.if_icmp .ne 19, 3) := by decide +kernel
theorem d_Mod_isValue_56 : decode prog_9_method_11_code 56 = .ok (.lload_n 1, 1) := by decide +kernel
theorem d_Mod_isValue_57 : decode prog_9_method_11_code 57 = .ok (.lconst 0, 1) := by decide +kernel
theorem d_Mod_isValue_58 : decode prog_9_method_11_code 58 = .ok (.lcmp, 1) := by decide +kernel
theorem d_Mod_isValue_59 : decode prog_9_method_11_code 59 = .ok (.ifCond .ne 11, 3) := by decide +kernel
theorem d_Mod_isValue_62 : decode prog_9_method_11_code 62 = .ok (.iload_n 3, 1) := by decide +kernel
theorem d_Mod_isValue_63 : decode prog_9_method_11_code 63 = .ok (.ifCond .ne 7, 3) := by decide +kernel
theorem d_Mod_isValue_66 : decode prog_9_method_11_code 66 = .ok (.iconst 1, 1) := by decide +kernel
theorem d_Mod_isValue_67 : decode prog_9_method_11_code 67 = .ok (.goto 4, 3) := by decide +kernel
theorem d_Mod_isValue_70 : decode prog_9_method_11_code 70 = .ok (.iconst 0, 1) := by decide +kernel
theorem d_Mod_isValue_71 : decode prog_9_method_11_code 71 = .ok (.ireturn, 1) := by decide +kernel
theorem d_Mod_isValue_72 : decode prog_9_method_11_code 72 = .ok (.lload_n 1, 1) := by decide +kernel
theorem d_Mod_isValue_73 : decode prog_9_method_11_code 73 = .ok (.ldc2_w 79, 3) := by decide +kernel
theorem d_Mod_isValue_76 : decode prog_9_method_11_code 76 = .ok (.lcmp, 1) := by decide +kernel
theorem d_Mod_isValue_77 : decode prog_9_method_11_code 77 = .ok (.ifCond .lt 29, 3) := by decide +kernel
theorem d_Mod_isValue_80 : decode prog_9_method_11_code 80 = .ok (.lload_n 1, 1) := by decide +kernel
theorem d_Mod_isValue_81 : decode prog_9_method_11_code 81 = .ok (.ldc2_w 81, 3) := by decide +kernel
theorem d_Mod_isValue_84 : decode prog_9_method_11_code 84 = .ok (.lcmp, 1) := by decide +kernel
theorem d_Mod_isValue_85 : decode prog_9_method_11_code 85 = .ok (.ifCond .gt 21, 3) := by decide +kernel
theorem d_Mod_isValue_88 : decode prog_9_method_11_code 88 = .ok (.iload_n 3, 1) := by decide +kernel
theorem d_Mod_isValue_89 : decode prog_9_method_11_code 89 = .ok (.sipush (-900), 3) := by decide +kernel
theorem d_Mod_isValue_92 : decode prog_9_method_11_code 92 = .ok (.if_icmp .lt 14, 3) := by decide +kernel
theorem d_Mod_isValue_95 : decode prog_9_method_11_code 95 = .ok (.iload_n 3, 1) := by decide +kernel
theorem d_Mod_isValue_96 : decode prog_9_method_11_code 96 = .ok (.sipush 900, 3) := by decide +kernel
theorem d_Mod_isValue_99 : decode prog_9_method_11_code 99 = .ok (.if_icmp .gt 7, 3) := by decide +kernel
theorem d_Mod_isValue_102 : decode prog_9_method_11_code 102 = .ok (.iconst 1, 1) := by decide +kernel
theorem d_Mod_isValue_103 : decode prog_9_method_11_code 103 = .ok (.goto 4, 3) := by decide +kernel
theorem d_Mod_isValue_106 : decode prog_9_method_11_code 106 = .ok (.iconst 0, 1) := by decide +kernel
theorem d_Mod_isValue_107 : decode prog_9_method_11_code 107 = .ok (.ireturn, 1) := by decide +kernel
abbrev M_Mod_set : MethodName × ByteArray × Nat × Option FieldType := (⟨"KeyCodecModel", "set", "(IJI)V"⟩, prog_9_method_12_code, 5, none)
theorem d_Mod_set_0 : decode prog_9_method_12_code 0 = .ok (.aload_n 0, 1) := by decide +kernel
theorem d_Mod_set_1 : decode prog_9_method_12_code 1 = .ok (.getfield 16, 3) := by decide +kernel
theorem d_Mod_set_4 : decode prog_9_method_12_code 4 = .ok (.iload_n 1, 1) := by decide +kernel
theorem d_Mod_set_5 : decode prog_9_method_12_code 5 = .ok (.lload_n 2, 1) := by decide +kernel
theorem d_Mod_set_6 : decode prog_9_method_12_code 6 = .ok (.lastore, 1) := by decide +kernel
theorem d_Mod_set_7 : decode prog_9_method_12_code 7 = .ok (.aload_n 0, 1) := by decide +kernel
theorem d_Mod_set_8 : decode prog_9_method_12_code 8 = .ok (.getfield 20, 3) := by decide +kernel
theorem d_Mod_set_11 : decode prog_9_method_12_code 11 = .ok (.iload_n 1, 1) := by decide +kernel
theorem d_Mod_set_12 : decode prog_9_method_12_code 12 = .ok (.iload 4, 2) := by decide +kernel
theorem d_Mod_set_14 : decode prog_9_method_12_code 14 = .ok (.iastore, 1) := by decide +kernel
theorem d_Mod_set_15 : decode prog_9_method_12_code 15 = .ok (.aload_n 0, 1) := by decide +kernel
theorem d_Mod_set_16 : decode prog_9_method_12_code 16 = .ok (.getfield 23, 3) := by decide +kernel
theorem d_Mod_set_19 : decode prog_9_method_12_code 19 = .ok (.iload_n 1, 1) := by decide +kernel
theorem d_Mod_set_20 : decode prog_9_method_12_code 20 = .ok (.iconst 0, 1) := by decide +kernel
theorem d_Mod_set_21 : decode prog_9_method_12_code 21 = .ok (.bastore, 1) := by decide +kernel
theorem d_Mod_set_22 : decode prog_9_method_12_code 22 = .ok (.aload_n 0, 1) := by decide +kernel
theorem d_Mod_set_23 : decode prog_9_method_12_code 23 = .ok (.getfield 27, 3) := by decide +kernel
theorem d_Mod_set_26 : decode prog_9_method_12_code 26 = .ok (.iload_n 1, 1) := by decide +kernel
theorem d_Mod_set_27 : decode prog_9_method_12_code 27 = .ok (.iconst 0, 1) := by decide +kernel
theorem d_Mod_set_28 : decode prog_9_method_12_code 28 = .ok (.iastore, 1) := by decide +kernel
theorem d_Mod_set_29 : decode prog_9_method_12_code 29 = .ok (.return_, 1) := by decide +kernel
abbrev M_Mod_put : MethodName × ByteArray × Nat × Option FieldType := (⟨"KeyCodecModel", "put", "(IJI)Z"⟩, prog_9_method_13_code, 5, some .boolean)
theorem d_Mod_put_0 : decode prog_9_method_13_code 0 = .ok (.aload_n 0, 1) := by decide +kernel
theorem d_Mod_put_1 : decode prog_9_method_13_code 1 = .ok (.iconst 0, 1) := by decide +kernel
theorem d_Mod_put_2 : decode prog_9_method_13_code 2 = .ok (.putfield 55, 3) := by decide +kernel
theorem d_Mod_put_5 : decode prog_9_method_13_code 5 = .ok (.aload_n 0, 1) := by decide +kernel
theorem d_Mod_put_6 : decode prog_9_method_13_code 6 = .ok (.iload_n 1, 1) := by decide +kernel
theorem d_Mod_put_7 : decode prog_9_method_13_code 7 = .ok (.invokevirtual 83, 3) := by decide +kernel
theorem d_Mod_put_10 : decode prog_9_method_13_code 10 = .ok (.ifCond .eq 18, 3) := by decide +kernel
theorem d_Mod_put_13 : decode prog_9_method_13_code 13 = .ok (.aload_n 0, 1) := by decide +kernel
theorem d_Mod_put_14 : decode prog_9_method_13_code 14 = .ok (.getfield 7, 3) := by decide +kernel
theorem d_Mod_put_17 : decode prog_9_method_13_code 17 = .ok (.iload_n 1, 1) := by decide +kernel
theorem d_Mod_put_18 : decode prog_9_method_13_code 18 = .ok (.iaload, 1) := by decide +kernel
theorem d_Mod_put_19 : decode prog_9_method_13_code 19 = .ok (.lload_n 2, 1) := by decide +kernel
theorem d_Mod_put_20 : decode prog_9_method_13_code 20 = .ok (.iload 4, 2) := by decide +kernel
theorem d_Mod_put_22 : decode prog_9_method_13_code 22 = .ok (.invokestatic 87, 3) := by decide +kernel
theorem d_Mod_put_25 : decode prog_9_method_13_code 25 = .ok (.ifCond .ne 5, 3) := by decide +kernel
theorem d_Mod_put_28 : decode prog_9_method_13_code 28 = .ok (.iconst 0, 1) := by decide +kernel
theorem d_Mod_put_29 : decode prog_9_method_13_code 29 = .ok (.ireturn, 1) := by decide +kernel
theorem d_Mod_put_30 : decode prog_9_method_13_code 30 = .ok (.aload_n 0, 1) := by decide +kernel
theorem d_Mod_put_31 : decode prog_9_method_13_code 31 = .ok (.iload_n 1, 1) := by decide +kernel
theorem d_Mod_put_32 : decode prog_9_method_13_code 32 = .ok (.lload_n 2, 1) := by decide +kernel
theorem d_Mod_put_33 : decode prog_9_method_13_code 33 = .ok (.iload 4, 2) := by decide +kernel
theorem d_Mod_put_35 : decode prog_9_method_13_code 35 = .ok (.invokevirtual 91, 3) := by decide +kernel
theorem d_Mod_put_38 : decode prog_9_method_13_code 38 = .ok (.iconst 1, 1) := by decide +kernel
theorem d_Mod_put_39 : decode prog_9_method_13_code 39 = .ok (.ireturn, 1) := by decide +kernel
abbrev M_Mod_text : MethodName × ByteArray × Nat × Option FieldType := (⟨"KeyCodecModel", "text", "(II)Z"⟩, prog_9_method_14_code, 3, some .boolean)
theorem d_Mod_text_0 : decode prog_9_method_14_code 0 = .ok (.aload_n 0, 1) := by decide +kernel
theorem d_Mod_text_1 : decode prog_9_method_14_code 1 = .ok (.iconst 0, 1) := by decide +kernel
theorem d_Mod_text_2 : decode prog_9_method_14_code 2 = .ok (.putfield 55, 3) := by decide +kernel
theorem d_Mod_text_5 : decode prog_9_method_14_code 5 = .ok (.aload_n 0, 1) := by decide +kernel
theorem d_Mod_text_6 : decode prog_9_method_14_code 6 = .ok (.iload_n 1, 1) := by decide +kernel
theorem d_Mod_text_7 : decode prog_9_method_14_code 7 = .ok (.invokevirtual 83, 3) := by decide +kernel
theorem d_Mod_text_10 : decode prog_9_method_14_code 10 = .ok (.ifCond .eq 33, 3) := by decide +kernel
theorem d_Mod_text_13 : decode prog_9_method_14_code 13 = .ok (.aload_n 0, 1) := by decide +kernel
theorem d_Mod_text_14 : decode prog_9_method_14_code 14 = .ok (.getfield 7, 3) := by decide +kernel
theorem d_Mod_text_17 : decode prog_9_method_14_code 17 = .ok (.iload_n 1, 1) := by decide +kernel
theorem d_Mod_text_18 : decode prog_9_method_14_code 18 = .ok (.iaload, 1) := by decide +kernel
theorem d_Mod_text_19 : decode prog_9_method_14_code 19 = .ok (.iconst 2, 1) := by decide +kernel
theorem d_Mod_text_20 : decode prog_9_method_14_code 20 = .ok (.if_icmp .ne 23, 3) := by decide +kernel
theorem d_Mod_text_23 : decode prog_9_method_14_code 23 = .ok (.aload_n 0, 1) := by decide +kernel
theorem d_Mod_text_24 : decode prog_9_method_14_code 24 = .ok (.getfield 23, 3) := by decide +kernel
theorem d_Mod_text_27 : decode prog_9_method_14_code 27 = .ok (.iload_n 1, 1) := by decide +kernel
theorem d_Mod_text_28 : decode prog_9_method_14_code 28 = .ok (.baload, 1) := by decide +kernel
theorem d_Mod_text_29 : decode prog_9_method_14_code 29 = .ok (.ifCond .ne 16, 3) := by decide +kernel
theorem d_Mod_text_32 : decode prog_9_method_14_code 32 = .ok (.aload_n 0, 1) := by decide +kernel
theorem d_Mod_text_33 : decode prog_9_method_14_code 33 = .ok (.getfield 27, 3) := by decide +kernel
theorem d_Mod_text_36 : decode prog_9_method_14_code 36 = .ok (.iload_n 1, 1) := by decide +kernel
theorem d_Mod_text_37 : decode prog_9_method_14_code 37 = .ok (.iaload, 1) := by decide +kernel
theorem d_Mod_text_38 : decode prog_9_method_14_code 38 = .ok (.bipush 10, 2) := by decide +kernel
theorem d_Mod_text_40 : decode prog_9_method_14_code 40 = .ok (.if_icmp .ne 5, 3) := by decide +kernel
theorem d_Mod_text_43 : decode prog_9_method_14_code 43 = .ok (.iconst 0, 1) := by decide +kernel
theorem d_Mod_text_44 : decode prog_9_method_14_code 44 = .ok (.ireturn, 1) := by decide +kernel
theorem d_Mod_text_45 : decode prog_9_method_14_code 45 = .ok (.aload_n 0, 1) := by decide +kernel
theorem d_Mod_text_46 : decode prog_9_method_14_code 46 = .ok (.getfield 23, 3) := by decide +kernel
theorem d_Mod_text_49 : decode prog_9_method_14_code 49 = .ok (.iload_n 1, 1) := by decide +kernel
theorem d_Mod_text_50 : decode prog_9_method_14_code 50 = .ok (.baload, 1) := by decide +kernel
theorem d_Mod_text_51 : decode prog_9_method_14_code 51 = .ok (.ifCond .eq 10, 3) := by decide +kernel
theorem d_Mod_text_54 : decode prog_9_method_14_code 54 = .ok (.aload_n 0, 1) := by decide +kernel
theorem d_Mod_text_55 : decode prog_9_method_14_code 55 = .ok (.iload_n 1, 1) := by decide +kernel
theorem d_Mod_text_56 : decode prog_9_method_14_code 56 = .ok (.lconst 0, 1) := by decide +kernel
theorem d_Mod_text_57 : decode prog_9_method_14_code 57 = .ok (.iconst 0, 1) := by decide +kernel
theorem d_Mod_text_58 : decode prog_9_method_14_code 58 = .ok (.invokevirtual 91, 3) := by decide +kernel
theorem d_Mod_text_61 : decode prog_9_method_14_code 61 = .ok (.aload_n 0, 1) := by decide +kernel
theorem d_Mod_text_62 : decode prog_9_method_14_code 62 = .ok (.getfield 30, 3) := by decide +kernel
theorem d_Mod_text_65 : decode prog_9_method_14_code 65 = .ok (.bipush 10, 2) := by decide +kernel
theorem d_Mod_text_67 : decode prog_9_method_14_code 67 = .ok (.iload_n 1, 1) := by decide +kernel
theorem d_Mod_text_68 : decode prog_9_method_14_code 68 = .ok (.imul, 1) := by decide +kernel
theorem d_Mod_text_69 : decode prog_9_method_14_code 69 = .ok (.aload_n 0, 1) := by decide +kernel
theorem d_Mod_text_70 : decode prog_9_method_14_code 70 = .ok (.getfield 27, 3) := by decide +kernel
theorem d_Mod_text_73 : decode prog_9_method_14_code 73 = .ok (.iload_n 1, 1) := by decide +kernel
theorem d_Mod_text_74 : decode prog_9_method_14_code 74 = .ok (.iaload, 1) := by decide +kernel
theorem d_Mod_text_75 : decode prog_9_method_14_code 75 = .ok (.iadd, 1) := by decide +kernel
theorem d_Mod_text_76 : decode prog_9_method_14_code 76 = .ok (.iload_n 2, 1) := by decide +kernel
theorem d_Mod_text_77 : decode prog_9_method_14_code 77 = .ok (.sipush 255, 3) := by decide +kernel
theorem d_Mod_text_80 : decode prog_9_method_14_code 80 = .ok (.iand, 1) := by decide +kernel
theorem d_Mod_text_81 : decode prog_9_method_14_code 81 = .ok (.iastore, 1) := by decide +kernel
theorem d_Mod_text_82 : decode prog_9_method_14_code 82 = .ok (.aload_n 0, 1) := by decide +kernel
theorem d_Mod_text_83 : decode prog_9_method_14_code 83 = .ok (.getfield 27, 3) := by decide +kernel
theorem d_Mod_text_86 : decode prog_9_method_14_code 86 = .ok (.iload_n 1, 1) := by decide +kernel
theorem d_Mod_text_87 : decode prog_9_method_14_code 87 = .ok (.dup2, 1) := by decide +kernel
theorem d_Mod_text_88 : decode prog_9_method_14_code 88 = .ok (.iaload, 1) := by decide +kernel
theorem d_Mod_text_89 : decode prog_9_method_14_code 89 = .ok (.iconst 1, 1) := by decide +kernel
theorem d_Mod_text_90 : decode prog_9_method_14_code 90 = .ok (.iadd, 1) := by decide +kernel
theorem d_Mod_text_91 : decode prog_9_method_14_code 91 = .ok (.iastore, 1) := by decide +kernel
theorem d_Mod_text_92 : decode prog_9_method_14_code 92 = .ok (.iconst 1, 1) := by decide +kernel
theorem d_Mod_text_93 : decode prog_9_method_14_code 93 = .ok (.ireturn, 1) := by decide +kernel
abbrev M_Mod_absent : MethodName × ByteArray × Nat × Option FieldType := (⟨"KeyCodecModel", "absent", "(I)Z"⟩, prog_9_method_15_code, 2, some .boolean)
theorem d_Mod_absent_0 : decode prog_9_method_15_code 0 = .ok (.aload_n 0, 1) := by decide +kernel
theorem d_Mod_absent_1 : decode prog_9_method_15_code 1 = .ok (.iconst 0, 1) := by decide +kernel
theorem d_Mod_absent_2 : decode prog_9_method_15_code 2 = .ok (.putfield 55, 3) := by decide +kernel
theorem d_Mod_absent_5 : decode prog_9_method_15_code 5 = .ok (.aload_n 0, 1) := by decide +kernel
theorem d_Mod_absent_6 : decode prog_9_method_15_code 6 = .ok (.iload_n 1, 1) := by decide +kernel
theorem d_Mod_absent_7 : decode prog_9_method_15_code 7 = .ok (.invokevirtual 83, 3) := by decide +kernel
theorem d_Mod_absent_10 : decode prog_9_method_15_code 10 = .ok (.ifCond .eq 11, 3) := by decide +kernel
theorem d_Mod_absent_13 : decode prog_9_method_15_code 13 = .ok (.aload_n 0, 1) := by decide +kernel
theorem d_Mod_absent_14 : decode prog_9_method_15_code 14 = .ok (.iload_n 1, 1) := by decide +kernel
theorem d_Mod_absent_15 : decode prog_9_method_15_code 15 = .ok (.invokevirtual 95, 3) := by decide +kernel
theorem d_Mod_absent_18 : decode prog_9_method_15_code 18 = .ok (.ifCond .ne 5, 3) := by decide +kernel
theorem d_Mod_absent_21 : decode prog_9_method_15_code 21 = .ok (.iconst 0, 1) := by decide +kernel
theorem d_Mod_absent_22 : decode prog_9_method_15_code 22 = .ok (.ireturn, 1) := by decide +kernel
theorem d_Mod_absent_23 : decode prog_9_method_15_code 23 = .ok (.aload_n 0, 1) := by decide +kernel
theorem d_Mod_absent_24 : decode prog_9_method_15_code 24 = .ok (.iload_n 1, 1) := by decide +kernel
theorem d_Mod_absent_25 : decode prog_9_method_15_code 25 = .ok (.lconst 0, 1) := by decide +kernel
theorem d_Mod_absent_26 : decode prog_9_method_15_code 26 = .ok (.iconst 0, 1) := by decide +kernel
theorem d_Mod_absent_27 : decode prog_9_method_15_code 27 = .ok (.invokevirtual 91, 3) := by decide +kernel
theorem d_Mod_absent_30 : decode prog_9_method_15_code 30 = .ok (.aload_n 0, 1) := by decide +kernel
theorem d_Mod_absent_31 : decode prog_9_method_15_code 31 = .ok (.getfield 23, 3) := by decide +kernel
theorem d_Mod_absent_34 : decode prog_9_method_15_code 34 = .ok (.iload_n 1, 1) := by decide +kernel
theorem d_Mod_absent_35 : decode prog_9_method_15_code 35 = .ok (.iconst 1, 1) := by decide +kernel
theorem d_Mod_absent_36 : decode prog_9_method_15_code 36 = .ok (.bastore, 1) := by decide +kernel
theorem d_Mod_absent_37 : decode prog_9_method_15_code 37 = .ok (.iconst 1, 1) := by decide +kernel
theorem d_Mod_absent_38 : decode prog_9_method_15_code 38 = .ok (.ireturn, 1) := by decide +kernel
abbrev M_Mod_get : MethodName × ByteArray × Nat × Option FieldType := (⟨"KeyCodecModel", "get", "(II)J"⟩, prog_9_method_16_code, 3, some .long)
theorem d_Mod_get_0 : decode prog_9_method_16_code 0 = .ok (.aload_n 0, 1) := by decide +kernel
theorem d_Mod_get_1 : decode prog_9_method_16_code 1 = .ok (.iconst 0, 1) := by decide +kernel
theorem d_Mod_get_2 : decode prog_9_method_16_code 2 = .ok (.putfield 55, 3) := by decide +kernel
theorem d_Mod_get_5 : decode prog_9_method_16_code 5 = .ok (.aload_n 0, 1) := by decide +kernel
theorem d_Mod_get_6 : decode prog_9_method_16_code 6 = .ok (.iload_n 1, 1) := by decide +kernel
theorem d_Mod_get_7 : decode prog_9_method_16_code 7 = .ok (.invokevirtual 83, 3) := by decide +kernel
theorem d_Mod_get_10 : decode prog_9_method_16_code 10 = .ok (.ifCond .eq 7, 3) := by decide +kernel
theorem d_Mod_get_13 : decode prog_9_method_16_code 13 = .ok (.iload_n 2, 1) := by decide +kernel
theorem d_Mod_get_14 : decode prog_9_method_16_code 14 = .ok (.ifCond .ge 7, 3) := by decide +kernel
theorem d_Mod_get_17 : decode prog_9_method_16_code 17 = .ok (.ldc2_w 98, 3) := by decide +kernel
theorem d_Mod_get_20 : decode prog_9_method_16_code 20 = .ok (.lreturn, 1) := by decide +kernel
theorem d_Mod_get_21 : decode prog_9_method_16_code 21 = .ok (.iload_n 2, 1) := by decide +kernel
theorem d_Mod_get_22 : decode prog_9_method_16_code 22 = .ok (.ifCond .ne 18, 3) := by decide +kernel
theorem d_Mod_get_25 : decode prog_9_method_16_code 25 = .ok (.aload_n 0, 1) := by decide +kernel
theorem d_Mod_get_26 : decode prog_9_method_16_code 26 = .ok (.getfield 23, 3) := by decide +kernel
theorem d_Mod_get_29 : decode prog_9_method_16_code 29 = .ok (.iload_n 1, 1) := by decide +kernel
theorem d_Mod_get_30 : decode prog_9_method_16_code 30 = .ok (.baload, 1) := by decide +kernel
theorem d_Mod_get_31 : decode prog_9_method_16_code 31 = .ok (.ifCond .eq 7, 3) := by decide +kernel
theorem d_Mod_get_34 : decode prog_9_method_16_code 34 = .ok (.lconst 1, 1) := by decide +kernel
theorem d_Mod_get_35 : decode prog_9_method_16_code 35 = .ok (.goto 4, 3) := by decide +kernel
theorem d_Mod_get_38 : decode prog_9_method_16_code 38 = .ok (.lconst 0, 1) := by decide +kernel
theorem d_Mod_get_39 : decode prog_9_method_16_code 39 = .ok (.lreturn, 1) := by decide +kernel
theorem d_Mod_get_40 : decode prog_9_method_16_code 40 = .ok (.iload_n 2, 1) := by decide +kernel
theorem d_Mod_get_41 : decode prog_9_method_16_code 41 = .ok (.iconst 2, 1) := by decide +kernel
theorem d_Mod_get_42 : decode prog_9_method_16_code 42 = .ok (.if_icmp .le 46, 3) := by decide +kernel
theorem d_Mod_get_45 : decode prog_9_method_16_code 45 = .ok (.aload_n 0, 1) := by decide +kernel
theorem d_Mod_get_46 : decode prog_9_method_16_code 46 = .ok (.getfield 7, 3) := by decide +kernel
theorem d_Mod_get_49 : decode prog_9_method_16_code 49 = .ok (.iload_n 1, 1) := by decide +kernel
theorem d_Mod_get_50 : decode prog_9_method_16_code 50 = .ok (.iaload, 1) := by decide +kernel
theorem d_Mod_get_51 : decode prog_9_method_16_code 51 = .ok (.iconst 2, 1) := by decide +kernel
theorem d_Mod_get_52 : decode prog_9_method_16_code 52 = .ok (.if_icmp .ne 32, 3) := by decide +kernel
theorem d_Mod_get_55 : decode prog_9_method_16_code 55 = .ok (.iload_n 2, 1) := by decide +kernel
theorem d_Mod_get_56 : decode prog_9_method_16_code 56 = .ok (.iconst 3, 1) := by decide +kernel
theorem d_Mod_get_57 : decode prog_9_method_16_code 57 = .ok (.isub, 1) := by decide +kernel
theorem d_Mod_get_58 : decode prog_9_method_16_code 58 = .ok (.aload_n 0, 1) := by decide +kernel
theorem d_Mod_get_59 : decode prog_9_method_16_code 59 = .ok (.getfield 27, 3) := by decide +kernel
theorem d_Mod_get_62 : decode prog_9_method_16_code 62 = .ok (.iload_n 1, 1) := by decide +kernel
theorem d_Mod_get_63 : decode prog_9_method_16_code 63 = .ok (.iaload, 1) := by decide +kernel
theorem d_Mod_get_64 : decode prog_9_method_16_code 64 = .ok (.if_icmp .ge 20, 3) := by decide +kernel
theorem d_Mod_get_67 : decode prog_9_method_16_code 67 = .ok (.aload_n 0, 1) := by decide +kernel
theorem d_Mod_get_68 : decode prog_9_method_16_code 68 = .ok (.getfield 30, 3) := by decide +kernel
theorem d_Mod_get_71 : decode prog_9_method_16_code 71 = .ok (.bipush 10, 2) := by decide +kernel
theorem d_Mod_get_73 : decode prog_9_method_16_code 73 = .ok (.iload_n 1, 1) := by decide +kernel
theorem d_Mod_get_74 : decode prog_9_method_16_code 74 = .ok (.imul, 1) := by decide +kernel
theorem d_Mod_get_75 : decode prog_9_method_16_code 75 = .ok (.iload_n 2, 1) := by decide +kernel
theorem d_Mod_get_76 : decode prog_9_method_16_code 76 = .ok (.iadd, 1) := by decide +kernel
theorem d_Mod_get_77 : decode prog_9_method_16_code 77 = .ok (.iconst 3, 1) := by decide +kernel
theorem d_Mod_get_78 : decode prog_9_method_16_code 78 = .ok (.isub, 1) := by decide +kernel
theorem d_Mod_get_79 : decode prog_9_method_16_code 79 = .ok (.iaload, 1) := by decide +kernel
theorem d_Mod_get_80 : decode prog_9_method_16_code 80 = .ok (.i2l, 1) := by decide +kernel
theorem d_Mod_get_81 : decode prog_9_method_16_code 81 = .ok (.goto 6, 3) := by decide +kernel
theorem d_Mod_get_84 : decode prog_9_method_16_code 84 = .ok (.ldc2_w 98, 3) := by decide +kernel
theorem d_Mod_get_87 : decode prog_9_method_16_code 87 = .ok (.lreturn, 1) := by decide +kernel
theorem d_Mod_get_88 : decode prog_9_method_16_code 88 = .ok (.iload_n 2, 1) := by decide +kernel
theorem d_Mod_get_89 : decode prog_9_method_16_code 89 = .ok (.iconst 1, 1) := by decide +kernel
theorem d_Mod_get_90 : decode prog_9_method_16_code 90 = .ok (.if_icmp .ne 32, 3) := by decide +kernel
theorem d_Mod_get_93 : decode prog_9_method_16_code 93 = .ok (.aload_n 0, 1) := by decide +kernel
theorem d_Mod_get_94 : decode prog_9_method_16_code 94 = .ok (.getfield 7, 3) := by decide +kernel
theorem d_Mod_get_97 : decode prog_9_method_16_code 97 = .ok (.iload_n 1, 1) := by decide +kernel
theorem d_Mod_get_98 : decode prog_9_method_16_code 98 = .ok (.iaload, 1) := by decide +kernel
theorem d_Mod_get_99 : decode prog_9_method_16_code 99 = .ok (.iconst 2, 1) := by decide +kernel
theorem d_Mod_get_100 : decode prog_9_method_16_code 100 = .ok (.if_icmp .ne 13, 3) := by decide +kernel
theorem d_Mod_get_103 : decode prog_9_method_16_code 103 = .ok (.aload_n 0, 1) := by decide +kernel
theorem d_Mod_get_104 : decode prog_9_method_16_code 104 = .ok (.getfield 27, 3) := by decide +kernel
theorem d_Mod_get_107 : decode prog_9_method_16_code 107 = .ok (.iload_n 1, 1) := by decide +kernel
theorem d_Mod_get_108 : decode prog_9_method_16_code 108 = .ok (.iaload, 1) := by decide +kernel
theorem d_Mod_get_109 : decode prog_9_method_16_code 109 = .ok (.i2l, 1) := by decide +kernel
theorem d_Mod_get_110 : decode prog_9_method_16_code 110 = .ok (.goto 19, 3) := by decide +kernel
theorem d_Mod_get_113 : decode prog_9_method_16_code 113 = .ok (.aload_n 0, 1) := by decide +kernel
theorem d_Mod_get_114 : decode prog_9_method_16_code 114 = .ok (.getfield 16, 3) := by decide +kernel
theorem d_Mod_get_117 : decode prog_9_method_16_code 117 = .ok (.iload_n 1, 1) := by decide +kernel
theorem d_Mod_get_118 : decode prog_9_method_16_code 118 = .ok (.laload, 1) := by decide +kernel
theorem d_Mod_get_119 : decode prog_9_method_16_code 119 = .ok (.goto 10, 3) := by decide +kernel
theorem d_Mod_get_122 : decode prog_9_method_16_code 122 = .ok (.aload_n 0, 1) := by decide +kernel
theorem d_Mod_get_123 : decode prog_9_method_16_code 123 = .ok (.getfield 20, 3) := by decide +kernel
theorem d_Mod_get_126 : decode prog_9_method_16_code 126 = .ok (.iload_n 1, 1) := by decide +kernel
theorem d_Mod_get_127 : decode prog_9_method_16_code 127 = .ok (.iaload, 1) := by decide +kernel
theorem d_Mod_get_128 : decode prog_9_method_16_code 128 = .ok (.i2l, 1) := by decide +kernel
theorem d_Mod_get_129 : decode prog_9_method_16_code 129 = .ok (.lreturn, 1) := by decide +kernel
abbrev M_Mod_copy : MethodName × ByteArray × Nat × Option FieldType := (⟨"KeyCodecModel", "copy", "(II)V"⟩, prog_9_method_17_code, 4, none)
theorem d_Mod_copy_0 : decode prog_9_method_17_code 0 = .ok (.iconst 0, 1) := by decide +kernel
theorem d_Mod_copy_1 : decode prog_9_method_17_code 1 = .ok (.istore_n 3, 1) := by decide +kernel
theorem d_Mod_copy_2 : decode prog_9_method_17_code 2 = .ok (.iload_n 3, 1) := by decide +kernel
theorem d_Mod_copy_3 : decode prog_9_method_17_code 3 = .ok (.iconst 5, 1) := by decide +kernel
theorem d_Mod_copy_4 : decode prog_9_method_17_code 4 = .ok (.if_icmp .ge 89, 3) := by decide +kernel
theorem d_Mod_copy_7 : decode prog_9_method_17_code 7 = .ok (.aload_n 0, 1) := by decide +kernel
theorem d_Mod_copy_8 : decode prog_9_method_17_code 8 = .ok (.getfield 16, 3) := by decide +kernel
theorem d_Mod_copy_11 : decode prog_9_method_17_code 11 = .ok (.iconst 5, 1) := by decide +kernel
theorem d_Mod_copy_12 : decode prog_9_method_17_code 12 = .ok (.iload_n 2, 1) := by decide +kernel
theorem d_Mod_copy_13 : decode prog_9_method_17_code 13 = .ok (.imul, 1) := by decide +kernel
theorem d_Mod_copy_14 : decode prog_9_method_17_code 14 = .ok (.iload_n 3, 1) := by decide +kernel
theorem d_Mod_copy_15 : decode prog_9_method_17_code 15 = .ok (.iadd, 1) := by decide +kernel
theorem d_Mod_copy_16 : decode prog_9_method_17_code 16 = .ok (.aload_n 0, 1) := by decide +kernel
theorem d_Mod_copy_17 : decode prog_9_method_17_code 17 = .ok (.getfield 16, 3) := by decide +kernel
theorem d_Mod_copy_20 : decode prog_9_method_17_code 20 = .ok (.iconst 5, 1) := by decide +kernel
theorem d_Mod_copy_21 : decode prog_9_method_17_code 21 = .ok (.iload_n 1, 1) := by decide +kernel
theorem d_Mod_copy_22 : decode prog_9_method_17_code 22 = .ok (.imul, 1) := by decide +kernel
theorem d_Mod_copy_23 : decode prog_9_method_17_code 23 = .ok (.iload_n 3, 1) := by decide +kernel
theorem d_Mod_copy_24 : decode prog_9_method_17_code 24 = .ok (.iadd, 1) := by decide +kernel
theorem d_Mod_copy_25 : decode prog_9_method_17_code 25 = .ok (.laload, 1) := by decide +kernel
theorem d_Mod_copy_26 : decode prog_9_method_17_code 26 = .ok (.lastore, 1) := by decide +kernel
theorem d_Mod_copy_27 : decode prog_9_method_17_code 27 = .ok (.aload_n 0, 1) := by decide +kernel
theorem d_Mod_copy_28 : decode prog_9_method_17_code 28 = .ok (.getfield 20, 3) := by decide +kernel
theorem d_Mod_copy_31 : decode prog_9_method_17_code 31 = .ok (.iconst 5, 1) := by decide +kernel
theorem d_Mod_copy_32 : decode prog_9_method_17_code 32 = .ok (.iload_n 2, 1) := by decide +kernel
theorem d_Mod_copy_33 : decode prog_9_method_17_code 33 = .ok (.imul, 1) := by decide +kernel
theorem d_Mod_copy_34 : decode prog_9_method_17_code 34 = .ok (.iload_n 3, 1) := by decide +kernel
theorem d_Mod_copy_35 : decode prog_9_method_17_code 35 = .ok (.iadd, 1) := by decide +kernel
theorem d_Mod_copy_36 : decode prog_9_method_17_code 36 = .ok (.aload_n 0, 1) := by decide +kernel
theorem d_Mod_copy_37 : decode prog_9_method_17_code 37 = .ok (.getfield 20, 3) := by decide +kernel
theorem d_Mod_copy_40 : decode prog_9_method_17_code 40 = .ok (.iconst 5, 1) := by decide +kernel
theorem d_Mod_copy_41 : decode prog_9_method_17_code 41 = .ok (.iload_n 1, 1) := by decide +kernel
theorem d_Mod_copy_42 : decode prog_9_method_17_code 42 = .ok (.imul, 1) := by decide +kernel
theorem d_Mod_copy_43 : decode prog_9_method_17_code 43 = .ok (.iload_n 3, 1) := by decide +kernel
theorem d_Mod_copy_44 : decode prog_9_method_17_code 44 = .ok (.iadd, 1) := by decide +kernel
theorem d_Mod_copy_45 : decode prog_9_method_17_code 45 = .ok (.iaload, 1) := by decide +kernel
theorem d_Mod_copy_46 : decode prog_9_method_17_code 46 = .ok (.iastore, 1) := by decide +kernel
theorem d_Mod_copy_47 : decode prog_9_method_17_code 47 = .ok (.aload_n 0, 1) := by decide +kernel
theorem d_Mod_copy_48 : decode prog_9_method_17_code 48 = .ok (.getfield 23, 3) := by decide +kernel
theorem d_Mod_copy_51 : decode prog_9_method_17_code 51 = .ok (.iconst 5, 1) := by decide +kernel
theorem d_Mod_copy_52 : decode prog_9_method_17_code 52 = .ok (.iload_n 2, 1) := by decide +kernel
theorem d_Mod_copy_53 : decode prog_9_method_17_code 53 = .ok (.imul, 1) := by decide +kernel
theorem d_Mod_copy_54 : decode prog_9_method_17_code 54 = .ok (.iload_n 3, 1) := by decide +kernel
theorem d_Mod_copy_55 : decode prog_9_method_17_code 55 = .ok (.iadd, 1) := by decide +kernel
theorem d_Mod_copy_56 : decode prog_9_method_17_code 56 = .ok (.aload_n 0, 1) := by decide +kernel
theorem d_Mod_copy_57 : decode prog_9_method_17_code 57 = .ok (.getfield 23, 3) := by decide +kernel
theorem d_Mod_copy_60 : decode prog_9_method_17_code 60 = .ok (.iconst 5, 1) := by decide +kernel
theorem d_Mod_copy_61 : decode prog_9_method_17_code 61 = .ok (.iload_n 1, 1) := by decide +kernel
theorem d_Mod_copy_62 : decode prog_9_method_17_code 62 = .ok (.imul, 1) := by decide +kernel
theorem d_Mod_copy_63 : decode prog_9_method_17_code 63 = .ok (.iload_n 3, 1) := by decide +kernel
theorem d_Mod_copy_64 : decode prog_9_method_17_code 64 = .ok (.iadd, 1) := by decide +kernel
theorem d_Mod_copy_65 : decode prog_9_method_17_code 65 = .ok (.baload, 1) := by decide +kernel
theorem d_Mod_copy_66 : decode prog_9_method_17_code 66 = .ok (.bastore, 1) := by decide +kernel
theorem d_Mod_copy_67 : decode prog_9_method_17_code 67 = .ok (.aload_n 0, 1) := by decide +kernel
theorem d_Mod_copy_68 : decode prog_9_method_17_code 68 = .ok (.getfield 27, 3) := by decide +kernel
theorem d_Mod_copy_71 : decode prog_9_method_17_code 71 = .ok (.iconst 5, 1) := by decide +kernel
theorem d_Mod_copy_72 : decode prog_9_method_17_code 72 = .ok (.iload_n 2, 1) := by decide +kernel
theorem d_Mod_copy_73 : decode prog_9_method_17_code 73 = .ok (.imul, 1) := by decide +kernel
theorem d_Mod_copy_74 : decode prog_9_method_17_code 74 = .ok (.iload_n 3, 1) := by decide +kernel
theorem d_Mod_copy_75 : decode prog_9_method_17_code 75 = .ok (.iadd, 1) := by decide +kernel
theorem d_Mod_copy_76 : decode prog_9_method_17_code 76 = .ok (.aload_n 0, 1) := by decide +kernel
theorem d_Mod_copy_77 : decode prog_9_method_17_code 77 = .ok (.getfield 27, 3) := by decide +kernel
theorem d_Mod_copy_80 : decode prog_9_method_17_code 80 = .ok (.iconst 5, 1) := by decide +kernel
theorem d_Mod_copy_81 : decode prog_9_method_17_code 81 = .ok (.iload_n 1, 1) := by decide +kernel
theorem d_Mod_copy_82 : decode prog_9_method_17_code 82 = .ok (.imul, 1) := by decide +kernel
theorem d_Mod_copy_83 : decode prog_9_method_17_code 83 = .ok (.iload_n 3, 1) := by decide +kernel
theorem d_Mod_copy_84 : decode prog_9_method_17_code 84 = .ok (.iadd, 1) := by decide +kernel
theorem d_Mod_copy_85 : decode prog_9_method_17_code 85 = .ok (.iaload, 1) := by decide +kernel
theorem d_Mod_copy_86 : decode prog_9_method_17_code 86 = .ok (.iastore, 1) := by decide +kernel
theorem d_Mod_copy_87 : decode prog_9_method_17_code 87 = .ok (.iinc 3 1, 3) := by decide +kernel
theorem d_Mod_copy_90 : decode prog_9_method_17_code 90 = .ok (.goto (-88), 3) := by decide +kernel
theorem d_Mod_copy_93 : decode prog_9_method_17_code 93 = .ok (.iconst 0, 1) := by decide +kernel
theorem d_Mod_copy_94 : decode prog_9_method_17_code 94 = .ok (.istore_n 3, 1) := by decide +kernel
theorem d_Mod_copy_95 : decode prog_9_method_17_code 95 = .ok (.iload_n 3, 1) := by decide +kernel
theorem d_Mod_copy_96 : decode prog_9_method_17_code 96 = .ok (.bipush 50, 2) := by decide +kernel
theorem d_Mod_copy_98 : decode prog_9_method_17_code 98 = .ok (.if_icmp .ge 31, 3) := by decide +kernel
theorem d_Mod_copy_101 : decode prog_9_method_17_code 101 = .ok (.aload_n 0, 1) := by decide +kernel
theorem d_Mod_copy_102 : decode prog_9_method_17_code 102 = .ok (.getfield 30, 3) := by decide +kernel
theorem d_Mod_copy_105 : decode prog_9_method_17_code 105 = .ok (.bipush 50, 2) := by decide +kernel
theorem d_Mod_copy_107 : decode prog_9_method_17_code 107 = .ok (.iload_n 2, 1) := by decide +kernel
theorem d_Mod_copy_108 : decode prog_9_method_17_code 108 = .ok (.imul, 1) := by decide +kernel
theorem d_Mod_copy_109 : decode prog_9_method_17_code 109 = .ok (.iload_n 3, 1) := by decide +kernel
theorem d_Mod_copy_110 : decode prog_9_method_17_code 110 = .ok (.iadd, 1) := by decide +kernel
theorem d_Mod_copy_111 : decode prog_9_method_17_code 111 = .ok (.aload_n 0, 1) := by decide +kernel
theorem d_Mod_copy_112 : decode prog_9_method_17_code 112 = .ok (.getfield 30, 3) := by decide +kernel
theorem d_Mod_copy_115 : decode prog_9_method_17_code 115 = .ok (.bipush 50, 2) := by decide +kernel
theorem d_Mod_copy_117 : decode prog_9_method_17_code 117 = .ok (.iload_n 1, 1) := by decide +kernel
theorem d_Mod_copy_118 : decode prog_9_method_17_code 118 = .ok (.imul, 1) := by decide +kernel
theorem d_Mod_copy_119 : decode prog_9_method_17_code 119 = .ok (.iload_n 3, 1) := by decide +kernel
theorem d_Mod_copy_120 : decode prog_9_method_17_code 120 = .ok (.iadd, 1) := by decide +kernel
theorem d_Mod_copy_121 : decode prog_9_method_17_code 121 = .ok (.iaload, 1) := by decide +kernel
theorem d_Mod_copy_122 : decode prog_9_method_17_code 122 = .ok (.iastore, 1) := by decide +kernel
theorem d_Mod_copy_123 : decode prog_9_method_17_code 123 = .ok (.iinc 3 1, 3) := by decide +kernel
theorem d_Mod_copy_126 : decode prog_9_method_17_code 126 = .ok (.goto (-31), 3) := by decide +kernel
theorem d_Mod_copy_129 : decode prog_9_method_17_code 129 = .ok (.return_, 1) := by decide +kernel
abbrev M_Mod_say : MethodName × ByteArray × Nat × Option FieldType := (⟨"KeyCodecModel", "say", "(II)V"⟩, prog_9_method_18_code, 3, none)
theorem d_Mod_say_0 : decode prog_9_method_18_code 0 = .ok (.aload_n 0, 1) := by decide +kernel
theorem d_Mod_say_1 : decode prog_9_method_18_code 1 = .ok (.getfield 36, 3) := by decide +kernel
theorem d_Mod_say_4 : decode prog_9_method_18_code 4 = .ok (.sipush 200, 3) := by decide +kernel
theorem d_Mod_say_7 : decode prog_9_method_18_code 7 = .ok (.iload_n 1, 1) := by decide +kernel
theorem d_Mod_say_8 : decode prog_9_method_18_code 8 = .ok (.imul, 1) := by decide +kernel
theorem d_Mod_say_9 : decode prog_9_method_18_code 9 = .ok (.aload_n 0, 1) := by decide +kernel
theorem d_Mod_say_10 : decode prog_9_method_18_code 10 = .ok (.getfield 100, 3) := by decide +kernel
theorem d_Mod_say_13 : decode prog_9_method_18_code 13 = .ok (.iadd, 1) := by decide +kernel
theorem d_Mod_say_14 : decode prog_9_method_18_code 14 = .ok (.iload_n 2, 1) := by decide +kernel
theorem d_Mod_say_15 : decode prog_9_method_18_code 15 = .ok (.iastore, 1) := by decide +kernel
theorem d_Mod_say_16 : decode prog_9_method_18_code 16 = .ok (.aload_n 0, 1) := by decide +kernel
theorem d_Mod_say_17 : decode prog_9_method_18_code 17 = .ok (.dup, 1) := by decide +kernel
theorem d_Mod_say_18 : decode prog_9_method_18_code 18 = .ok (.getfield 100, 3) := by decide +kernel
theorem d_Mod_say_21 : decode prog_9_method_18_code 21 = .ok (.iconst 1, 1) := by decide +kernel
theorem d_Mod_say_22 : decode prog_9_method_18_code 22 = .ok (.iadd, 1) := by decide +kernel
theorem d_Mod_say_23 : decode prog_9_method_18_code 23 = .ok (.putfield 100, 3) := by decide +kernel
theorem d_Mod_say_26 : decode prog_9_method_18_code 26 = .ok (.return_, 1) := by decide +kernel
abbrev M_Mod_sayInt : MethodName × ByteArray × Nat × Option FieldType := (⟨"KeyCodecModel", "sayInt", "(IJI)V"⟩, prog_9_method_19_code, 9, none)
theorem d_Mod_sayInt_0 : decode prog_9_method_19_code 0 = .ok (.lload_n 2, 1) := by decide +kernel
theorem d_Mod_sayInt_1 : decode prog_9_method_19_code 1 = .ok (.lconst 0, 1) := by decide +kernel
theorem d_Mod_sayInt_2 : decode prog_9_method_19_code 2 = .ok (.lcmp, 1) := by decide +kernel
theorem d_Mod_sayInt_3 : decode prog_9_method_19_code 3 = .ok (.ifCond .ge 11, 3) := by decide +kernel
theorem d_Mod_sayInt_6 : decode prog_9_method_19_code 6 = .ok (.ldc2_w 98, 3) := by decide +kernel
theorem d_Mod_sayInt_9 : decode prog_9_method_19_code 9 = .ok (.lload_n 2, 1) := by decide +kernel
theorem d_Mod_sayInt_10 : decode prog_9_method_19_code 10 = .ok (.lsub, 1) := by decide +kernel
theorem d_Mod_sayInt_11 : decode prog_9_method_19_code 11 = .ok (.goto 4, 3) := by decide +kernel
theorem d_Mod_sayInt_14 : decode prog_9_method_19_code 14 = .ok (.lload_n 2, 1) := by decide +kernel
theorem d_Mod_sayInt_15 : decode prog_9_method_19_code 15 = .ok (.lstore 5, 2) := by decide +kernel
theorem d_Mod_sayInt_17 : decode prog_9_method_19_code 17 = .ok (.iconst 0, 1) := by decide +kernel
theorem d_Mod_sayInt_18 : decode prog_9_method_19_code 18 = .ok (.istore 7, 2) := by decide +kernel
theorem d_Mod_sayInt_20 : decode prog_9_method_19_code 20 = .ok (.lload 5, 2) := by decide +kernel
theorem d_Mod_sayInt_22 : decode prog_9_method_19_code 22 = .ok (.lconst 0, 1) := by decide +kernel
theorem d_Mod_sayInt_23 : decode prog_9_method_19_code 23 = .ok (.lcmp, 1) := by decide +kernel
theorem d_Mod_sayInt_24 : decode prog_9_method_19_code 24 = .ok (.ifCond .le 17, 3) := by decide +kernel
theorem d_Mod_sayInt_27 : decode prog_9_method_19_code 27 = .ok (.lload 5, 2) := by decide +kernel
theorem d_Mod_sayInt_29 : decode prog_9_method_19_code 29 = .ok (.ldc2_w 103, 3) := by decide +kernel
theorem d_Mod_sayInt_32 : decode prog_9_method_19_code 32 = .ok (.ldiv, 1) := by decide +kernel
theorem d_Mod_sayInt_33 : decode prog_9_method_19_code 33 = .ok (.lstore 5, 2) := by decide +kernel
theorem d_Mod_sayInt_35 : decode prog_9_method_19_code 35 = .ok (.iinc 7 1, 3) := by decide +kernel
theorem d_Mod_sayInt_38 : decode prog_9_method_19_code 38 = .ok (.goto (-18), 3) := by decide +kernel
theorem d_Mod_sayInt_41 : decode prog_9_method_19_code 41 = .ok (.aload_n 0, 1) := by decide +kernel
theorem d_Mod_sayInt_42 : decode prog_9_method_19_code 42 = .ok (.iload_n 1, 1) := by decide +kernel
theorem d_Mod_sayInt_43 : decode prog_9_method_19_code 43 = .ok (.lload_n 2, 1) := by decide +kernel
theorem d_Mod_sayInt_44 : decode prog_9_method_19_code 44 = .ok (.lconst 0, 1) := by decide +kernel
theorem d_Mod_sayInt_45 : decode prog_9_method_19_code 45 = .ok (.lcmp, 1) := by decide +kernel
theorem d_Mod_sayInt_46 : decode prog_9_method_19_code 46 = .ok (.ifCond .ge 11, 3) := by decide +kernel
theorem d_Mod_sayInt_49 : decode prog_9_method_19_code 49 = .ok (.bipush 127, 2) := by decide +kernel
theorem d_Mod_sayInt_51 : decode prog_9_method_19_code 51 = .ok (.iload 7, 2) := by decide +kernel
theorem d_Mod_sayInt_53 : decode prog_9_method_19_code 53 = .ok (.isub, 1) := by decide +kernel
theorem d_Mod_sayInt_54 : decode prog_9_method_19_code 54 = .ok (.goto 9, 3) := by decide +kernel
theorem d_Mod_sayInt_57 : decode prog_9_method_19_code 57 = .ok (.sipush 128, 3) := by decide +kernel
theorem d_Mod_sayInt_60 : decode prog_9_method_19_code 60 = .ok (.iload 7, 2) := by decide +kernel
theorem d_Mod_sayInt_62 : decode prog_9_method_19_code 62 = .ok (.iadd, 1) := by decide +kernel
theorem d_Mod_sayInt_63 : decode prog_9_method_19_code 63 = .ok (.iload 4, 2) := by decide +kernel
theorem d_Mod_sayInt_65 : decode prog_9_method_19_code 65 = .ok (.ixor, 1) := by decide +kernel
theorem d_Mod_sayInt_66 : decode prog_9_method_19_code 66 = .ok (.invokevirtual 105, 3) := by decide +kernel
theorem d_Mod_sayInt_69 : decode prog_9_method_19_code 69 = .ok (.iload 7, 2) := by decide +kernel
theorem d_Mod_sayInt_71 : decode prog_9_method_19_code 71 = .ok (.iconst 1, 1) := by decide +kernel
theorem d_Mod_sayInt_72 : decode prog_9_method_19_code 72 = .ok (.isub, 1) := by decide +kernel
theorem d_Mod_sayInt_73 : decode prog_9_method_19_code 73 = .ok (.istore 8, 2) := by decide +kernel
theorem d_Mod_sayInt_75 : decode prog_9_method_19_code 75 = .ok (.iload 8, 2) := by decide +kernel
theorem d_Mod_sayInt_77 : decode prog_9_method_19_code 77 = .ok (.ifCond .lt 29, 3) := by decide +kernel
theorem d_Mod_sayInt_80 : decode prog_9_method_19_code 80 = .ok (.aload_n 0, 1) := by decide +kernel
theorem d_Mod_sayInt_81 : decode prog_9_method_19_code 81 = .ok (.iload_n 1, 1) := by decide +kernel
theorem d_Mod_sayInt_82 : decode prog_9_method_19_code 82 = .ok (.lload_n 2, 1) := by decide +kernel
theorem d_Mod_sayInt_83 : decode prog_9_method_19_code 83 = .ok (.bipush 8, 2) := by decide +kernel
theorem d_Mod_sayInt_85 : decode prog_9_method_19_code 85 = .ok (.iload 8, 2) := by decide +kernel
theorem d_Mod_sayInt_87 : decode prog_9_method_19_code 87 = .ok (.imul, 1) := by decide +kernel
theorem d_Mod_sayInt_88 : decode prog_9_method_19_code 88 = .ok (.lshr, 1) := by decide +kernel
theorem d_Mod_sayInt_89 : decode prog_9_method_19_code 89 = .ok (.ldc2_w 109, 3) := by decide +kernel
theorem d_Mod_sayInt_92 : decode prog_9_method_19_code 92 = .ok (.land, 1) := by decide +kernel
theorem d_Mod_sayInt_93 : decode prog_9_method_19_code 93 = .ok (.l2i, 1) := by decide +kernel
theorem d_Mod_sayInt_94 : decode prog_9_method_19_code 94 = .ok (.iload 4, 2) := by decide +kernel
theorem d_Mod_sayInt_96 : decode prog_9_method_19_code 96 = .ok (.ixor, 1) := by decide +kernel
theorem d_Mod_sayInt_97 : decode prog_9_method_19_code 97 = .ok (.invokevirtual 105, 3) := by decide +kernel
theorem d_Mod_sayInt_100 : decode prog_9_method_19_code 100 = .ok (.iinc 8 (-1), 3) := by decide +kernel
theorem d_Mod_sayInt_103 : decode prog_9_method_19_code 103 = .ok (.goto (-28), 3) := by decide +kernel
theorem d_Mod_sayInt_106 : decode prog_9_method_19_code 106 = .ok (.return_, 1) := by decide +kernel
abbrev M_Mod_sayText : MethodName × ByteArray × Nat × Option FieldType := (⟨"KeyCodecModel", "sayText", "(III)V"⟩, prog_9_method_20_code, 6, none)
theorem d_Mod_sayText_0 : decode prog_9_method_20_code 0 = .ok (.iconst 0, 1) := by decide +kernel
theorem d_Mod_sayText_1 : decode prog_9_method_20_code 1 = .ok (.istore 4, 2) := by decide +kernel
theorem d_Mod_sayText_3 : decode prog_9_method_20_code 3 = .ok (.iload 4, 2) := by decide +kernel
theorem d_Mod_sayText_5 : decode prog_9_method_20_code 5 = .ok (.aload_n 0, 1) := by decide +kernel
theorem d_Mod_sayText_6 : decode prog_9_method_20_code 6 = .ok (.getfield 27, 3) := by decide +kernel
theorem d_Mod_sayText_9 : decode prog_9_method_20_code 9 = .ok (.iload_n 2, 1) := by decide +kernel
theorem d_Mod_sayText_10 : decode prog_9_method_20_code 10 = .ok (.iaload, 1) := by decide +kernel
theorem d_Mod_sayText_11 : decode prog_9_method_20_code 11 = .ok (.if_icmp .ge 47, 3) := by decide +kernel
theorem d_Mod_sayText_14 : decode prog_9_method_20_code 14 = .ok (.aload_n 0, 1) := by decide +kernel
theorem d_Mod_sayText_15 : decode prog_9_method_20_code 15 = .ok (.getfield 30, 3) := by decide +kernel
theorem d_Mod_sayText_18 : decode prog_9_method_20_code 18 = .ok (.bipush 10, 2) := by decide +kernel
theorem d_Mod_sayText_20 : decode prog_9_method_20_code 20 = .ok (.iload_n 2, 1) := by decide +kernel
theorem d_Mod_sayText_21 : decode prog_9_method_20_code 21 = .ok (.imul, 1) := by decide +kernel
theorem d_Mod_sayText_22 : decode prog_9_method_20_code 22 = .ok (.iload 4, 2) := by decide +kernel
theorem d_Mod_sayText_24 : decode prog_9_method_20_code 24 = .ok (.iadd, 1) := by decide +kernel
theorem d_Mod_sayText_25 : decode prog_9_method_20_code 25 = .ok (.iaload, 1) := by decide +kernel
theorem d_Mod_sayText_26 : decode prog_9_method_20_code 26 = .ok (.istore 5, 2) := by decide +kernel
theorem d_Mod_sayText_28 : decode prog_9_method_20_code 28 = .ok (.aload_n 0, 1) := by decide +kernel
theorem d_Mod_sayText_29 : decode prog_9_method_20_code 29 = .ok (.iload_n 1, 1) := by decide +kernel
theorem d_Mod_sayText_30 : decode prog_9_method_20_code 30 = .ok (.iload 5, 2) := by decide +kernel
theorem d_Mod_sayText_32 : decode prog_9_method_20_code 32 = .ok (.iload_n 3, 1) := by decide +kernel
theorem d_Mod_sayText_33 : decode prog_9_method_20_code 33 = .ok (.ixor, 1) := by decide +kernel
theorem d_Mod_sayText_34 : decode prog_9_method_20_code 34 = .ok (.invokevirtual 105, 3) := by decide +kernel
theorem d_Mod_sayText_37 : decode prog_9_method_20_code 37 = .ok (.iload 5, 2) := by decide +kernel
theorem d_Mod_sayText_39 : decode prog_9_method_20_code 39 = .ok (.ifCond .ne 13, 3) := by decide +kernel
theorem d_Mod_sayText_42 : decode prog_9_method_20_code 42 = .ok (.aload_n 0, 1) := by decide +kernel
theorem d_Mod_sayText_43 : decode prog_9_method_20_code 43 = .ok (.iload_n 1, 1) := by decide +kernel
theorem d_Mod_sayText_44 : decode prog_9_method_20_code 44 = .ok (.sipush 255, 3) := by decide +kernel
theorem d_Mod_sayText_47 : decode prog_9_method_20_code 47 = .ok (.iload_n 3, 1) := by decide +kernel
theorem d_Mod_sayText_48 : decode prog_9_method_20_code 48 = .ok (.ixor, 1) := by decide +kernel
theorem d_Mod_sayText_49 : decode prog_9_method_20_code 49 = .ok (.invokevirtual 105, 3) := by decide +kernel
theorem d_Mod_sayText_52 : decode prog_9_method_20_code 52 = .ok (.iinc 4 1, 3) := by decide +kernel
theorem d_Mod_sayText_55 : decode prog_9_method_20_code 55 = .ok (.goto (-52), 3) := by decide +kernel
theorem d_Mod_sayText_58 : decode prog_9_method_20_code 58 = .ok (.aload_n 0, 1) := by decide +kernel
theorem d_Mod_sayText_59 : decode prog_9_method_20_code 59 = .ok (.iload_n 1, 1) := by decide +kernel
theorem d_Mod_sayText_60 : decode prog_9_method_20_code 60 = .ok (.iload_n 3, 1) := by decide +kernel
theorem d_Mod_sayText_61 : decode prog_9_method_20_code 61 = .ok (.invokevirtual 105, 3) := by decide +kernel
theorem d_Mod_sayText_64 : decode prog_9_method_20_code 64 = .ok (.aload_n 0, 1) := by decide +kernel
theorem d_Mod_sayText_65 : decode prog_9_method_20_code 65 = .ok (.iload_n 1, 1) := by decide +kernel
theorem d_Mod_sayText_66 : decode prog_9_method_20_code 66 = .ok (.iconst 1, 1) := by decide +kernel
theorem d_Mod_sayText_67 : decode prog_9_method_20_code 67 = .ok (.iload_n 3, 1) := by decide +kernel
theorem d_Mod_sayText_68 : decode prog_9_method_20_code 68 = .ok (.ixor, 1) := by decide +kernel
theorem d_Mod_sayText_69 : decode prog_9_method_20_code 69 = .ok (.invokevirtual 105, 3) := by decide +kernel
theorem d_Mod_sayText_72 : decode prog_9_method_20_code 72 = .ok (.return_, 1) := by decide +kernel
abbrev M_Mod_sayDecimal : MethodName × ByteArray × Nat × Option FieldType := (⟨"KeyCodecModel", "sayDecimal", "(IJII)V"⟩, prog_9_method_21_code, 13, none)
theorem d_Mod_sayDecimal_0 : decode prog_9_method_21_code 0 = .ok (.lload_n 2, 1) := by decide +kernel
theorem d_Mod_sayDecimal_1 : decode prog_9_method_21_code 1 = .ok (.lconst 0, 1) := by decide +kernel
theorem d_Mod_sayDecimal_2 : decode prog_9_method_21_code 2 = .ok (.lcmp, 1) := by decide +kernel
theorem d_Mod_sayDecimal_3 : decode prog_9_method_21_code 3 = .ok (.ifCond .ne 13, 3) := by decide +kernel
theorem d_Mod_sayDecimal_6 : decode prog_9_method_21_code 6 = .ok (.aload_n 0, 1) := by decide +kernel
theorem d_Mod_sayDecimal_7 : decode prog_9_method_21_code 7 = .ok (.iload_n 1, 1) := by decide +kernel
theorem d_Mod_sayDecimal_8 : decode prog_9_method_21_code 8 = .ok (.iconst 2, 1) := by decide +kernel
theorem d_Mod_sayDecimal_9 : decode prog_9_method_21_code 9 = .ok (.iload 5, 2) := by decide +kernel
theorem d_Mod_sayDecimal_11 : decode prog_9_method_21_code 11 = .ok (.ixor, 1) := by decide +kernel
theorem d_Mod_sayDecimal_12 : decode prog_9_method_21_code 12 = .ok (.invokevirtual 105, 3) := by decide +kernel
theorem d_Mod_sayDecimal_15 : decode prog_9_method_21_code 15 = .ok (.return_, 1) := by decide +kernel
theorem d_Mod_sayDecimal_16 : decode prog_9_method_21_code 16 = .ok (.lload_n 2, 1) := by decide +kernel
theorem d_Mod_sayDecimal_17 : decode prog_9_method_21_code 17 = .ok (.lconst 0, 1) := by decide +kernel
theorem d_Mod_sayDecimal_18 : decode prog_9_method_21_code 18 = .ok (.lcmp, 1) := by decide +kernel
theorem d_Mod_sayDecimal_19 : decode prog_9_method_21_code 19 = .ok (.ifCond .ge 9, 3) := by decide +kernel
theorem d_Mod_sayDecimal_22 : decode prog_9_method_21_code 22 = .ok (.sipush 255, 3) := by decide +kernel
theorem d_Mod_sayDecimal_25 : decode prog_9_method_21_code 25 = .ok (.goto 4, 3) := by decide +kernel
theorem d_Mod_sayDecimal_28 : decode prog_9_method_21_code 28 = .ok (.iconst 0, 1) := by decide +kernel
theorem d_Mod_sayDecimal_29 : decode prog_9_method_21_code 29 = .ok (.istore 6, 2) := by decide +kernel
theorem d_Mod_sayDecimal_31 : decode prog_9_method_21_code 31 = .ok (.lload_n 2, 1) := by decide +kernel
theorem d_Mod_sayDecimal_32 : decode prog_9_method_21_code 32 = .ok (.lconst 0, 1) := by decide +kernel
theorem d_Mod_sayDecimal_33 : decode prog_9_method_21_code 33 = .ok (.lcmp, 1) := by decide +kernel
theorem d_Mod_sayDecimal_34 : decode prog_9_method_21_code 34 = .ok (.ifCond .ge 9, 3) := by decide +kernel
theorem d_Mod_sayDecimal_37 : decode prog_9_method_21_code 37 = .ok (.lconst 0, 1) := by decide +kernel
theorem d_Mod_sayDecimal_38 : decode prog_9_method_21_code 38 = .ok (.lload_n 2, 1) := by decide +kernel
theorem d_Mod_sayDecimal_39 : decode prog_9_method_21_code 39 = .ok (.lsub, 1) := by decide +kernel
theorem d_Mod_sayDecimal_40 : decode prog_9_method_21_code 40 = .ok (.goto 4, 3) := by decide +kernel
theorem d_Mod_sayDecimal_43 : decode prog_9_method_21_code 43 = .ok (.lload_n 2, 1) := by decide +kernel
theorem d_Mod_sayDecimal_44 : decode prog_9_method_21_code 44 = .ok (.lstore 7, 2) := by decide +kernel
theorem d_Mod_sayDecimal_46 : decode prog_9_method_21_code 46 = .ok (.iconst 0, 1) := by decide +kernel
theorem d_Mod_sayDecimal_47 : decode prog_9_method_21_code 47 = .ok (.istore 9, 2) := by decide +kernel
theorem d_Mod_sayDecimal_49 : decode prog_9_method_21_code 49 = .ok (.lload 7, 2) := by decide +kernel
theorem d_Mod_sayDecimal_51 : decode prog_9_method_21_code 51 = .ok (.lstore 10, 2) := by decide +kernel
theorem d_Mod_sayDecimal_53 : decode prog_9_method_21_code 53 = .ok (.lload 10, 2) := by decide +kernel
theorem d_Mod_sayDecimal_55 : decode prog_9_method_21_code 55 = .ok (.lconst 0, 1) := by decide +kernel
theorem d_Mod_sayDecimal_56 : decode prog_9_method_21_code 56 = .ok (.lcmp, 1) := by decide +kernel
theorem d_Mod_sayDecimal_57 : decode prog_9_method_21_code 57 = .ok (.ifCond .le 17, 3) := by decide +kernel
theorem d_Mod_sayDecimal_60 : decode prog_9_method_21_code 60 = .ok (.iinc 9 1, 3) := by decide +kernel
theorem d_Mod_sayDecimal_63 : decode prog_9_method_21_code 63 = .ok (.lload 10, 2) := by decide +kernel
theorem d_Mod_sayDecimal_65 : decode prog_9_method_21_code 65 = .ok (.ldc2_w 111, 3) := by decide +kernel
theorem d_Mod_sayDecimal_68 : decode prog_9_method_21_code 68 = .ok (.ldiv, 1) := by decide +kernel
theorem d_Mod_sayDecimal_69 : decode prog_9_method_21_code 69 = .ok (.lstore 10, 2) := by decide +kernel
theorem d_Mod_sayDecimal_71 : decode prog_9_method_21_code 71 = .ok (.goto (-18), 3) := by decide +kernel
theorem d_Mod_sayDecimal_74 : decode prog_9_method_21_code 74 = .ok (.lconst 1, 1) := by decide +kernel
theorem d_Mod_sayDecimal_75 : decode prog_9_method_21_code 75 = .ok (.lstore 10, 2) := by decide +kernel
theorem d_Mod_sayDecimal_77 : decode prog_9_method_21_code 77 = .ok (.iconst 1, 1) := by decide +kernel
theorem d_Mod_sayDecimal_78 : decode prog_9_method_21_code 78 = .ok (.istore 12, 2) := by decide +kernel
theorem d_Mod_sayDecimal_80 : decode prog_9_method_21_code 80 = .ok (.iload 12, 2) := by decide +kernel
theorem d_Mod_sayDecimal_82 : decode prog_9_method_21_code 82 = .ok (.iload 9, 2) := by decide +kernel
theorem d_Mod_sayDecimal_84 : decode prog_9_method_21_code 84 = .ok (.if_icmp .ge 17, 3) := by decide +kernel
theorem d_Mod_sayDecimal_87 : decode prog_9_method_21_code 87 = .ok (.lload 10, 2) := by decide +kernel
theorem d_Mod_sayDecimal_89 : decode prog_9_method_21_code 89 = .ok (.ldc2_w 111, 3) := by decide +kernel
theorem d_Mod_sayDecimal_92 : decode prog_9_method_21_code 92 = .ok (.lmul, 1) := by decide +kernel
theorem d_Mod_sayDecimal_93 : decode prog_9_method_21_code 93 = .ok (.lstore 10, 2) := by decide +kernel
theorem d_Mod_sayDecimal_95 : decode prog_9_method_21_code 95 = .ok (.iinc 12 1, 3) := by decide +kernel
theorem d_Mod_sayDecimal_98 : decode prog_9_method_21_code 98 = .ok (.goto (-18), 3) := by decide +kernel
theorem d_Mod_sayDecimal_101 : decode prog_9_method_21_code 101 = .ok (.aload_n 0, 1) := by decide +kernel
theorem d_Mod_sayDecimal_102 : decode prog_9_method_21_code 102 = .ok (.iload_n 1, 1) := by decide +kernel
theorem d_Mod_sayDecimal_103 : decode prog_9_method_21_code 103 = .ok (.lload_n 2, 1) := by decide +kernel
theorem d_Mod_sayDecimal_104 : decode prog_9_method_21_code 104 = .ok (.lconst 0, 1) := by decide +kernel
theorem d_Mod_sayDecimal_105 : decode prog_9_method_21_code 105 = .ok (.lcmp, 1) := by decide +kernel
theorem d_Mod_sayDecimal_106 : decode prog_9_method_21_code 106 = .ok (.ifCond .ge 7, 3) := by decide +kernel
theorem d_Mod_sayDecimal_109 : decode prog_9_method_21_code 109 = .ok (.iconst 1, 1) := by decide +kernel
theorem d_Mod_sayDecimal_110 : decode prog_9_method_21_code 110 = .ok (.goto 4, 3) := by decide +kernel
theorem d_Mod_sayDecimal_113 : decode prog_9_method_21_code 113 = .ok (.iconst 3, 1) := by decide +kernel
theorem d_Mod_sayDecimal_114 : decode prog_9_method_21_code 114 = .ok (.iload 5, 2) := by decide +kernel
theorem d_Mod_sayDecimal_116 : decode prog_9_method_21_code 116 = .ok (.ixor, 1) := by decide +kernel
theorem d_Mod_sayDecimal_117 : decode prog_9_method_21_code 117 = .ok (.invokevirtual 105, 3) := by decide +kernel
theorem d_Mod_sayDecimal_120 : decode prog_9_method_21_code 120 = .ok (.aload_n 0, 1) := by decide +kernel
theorem d_Mod_sayDecimal_121 : decode prog_9_method_21_code 121 = .ok (.iload_n 1, 1) := by decide +kernel
theorem d_Mod_sayDecimal_122 : decode prog_9_method_21_code 122 = .ok (.iload 9, 2) := by decide +kernel
theorem d_Mod_sayDecimal_124 : decode prog_9_method_21_code 124 = .ok (.iload 4, 2) := by decide +kernel
theorem d_Mod_sayDecimal_126 : decode prog_9_method_21_code 126 = .ok (.isub, 1) := by decide +kernel
theorem d_Mod_sayDecimal_127 : decode prog_9_method_21_code 127 = .ok (.bipush 64, 2) := by decide +kernel
theorem d_Mod_sayDecimal_129 : decode prog_9_method_21_code 129 = .ok (.iadd, 1) := by decide +kernel
theorem d_Mod_sayDecimal_130 : decode prog_9_method_21_code 130 = .ok (.iload 6, 2) := by decide +kernel
theorem d_Mod_sayDecimal_132 : decode prog_9_method_21_code 132 = .ok (.ixor, 1) := by decide +kernel
theorem d_Mod_sayDecimal_133 : decode prog_9_method_21_code 133 = .ok (.iload 5, 2) := by decide +kernel
theorem d_Mod_sayDecimal_135 : decode prog_9_method_21_code 135 = .ok (.ixor, 1) := by decide +kernel
theorem d_Mod_sayDecimal_136 : decode prog_9_method_21_code 136 = .ok (.invokevirtual 105, 3) := by decide +kernel
theorem d_Mod_sayDecimal_139 : decode prog_9_method_21_code 139 = .ok (.lload 7, 2) := by decide +kernel
theorem d_Mod_sayDecimal_141 : decode prog_9_method_21_code 141 = .ok (.lconst 0, 1) := by decide +kernel
theorem d_Mod_sayDecimal_142 : decode prog_9_method_21_code 142 = .ok (.lcmp, 1) := by decide +kernel
theorem d_Mod_sayDecimal_143 : decode prog_9_method_21_code 143 = .ok (.ifCond .le 40, 3) := by decide +kernel
theorem d_Mod_sayDecimal_146 : decode prog_9_method_21_code 146 = .ok (.aload_n 0, 1) := by decide +kernel
theorem d_Mod_sayDecimal_147 : decode prog_9_method_21_code 147 = .ok (.iload_n 1, 1) := by decide +kernel
theorem d_Mod_sayDecimal_148 : decode prog_9_method_21_code 148 = .ok (.lload 7, 2) := by decide +kernel
theorem d_Mod_sayDecimal_150 : decode prog_9_method_21_code 150 = .ok (.lload 10, 2) := by decide +kernel
theorem d_Mod_sayDecimal_152 : decode prog_9_method_21_code 152 = .ok (.ldiv, 1) := by decide +kernel
theorem d_Mod_sayDecimal_153 : decode prog_9_method_21_code 153 = .ok (.l2i, 1) := by decide +kernel
theorem d_Mod_sayDecimal_154 : decode prog_9_method_21_code 154 = .ok (.iconst 1, 1) := by decide +kernel
theorem d_Mod_sayDecimal_155 : decode prog_9_method_21_code 155 = .ok (.iadd, 1) := by decide +kernel
theorem d_Mod_sayDecimal_156 : decode prog_9_method_21_code 156 = .ok (.iload 6, 2) := by decide +kernel
theorem d_Mod_sayDecimal_158 : decode prog_9_method_21_code 158 = .ok (.ixor, 1) := by decide +kernel
theorem d_Mod_sayDecimal_159 : decode prog_9_method_21_code 159 = .ok (.iload 5, 2) := by decide +kernel
theorem d_Mod_sayDecimal_161 : decode prog_9_method_21_code 161 = .ok (.ixor, 1) := by decide +kernel
theorem d_Mod_sayDecimal_162 : decode prog_9_method_21_code 162 = .ok (.invokevirtual 105, 3) := by decide +kernel
theorem d_Mod_sayDecimal_165 : decode prog_9_method_21_code 165 = .ok (.lload 7, 2) := by decide +kernel
theorem d_Mod_sayDecimal_167 : decode prog_9_method_21_code 167 = .ok (.lload 10, 2) := by decide +kernel
theorem d_Mod_sayDecimal_169 : decode prog_9_method_21_code 169 = .ok (.lrem, 1) := by decide +kernel
theorem d_Mod_sayDecimal_170 : decode prog_9_method_21_code 170 = .ok (.lstore 7, 2) := by decide +kernel
theorem d_Mod_sayDecimal_172 : decode prog_9_method_21_code 172 = .ok (.lload 10, 2) := by decide +kernel
theorem d_Mod_sayDecimal_174 : decode prog_9_method_21_code 174 = .ok (.ldc2_w 111, 3) := by decide +kernel
theorem d_Mod_sayDecimal_177 : decode prog_9_method_21_code 177 = .ok (.ldiv, 1) := by decide +kernel
theorem d_Mod_sayDecimal_178 : decode prog_9_method_21_code 178 = .ok (.lstore 10, 2) := by decide +kernel
theorem d_Mod_sayDecimal_180 : decode prog_9_method_21_code 180 = .ok (.goto (-41), 3) := by decide +kernel
theorem d_Mod_sayDecimal_183 : decode prog_9_method_21_code 183 = .ok (.aload_n 0, 1) := by decide +kernel
theorem d_Mod_sayDecimal_184 : decode prog_9_method_21_code 184 = .ok (.iload_n 1, 1) := by decide +kernel
theorem d_Mod_sayDecimal_185 : decode prog_9_method_21_code 185 = .ok (.iload 6, 2) := by decide +kernel
theorem d_Mod_sayDecimal_187 : decode prog_9_method_21_code 187 = .ok (.iload 5, 2) := by decide +kernel
theorem d_Mod_sayDecimal_189 : decode prog_9_method_21_code 189 = .ok (.ixor, 1) := by decide +kernel
theorem d_Mod_sayDecimal_190 : decode prog_9_method_21_code 190 = .ok (.invokevirtual 105, 3) := by decide +kernel
theorem d_Mod_sayDecimal_193 : decode prog_9_method_21_code 193 = .ok (.return_, 1) := by decide +kernel
abbrev M_Mod_sayField : MethodName × ByteArray × Nat × Option FieldType := (⟨"KeyCodecModel", "sayField", "(III)V"⟩, prog_9_method_22_code, 6, none)
theorem d_Mod_sayField_0 : decode prog_9_method_22_code 0 = .ok (.iconst 5, 1) := by decide +kernel
theorem d_Mod_sayField_1 : decode prog_9_method_22_code 1 = .ok (.iload_n 2, 1) := by decide +kernel
theorem d_Mod_sayField_2 : decode prog_9_method_22_code 2 = .ok (.imul, 1) := by decide +kernel
theorem d_Mod_sayField_3 : decode prog_9_method_22_code 3 = .ok (.iload_n 3, 1) := by decide +kernel
theorem d_Mod_sayField_4 : decode prog_9_method_22_code 4 = .ok (.iadd, 1) := by decide +kernel
theorem d_Mod_sayField_5 : decode prog_9_method_22_code 5 = .ok (.istore 4, 2) := by decide +kernel
theorem d_Mod_sayField_7 : decode prog_9_method_22_code 7 = .ok (.aload_n 0, 1) := by decide +kernel
theorem d_Mod_sayField_8 : decode prog_9_method_22_code 8 = .ok (.iload_n 3, 1) := by decide +kernel
theorem d_Mod_sayField_9 : decode prog_9_method_22_code 9 = .ok (.invokevirtual 95, 3) := by decide +kernel
theorem d_Mod_sayField_12 : decode prog_9_method_22_code 12 = .ok (.ifCond .eq 35, 3) := by decide +kernel
theorem d_Mod_sayField_15 : decode prog_9_method_22_code 15 = .ok (.aload_n 0, 1) := by decide +kernel
theorem d_Mod_sayField_16 : decode prog_9_method_22_code 16 = .ok (.iload_n 1, 1) := by decide +kernel
theorem d_Mod_sayField_17 : decode prog_9_method_22_code 17 = .ok (.aload_n 0, 1) := by decide +kernel
theorem d_Mod_sayField_18 : decode prog_9_method_22_code 18 = .ok (.getfield 23, 3) := by decide +kernel
theorem d_Mod_sayField_21 : decode prog_9_method_22_code 21 = .ok (.iload 4, 2) := by decide +kernel
theorem d_Mod_sayField_23 : decode prog_9_method_22_code 23 = .ok (.baload, 1) := by decide +kernel
theorem d_Mod_sayField_24 : decode prog_9_method_22_code 24 = .ok (.ifCond .ne 7, 3) := by decide +kernel
theorem d_Mod_sayField_27 : decode prog_9_method_22_code 27 = .ok (.iconst 1, 1) := by decide +kernel
theorem d_Mod_sayField_28 : decode prog_9_method_22_code 28 = .ok (.goto 16, 3) := by decide +kernel
theorem d_Mod_sayField_31 : decode prog_9_method_22_code 31 = .ok (.aload_n 0, 1) := by decide +kernel
theorem d_Mod_sayField_32 : decode prog_9_method_22_code 32 = .ok (.iload_n 3, 1) := by decide +kernel
theorem d_Mod_sayField_33 : decode prog_9_method_22_code 33 = .ok (.invokevirtual 113, 3) := by decide +kernel
theorem d_Mod_sayField_36 : decode prog_9_method_22_code 36 = .ok (.ifCond .eq 7, 3) := by decide +kernel
theorem d_Mod_sayField_39 : decode prog_9_method_22_code 39 = .ok (.iconst 2, 1) := by decide +kernel
theorem d_Mod_sayField_40 : decode prog_9_method_22_code 40 = .ok (.goto 4, 3) := by decide +kernel
theorem d_Mod_sayField_43 : decode prog_9_method_22_code 43 = .ok (.iconst 0, 1) := by decide +kernel
theorem d_Mod_sayField_44 : decode prog_9_method_22_code 44 = .ok (.invokevirtual 105, 3) := by decide +kernel
theorem d_Mod_sayField_47 : decode prog_9_method_22_code 47 = .ok (.aload_n 0, 1) := by decide +kernel
theorem d_Mod_sayField_48 : decode prog_9_method_22_code 48 = .ok (.getfield 23, 3) := by decide +kernel
theorem d_Mod_sayField_51 : decode prog_9_method_22_code 51 = .ok (.iload 4, 2) := by decide +kernel
theorem d_Mod_sayField_53 : decode prog_9_method_22_code 53 = .ok (.baload, 1) := by decide +kernel
theorem d_Mod_sayField_54 : decode prog_9_method_22_code 54 = .ok (.ifCond .eq 4, 3) := by decide +kernel
theorem d_Mod_sayField_57 : decode prog_9_method_22_code 57 = .ok (.return_, 1) := by decide +kernel
theorem d_Mod_sayField_58 : decode prog_9_method_22_code 58 = .ok (.aload_n 0, 1) := by decide +kernel
theorem d_Mod_sayField_59 : decode prog_9_method_22_code 59 = .ok (.iload_n 3, 1) := by decide +kernel
theorem d_Mod_sayField_60 : decode prog_9_method_22_code 60 = .ok (.invokevirtual 116, 3) := by decide +kernel
theorem d_Mod_sayField_63 : decode prog_9_method_22_code 63 = .ok (.ifCond .eq 9, 3) := by decide +kernel
theorem d_Mod_sayField_66 : decode prog_9_method_22_code 66 = .ok (.sipush 255, 3) := by decide +kernel
theorem d_Mod_sayField_69 : decode prog_9_method_22_code 69 = .ok (.goto 4, 3) := by decide +kernel
theorem d_Mod_sayField_72 : decode prog_9_method_22_code 72 = .ok (.iconst 0, 1) := by decide +kernel
theorem d_Mod_sayField_73 : decode prog_9_method_22_code 73 = .ok (.istore 5, 2) := by decide +kernel
theorem d_Mod_sayField_75 : decode prog_9_method_22_code 75 = .ok (.aload_n 0, 1) := by decide +kernel
theorem d_Mod_sayField_76 : decode prog_9_method_22_code 76 = .ok (.getfield 7, 3) := by decide +kernel
theorem d_Mod_sayField_79 : decode prog_9_method_22_code 79 = .ok (.iload_n 3, 1) := by decide +kernel
theorem d_Mod_sayField_80 : decode prog_9_method_22_code 80 = .ok (.iaload, 1) := by decide +kernel
theorem d_Mod_sayField_81 : decode prog_9_method_22_code 81 = .ok (.iconst 1, 1) := by decide +kernel
theorem d_Mod_sayField_82 : decode prog_9_method_22_code 82 = .ok (.if_icmp .ne 27, 3) := by decide +kernel
theorem d_Mod_sayField_85 : decode prog_9_method_22_code 85 = .ok (.aload_n 0, 1) := by decide +kernel
theorem d_Mod_sayField_86 : decode prog_9_method_22_code 86 = .ok (.iload_n 1, 1) := by decide +kernel
theorem d_Mod_sayField_87 : decode prog_9_method_22_code 87 = .ok (.aload_n 0, 1) := by decide +kernel
theorem d_Mod_sayField_88 : decode prog_9_method_22_code 88 = .ok (.getfield 16, 3) := by decide +kernel
theorem d_Mod_sayField_91 : decode prog_9_method_22_code 91 = .ok (.iload 4, 2) := by decide +kernel
theorem d_Mod_sayField_93 : decode prog_9_method_22_code 93 = .ok (.laload, 1) := by decide +kernel
theorem d_Mod_sayField_94 : decode prog_9_method_22_code 94 = .ok (.aload_n 0, 1) := by decide +kernel
theorem d_Mod_sayField_95 : decode prog_9_method_22_code 95 = .ok (.getfield 20, 3) := by decide +kernel
theorem d_Mod_sayField_98 : decode prog_9_method_22_code 98 = .ok (.iload 4, 2) := by decide +kernel
theorem d_Mod_sayField_100 : decode prog_9_method_22_code 100 = .ok (.iaload, 1) := by decide +kernel
theorem d_Mod_sayField_101 : decode prog_9_method_22_code 101 = .ok (.iload 5, 2) := by decide +kernel
theorem d_Mod_sayField_103 : decode prog_9_method_22_code 103 = .ok (.invokevirtual 119, 3) := by decide +kernel
theorem d_Mod_sayField_106 : decode prog_9_method_22_code 106 = .ok (.goto 39, 3) := by decide +kernel
theorem d_Mod_sayField_109 : decode prog_9_method_22_code 109 = .ok (.aload_n 0, 1) := by decide +kernel
theorem d_Mod_sayField_110 : decode prog_9_method_22_code 110 = .ok (.getfield 7, 3) := by decide +kernel
theorem d_Mod_sayField_113 : decode prog_9_method_22_code 113 = .ok (.iload_n 3, 1) := by decide +kernel
theorem d_Mod_sayField_114 : decode prog_9_method_22_code 114 = .ok (.iaload, 1) := by decide +kernel
theorem d_Mod_sayField_115 : decode prog_9_method_22_code 115 = .ok (.iconst 2, 1) := by decide +kernel
theorem d_Mod_sayField_116 : decode prog_9_method_22_code 116 = .ok (.if_icmp .ne 15, 3) := by decide +kernel
theorem d_Mod_sayField_119 : decode prog_9_method_22_code 119 = .ok (.aload_n 0, 1) := by decide +kernel
theorem d_Mod_sayField_120 : decode prog_9_method_22_code 120 = .ok (.iload_n 1, 1) := by decide +kernel
theorem d_Mod_sayField_121 : decode prog_9_method_22_code 121 = .ok (.iload 4, 2) := by decide +kernel
theorem d_Mod_sayField_123 : decode prog_9_method_22_code 123 = .ok (.iload 5, 2) := by decide +kernel
theorem d_Mod_sayField_125 : decode prog_9_method_22_code 125 = .ok (.invokevirtual 123, 3) := by decide +kernel
theorem d_Mod_sayField_128 : decode prog_9_method_22_code 128 = .ok (.goto 17, 3) := by decide +kernel
theorem d_Mod_sayField_131 : decode prog_9_method_22_code 131 = .ok (.aload_n 0, 1) := by decide +kernel
theorem d_Mod_sayField_132 : decode prog_9_method_22_code 132 = .ok (.iload_n 1, 1) := by decide +kernel
theorem d_Mod_sayField_133 : decode prog_9_method_22_code 133 = .ok (.aload_n 0, 1) := by decide +kernel
theorem d_Mod_sayField_134 : decode prog_9_method_22_code 134 = .ok (.getfield 16, 3) := by decide +kernel
theorem d_Mod_sayField_137 : decode prog_9_method_22_code 137 = .ok (.iload 4, 2) := by decide +kernel
theorem d_Mod_sayField_139 : decode prog_9_method_22_code 139 = .ok (.laload, 1) := by decide +kernel
theorem d_Mod_sayField_140 : decode prog_9_method_22_code 140 = .ok (.iload 5, 2) := by decide +kernel
theorem d_Mod_sayField_142 : decode prog_9_method_22_code 142 = .ok (.invokevirtual 127, 3) := by decide +kernel
theorem d_Mod_sayField_145 : decode prog_9_method_22_code 145 = .ok (.return_, 1) := by decide +kernel
abbrev M_Mod_sayTail : MethodName × ByteArray × Nat × Option FieldType := (⟨"KeyCodecModel", "sayTail", "(II)V"⟩, prog_9_method_23_code, 5, none)
theorem d_Mod_sayTail_0 : decode prog_9_method_23_code 0 = .ok (.iconst 0, 1) := by decide +kernel
theorem d_Mod_sayTail_1 : decode prog_9_method_23_code 1 = .ok (.istore_n 3, 1) := by decide +kernel
theorem d_Mod_sayTail_2 : decode prog_9_method_23_code 2 = .ok (.iload_n 3, 1) := by decide +kernel
theorem d_Mod_sayTail_3 : decode prog_9_method_23_code 3 = .ok (.aload_n 0, 1) := by decide +kernel
theorem d_Mod_sayTail_4 : decode prog_9_method_23_code 4 = .ok (.getfield 62, 3) := by decide +kernel
theorem d_Mod_sayTail_7 : decode prog_9_method_23_code 7 = .ok (.if_icmp .ge 101, 3) := by decide +kernel
theorem d_Mod_sayTail_10 : decode prog_9_method_23_code 10 = .ok (.iconst 5, 1) := by decide +kernel
theorem d_Mod_sayTail_11 : decode prog_9_method_23_code 11 = .ok (.iload_n 2, 1) := by decide +kernel
theorem d_Mod_sayTail_12 : decode prog_9_method_23_code 12 = .ok (.imul, 1) := by decide +kernel
theorem d_Mod_sayTail_13 : decode prog_9_method_23_code 13 = .ok (.iload_n 3, 1) := by decide +kernel
theorem d_Mod_sayTail_14 : decode prog_9_method_23_code 14 = .ok (.iadd, 1) := by decide +kernel
theorem d_Mod_sayTail_15 : decode prog_9_method_23_code 15 = .ok (.istore 4, 2) := by decide +kernel
theorem d_Mod_sayTail_17 : decode prog_9_method_23_code 17 = .ok (.aload_n 0, 1) := by decide +kernel
theorem d_Mod_sayTail_18 : decode prog_9_method_23_code 18 = .ok (.getfield 23, 3) := by decide +kernel
theorem d_Mod_sayTail_21 : decode prog_9_method_23_code 21 = .ok (.iload 4, 2) := by decide +kernel
theorem d_Mod_sayTail_23 : decode prog_9_method_23_code 23 = .ok (.baload, 1) := by decide +kernel
theorem d_Mod_sayTail_24 : decode prog_9_method_23_code 24 = .ok (.ifCond .eq 6, 3) := by decide +kernel
theorem d_Mod_sayTail_27 : decode prog_9_method_23_code 27 = .ok (.goto 75, 3) := by decide +kernel
theorem d_Mod_sayTail_30 : decode prog_9_method_23_code 30 = .ok (.aload_n 0, 1) := by decide +kernel
theorem d_Mod_sayTail_31 : decode prog_9_method_23_code 31 = .ok (.getfield 7, 3) := by decide +kernel
theorem d_Mod_sayTail_34 : decode prog_9_method_23_code 34 = .ok (.iload_n 3, 1) := by decide +kernel
theorem d_Mod_sayTail_35 : decode prog_9_method_23_code 35 = .ok (.iaload, 1) := by decide +kernel
theorem d_Mod_sayTail_36 : decode prog_9_method_23_code 36 = .ok (.iconst 1, 1) := by decide +kernel
theorem d_Mod_sayTail_37 : decode prog_9_method_23_code 37 = .ok (.if_icmp .ne 15, 3) := by decide +kernel
theorem d_Mod_sayTail_40 : decode prog_9_method_23_code 40 = .ok (.aload_n 0, 1) := by decide +kernel
theorem d_Mod_sayTail_41 : decode prog_9_method_23_code 41 = .ok (.iload_n 1, 1) := by decide +kernel
theorem d_Mod_sayTail_42 : decode prog_9_method_23_code 42 = .ok (.aload_n 0, 1) := by decide +kernel
theorem d_Mod_sayTail_43 : decode prog_9_method_23_code 43 = .ok (.getfield 20, 3) := by decide +kernel
theorem d_Mod_sayTail_46 : decode prog_9_method_23_code 46 = .ok (.iload 4, 2) := by decide +kernel
theorem d_Mod_sayTail_48 : decode prog_9_method_23_code 48 = .ok (.iaload, 1) := by decide +kernel
theorem d_Mod_sayTail_49 : decode prog_9_method_23_code 49 = .ok (.invokevirtual 105, 3) := by decide +kernel
theorem d_Mod_sayTail_52 : decode prog_9_method_23_code 52 = .ok (.aload_n 0, 1) := by decide +kernel
theorem d_Mod_sayTail_53 : decode prog_9_method_23_code 53 = .ok (.getfield 7, 3) := by decide +kernel
theorem d_Mod_sayTail_56 : decode prog_9_method_23_code 56 = .ok (.iload_n 3, 1) := by decide +kernel
theorem d_Mod_sayTail_57 : decode prog_9_method_23_code 57 = .ok (.iaload, 1) := by decide +kernel
theorem d_Mod_sayTail_58 : decode prog_9_method_23_code 58 = .ok (.iconst 3, 1) := by decide +kernel
theorem d_Mod_sayTail_59 : decode prog_9_method_23_code 59 = .ok (.if_icmp .ne 43, 3) := by decide +kernel
theorem d_Mod_sayTail_62 : decode prog_9_method_23_code 62 = .ok (.aload_n 0, 1) := by decide +kernel
theorem d_Mod_sayTail_63 : decode prog_9_method_23_code 63 = .ok (.iload_n 1, 1) := by decide +kernel
theorem d_Mod_sayTail_64 : decode prog_9_method_23_code 64 = .ok (.sipush 1000, 3) := by decide +kernel
theorem d_Mod_sayTail_67 : decode prog_9_method_23_code 67 = .ok (.aload_n 0, 1) := by decide +kernel
theorem d_Mod_sayTail_68 : decode prog_9_method_23_code 68 = .ok (.getfield 20, 3) := by decide +kernel
theorem d_Mod_sayTail_71 : decode prog_9_method_23_code 71 = .ok (.iload 4, 2) := by decide +kernel
theorem d_Mod_sayTail_73 : decode prog_9_method_23_code 73 = .ok (.iaload, 1) := by decide +kernel
theorem d_Mod_sayTail_74 : decode prog_9_method_23_code 74 = .ok (.iadd, 1) := by decide +kernel
theorem d_Mod_sayTail_75 : decode prog_9_method_23_code 75 = .ok (.sipush 256, 3) := by decide +kernel
theorem d_Mod_sayTail_78 : decode prog_9_method_23_code 78 = .ok (.idiv, 1) := by decide +kernel
theorem d_Mod_sayTail_79 : decode prog_9_method_23_code 79 = .ok (.invokevirtual 105, 3) := by decide +kernel
theorem d_Mod_sayTail_82 : decode prog_9_method_23_code 82 = .ok (.aload_n 0, 1) := by decide +kernel
theorem d_Mod_sayTail_83 : decode prog_9_method_23_code 83 = .ok (.iload_n 1, 1) := by decide +kernel
theorem d_Mod_sayTail_84 : decode prog_9_method_23_code 84 = .ok (.sipush 1000, 3) := by decide +kernel
theorem d_Mod_sayTail_87 : decode prog_9_method_23_code 87 = .ok (.aload_n 0, 1) := by decide +kernel
theorem d_Mod_sayTail_88 : decode prog_9_method_23_code 88 = .ok (.getfield 20, 3) := by decide +kernel
theorem d_Mod_sayTail_91 : decode prog_9_method_23_code 91 = .ok (.iload 4, 2) := by decide +kernel
theorem d_Mod_sayTail_93 : decode prog_9_method_23_code 93 = .ok (.iaload, 1) := by decide +kernel
theorem d_Mod_sayTail_94 : decode prog_9_method_23_code 94 = .ok (.iadd, 1) := by decide +kernel
theorem d_Mod_sayTail_95 : decode prog_9_method_23_code 95 = .ok (.sipush 256, 3) := by decide +kernel
theorem d_Mod_sayTail_98 : decode prog_9_method_23_code 98 = .ok (.irem, 1) := by decide +kernel
theorem d_Mod_sayTail_99 : decode prog_9_method_23_code 99 = .ok (.invokevirtual 105, 3) := by decide +kernel
theorem d_Mod_sayTail_102 : decode prog_9_method_23_code 102 = .ok (.iinc 3 1, 3) := by decide +kernel
theorem d_Mod_sayTail_105 : decode prog_9_method_23_code 105 = .ok (.goto (-103), 3) := by decide +kernel
theorem d_Mod_sayTail_108 : decode prog_9_method_23_code 108 = .ok (.return_, 1) := by decide +kernel
abbrev M_Mod_make : MethodName × ByteArray × Nat × Option FieldType := (⟨"KeyCodecModel", "make", "(II)V"⟩, prog_9_method_24_code, 4, none)
theorem d_Mod_make_0 : decode prog_9_method_24_code 0 = .ok (.aload_n 0, 1) := by decide +kernel
theorem d_Mod_make_1 : decode prog_9_method_24_code 1 = .ok (.iconst 0, 1) := by decide +kernel
theorem d_Mod_make_2 : decode prog_9_method_24_code 2 = .ok (.putfield 100, 3) := by decide +kernel
theorem d_Mod_make_5 : decode prog_9_method_24_code 5 = .ok (.aload_n 0, 1) := by decide +kernel
theorem d_Mod_make_6 : decode prog_9_method_24_code 6 = .ok (.getfield 39, 3) := by decide +kernel
theorem d_Mod_make_9 : decode prog_9_method_24_code 9 = .ok (.bipush 6, 2) := by decide +kernel
theorem d_Mod_make_11 : decode prog_9_method_24_code 11 = .ok (.iload_n 1, 1) := by decide +kernel
theorem d_Mod_make_12 : decode prog_9_method_24_code 12 = .ok (.imul, 1) := by decide +kernel
theorem d_Mod_make_13 : decode prog_9_method_24_code 13 = .ok (.iconst 0, 1) := by decide +kernel
theorem d_Mod_make_14 : decode prog_9_method_24_code 14 = .ok (.iastore, 1) := by decide +kernel
theorem d_Mod_make_15 : decode prog_9_method_24_code 15 = .ok (.iconst 0, 1) := by decide +kernel
theorem d_Mod_make_16 : decode prog_9_method_24_code 16 = .ok (.istore_n 3, 1) := by decide +kernel
theorem d_Mod_make_17 : decode prog_9_method_24_code 17 = .ok (.iload_n 3, 1) := by decide +kernel
theorem d_Mod_make_18 : decode prog_9_method_24_code 18 = .ok (.aload_n 0, 1) := by decide +kernel
theorem d_Mod_make_19 : decode prog_9_method_24_code 19 = .ok (.getfield 62, 3) := by decide +kernel
theorem d_Mod_make_22 : decode prog_9_method_24_code 22 = .ok (.if_icmp .ge 33, 3) := by decide +kernel
theorem d_Mod_make_25 : decode prog_9_method_24_code 25 = .ok (.aload_n 0, 1) := by decide +kernel
theorem d_Mod_make_26 : decode prog_9_method_24_code 26 = .ok (.iload_n 1, 1) := by decide +kernel
theorem d_Mod_make_27 : decode prog_9_method_24_code 27 = .ok (.iload_n 2, 1) := by decide +kernel
theorem d_Mod_make_28 : decode prog_9_method_24_code 28 = .ok (.iload_n 3, 1) := by decide +kernel
theorem d_Mod_make_29 : decode prog_9_method_24_code 29 = .ok (.invokevirtual 130, 3) := by decide +kernel
theorem d_Mod_make_32 : decode prog_9_method_24_code 32 = .ok (.aload_n 0, 1) := by decide +kernel
theorem d_Mod_make_33 : decode prog_9_method_24_code 33 = .ok (.getfield 39, 3) := by decide +kernel
theorem d_Mod_make_36 : decode prog_9_method_24_code 36 = .ok (.bipush 6, 2) := by decide +kernel
theorem d_Mod_make_38 : decode prog_9_method_24_code 38 = .ok (.iload_n 1, 1) := by decide +kernel
theorem d_Mod_make_39 : decode prog_9_method_24_code 39 = .ok (.imul, 1) := by decide +kernel
theorem d_Mod_make_40 : decode prog_9_method_24_code 40 = .ok (.iload_n 3, 1) := by decide +kernel
theorem d_Mod_make_41 : decode prog_9_method_24_code 41 = .ok (.iadd, 1) := by decide +kernel
theorem d_Mod_make_42 : decode prog_9_method_24_code 42 = .ok (.iconst 1, 1) := by decide +kernel
theorem d_Mod_make_43 : decode prog_9_method_24_code 43 = .ok (.iadd, 1) := by decide +kernel
theorem d_Mod_make_44 : decode prog_9_method_24_code 44 = .ok (.aload_n 0, 1) := by decide +kernel
theorem d_Mod_make_45 : decode prog_9_method_24_code 45 = .ok (.getfield 100, 3) := by decide +kernel
theorem d_Mod_make_48 : decode prog_9_method_24_code 48 = .ok (.iastore, 1) := by decide +kernel
theorem d_Mod_make_49 : decode prog_9_method_24_code 49 = .ok (.iinc 3 1, 3) := by decide +kernel
theorem d_Mod_make_52 : decode prog_9_method_24_code 52 = .ok (.goto (-35), 3) := by decide +kernel
theorem d_Mod_make_55 : decode prog_9_method_24_code 55 = .ok (.aload_n 0, 1) := by decide +kernel
theorem d_Mod_make_56 : decode prog_9_method_24_code 56 = .ok (.iload_n 1, 1) := by decide +kernel
theorem d_Mod_make_57 : decode prog_9_method_24_code 57 = .ok (.iload_n 2, 1) := by decide +kernel
theorem d_Mod_make_58 : decode prog_9_method_24_code 58 = .ok (.invokevirtual 133, 3) := by decide +kernel
theorem d_Mod_make_61 : decode prog_9_method_24_code 61 = .ok (.aload_n 0, 1) := by decide +kernel
theorem d_Mod_make_62 : decode prog_9_method_24_code 62 = .ok (.getfield 42, 3) := by decide +kernel
theorem d_Mod_make_65 : decode prog_9_method_24_code 65 = .ok (.iload_n 1, 1) := by decide +kernel
theorem d_Mod_make_66 : decode prog_9_method_24_code 66 = .ok (.aload_n 0, 1) := by decide +kernel
theorem d_Mod_make_67 : decode prog_9_method_24_code 67 = .ok (.getfield 100, 3) := by decide +kernel
theorem d_Mod_make_70 : decode prog_9_method_24_code 70 = .ok (.iastore, 1) := by decide +kernel
theorem d_Mod_make_71 : decode prog_9_method_24_code 71 = .ok (.return_, 1) := by decide +kernel
abbrev M_Mod_encode : MethodName × ByteArray × Nat × Option FieldType := (⟨"KeyCodecModel", "encode", "()I"⟩, prog_9_method_25_code, 2, some .int)
theorem d_Mod_encode_0 : decode prog_9_method_25_code 0 = .ok (.aload_n 0, 1) := by decide +kernel
theorem d_Mod_encode_1 : decode prog_9_method_25_code 1 = .ok (.aload_n 0, 1) := by decide +kernel
theorem d_Mod_encode_2 : decode prog_9_method_25_code 2 = .ok (.getfield 58, 3) := by decide +kernel
theorem d_Mod_encode_5 : decode prog_9_method_25_code 5 = .ok (.ifCond .eq 7, 3) := by decide +kernel
theorem d_Mod_encode_8 : decode prog_9_method_25_code 8 = .ok (.iconst 0, 1) := by decide +kernel
theorem d_Mod_encode_9 : decode prog_9_method_25_code 9 = .ok (.goto 4, 3) := by decide +kernel
theorem d_Mod_encode_12 : decode prog_9_method_25_code 12 = .ok (.iconst 1, 1) := by decide +kernel
theorem d_Mod_encode_13 : decode prog_9_method_25_code 13 = .ok (.putfield 55, 3) := by decide +kernel
theorem d_Mod_encode_16 : decode prog_9_method_25_code 16 = .ok (.aload_n 0, 1) := by decide +kernel
theorem d_Mod_encode_17 : decode prog_9_method_25_code 17 = .ok (.getfield 55, 3) := by decide +kernel
theorem d_Mod_encode_20 : decode prog_9_method_25_code 20 = .ok (.ifCond .eq 5, 3) := by decide +kernel
theorem d_Mod_encode_23 : decode prog_9_method_25_code 23 = .ok (.iconst 0, 1) := by decide +kernel
theorem d_Mod_encode_24 : decode prog_9_method_25_code 24 = .ok (.ireturn, 1) := by decide +kernel
theorem d_Mod_encode_25 : decode prog_9_method_25_code 25 = .ok (.aload_n 0, 1) := by decide +kernel
theorem d_Mod_encode_26 : decode prog_9_method_25_code 26 = .ok (.iconst 0, 1) := by decide +kernel
theorem d_Mod_encode_27 : decode prog_9_method_25_code 27 = .ok (.iconst 0, 1) := by decide +kernel
theorem d_Mod_encode_28 : decode prog_9_method_25_code 28 = .ok (.invokevirtual 136, 3) := by decide +kernel
theorem d_Mod_encode_31 : decode prog_9_method_25_code 31 = .ok (.aload_n 0, 1) := by decide +kernel
theorem d_Mod_encode_32 : decode prog_9_method_25_code 32 = .ok (.aload_n 0, 1) := by decide +kernel
theorem d_Mod_encode_33 : decode prog_9_method_25_code 33 = .ok (.getfield 42, 3) := by decide +kernel
theorem d_Mod_encode_36 : decode prog_9_method_25_code 36 = .ok (.iconst 0, 1) := by decide +kernel
theorem d_Mod_encode_37 : decode prog_9_method_25_code 37 = .ok (.iaload, 1) := by decide +kernel
theorem d_Mod_encode_38 : decode prog_9_method_25_code 38 = .ok (.putfield 72, 3) := by decide +kernel
theorem d_Mod_encode_41 : decode prog_9_method_25_code 41 = .ok (.iconst 0, 1) := by decide +kernel
theorem d_Mod_encode_42 : decode prog_9_method_25_code 42 = .ok (.istore_n 1, 1) := by decide +kernel
theorem d_Mod_encode_43 : decode prog_9_method_25_code 43 = .ok (.iload_n 1, 1) := by decide +kernel
theorem d_Mod_encode_44 : decode prog_9_method_25_code 44 = .ok (.aload_n 0, 1) := by decide +kernel
theorem d_Mod_encode_45 : decode prog_9_method_25_code 45 = .ok (.getfield 72, 3) := by decide +kernel
theorem d_Mod_encode_48 : decode prog_9_method_25_code 48 = .ok (.if_icmp .ge 21, 3) := by decide +kernel
theorem d_Mod_encode_51 : decode prog_9_method_25_code 51 = .ok (.aload_n 0, 1) := by decide +kernel
theorem d_Mod_encode_52 : decode prog_9_method_25_code 52 = .ok (.getfield 33, 3) := by decide +kernel
theorem d_Mod_encode_55 : decode prog_9_method_25_code 55 = .ok (.iload_n 1, 1) := by decide +kernel
theorem d_Mod_encode_56 : decode prog_9_method_25_code 56 = .ok (.aload_n 0, 1) := by decide +kernel
theorem d_Mod_encode_57 : decode prog_9_method_25_code 57 = .ok (.getfield 36, 3) := by decide +kernel
theorem d_Mod_encode_60 : decode prog_9_method_25_code 60 = .ok (.iload_n 1, 1) := by decide +kernel
theorem d_Mod_encode_61 : decode prog_9_method_25_code 61 = .ok (.iaload, 1) := by decide +kernel
theorem d_Mod_encode_62 : decode prog_9_method_25_code 62 = .ok (.iastore, 1) := by decide +kernel
theorem d_Mod_encode_63 : decode prog_9_method_25_code 63 = .ok (.iinc 1 1, 3) := by decide +kernel
theorem d_Mod_encode_66 : decode prog_9_method_25_code 66 = .ok (.goto (-23), 3) := by decide +kernel
theorem d_Mod_encode_69 : decode prog_9_method_25_code 69 = .ok (.aload_n 0, 1) := by decide +kernel
theorem d_Mod_encode_70 : decode prog_9_method_25_code 70 = .ok (.getfield 72, 3) := by decide +kernel
theorem d_Mod_encode_73 : decode prog_9_method_25_code 73 = .ok (.ireturn, 1) := by decide +kernel
abbrev M_Mod_load : MethodName × ByteArray × Nat × Option FieldType := (⟨"KeyCodecModel", "load", "(IJ)Z"⟩, prog_9_method_26_code, 5, some .boolean)
theorem d_Mod_load_0 : decode prog_9_method_26_code 0 = .ok (.aload_n 0, 1) := by decide +kernel
theorem d_Mod_load_1 : decode prog_9_method_26_code 1 = .ok (.iconst 0, 1) := by decide +kernel
theorem d_Mod_load_2 : decode prog_9_method_26_code 2 = .ok (.putfield 55, 3) := by decide +kernel
theorem d_Mod_load_5 : decode prog_9_method_26_code 5 = .ok (.iload_n 1, 1) := by decide +kernel
theorem d_Mod_load_6 : decode prog_9_method_26_code 6 = .ok (.iconst 1, 1) := by decide +kernel
theorem d_Mod_load_7 : decode prog_9_method_26_code 7 = .ok (.if_icmp .lt 20, 3) := by decide +kernel
theorem d_Mod_load_10 : decode prog_9_method_26_code 10 = .ok (.iload_n 1, 1) := by decide +kernel
theorem d_Mod_load_11 : decode prog_9_method_26_code 11 = .ok (.bipush 8, 2) := by decide +kernel
theorem d_Mod_load_13 : decode prog_9_method_26_code 13 = .ok (.if_icmp .gt 14, 3) := by decide +kernel
theorem d_Mod_load_16 : decode prog_9_method_26_code 16 = .ok (.aload_n 0, 1) := by decide +kernel
theorem d_Mod_load_17 : decode prog_9_method_26_code 17 = .ok (.getfield 72, 3) := by decide +kernel
theorem d_Mod_load_20 : decode prog_9_method_26_code 20 = .ok (.iload_n 1, 1) := by decide +kernel
theorem d_Mod_load_21 : decode prog_9_method_26_code 21 = .ok (.iadd, 1) := by decide +kernel
theorem d_Mod_load_22 : decode prog_9_method_26_code 22 = .ok (.bipush 120, 2) := by decide +kernel
theorem d_Mod_load_24 : decode prog_9_method_26_code 24 = .ok (.if_icmp .le 5, 3) := by decide +kernel
theorem d_Mod_load_27 : decode prog_9_method_26_code 27 = .ok (.iconst 0, 1) := by decide +kernel
theorem d_Mod_load_28 : decode prog_9_method_26_code 28 = .ok (.ireturn, 1) := by decide +kernel
theorem d_Mod_load_29 : decode prog_9_method_26_code 29 = .ok (.iload_n 1, 1) := by decide +kernel
theorem d_Mod_load_30 : decode prog_9_method_26_code 30 = .ok (.iconst 1, 1) := by decide +kernel
theorem d_Mod_load_31 : decode prog_9_method_26_code 31 = .ok (.isub, 1) := by decide +kernel
theorem d_Mod_load_32 : decode prog_9_method_26_code 32 = .ok (.istore 4, 2) := by decide +kernel
theorem d_Mod_load_34 : decode prog_9_method_26_code 34 = .ok (.iload 4, 2) := by decide +kernel
theorem d_Mod_load_36 : decode prog_9_method_26_code 36 = .ok (.ifCond .lt 40, 3) := by decide +kernel
theorem d_Mod_load_39 : decode prog_9_method_26_code 39 = .ok (.aload_n 0, 1) := by decide +kernel
theorem d_Mod_load_40 : decode prog_9_method_26_code 40 = .ok (.getfield 33, 3) := by decide +kernel
theorem d_Mod_load_43 : decode prog_9_method_26_code 43 = .ok (.aload_n 0, 1) := by decide +kernel
theorem d_Mod_load_44 : decode prog_9_method_26_code 44 = .ok (.getfield 72, 3) := by decide +kernel
theorem d_Mod_load_47 : decode prog_9_method_26_code 47 = .ok (.lload_n 2, 1) := by decide +kernel
theorem d_Mod_load_48 : decode prog_9_method_26_code 48 = .ok (.bipush 8, 2) := by decide +kernel
theorem d_Mod_load_50 : decode prog_9_method_26_code 50 = .ok (.iload 4, 2) := by decide +kernel
theorem d_Mod_load_52 : decode prog_9_method_26_code 52 = .ok (.imul, 1) := by decide +kernel
theorem d_Mod_load_53 : decode prog_9_method_26_code 53 = .ok (.lshr, 1) := by decide +kernel
theorem d_Mod_load_54 : decode prog_9_method_26_code 54 = .ok (.ldc2_w 109, 3) := by decide +kernel
theorem d_Mod_load_57 : decode prog_9_method_26_code 57 = .ok (.land, 1) := by decide +kernel
theorem d_Mod_load_58 : decode prog_9_method_26_code 58 = .ok (.l2i, 1) := by decide +kernel
theorem d_Mod_load_59 : decode prog_9_method_26_code 59 = .ok (.iastore, 1) := by decide +kernel
theorem d_Mod_load_60 : decode prog_9_method_26_code 60 = .ok (.aload_n 0, 1) := by decide +kernel
theorem d_Mod_load_61 : decode prog_9_method_26_code 61 = .ok (.dup, 1) := by decide +kernel
theorem d_Mod_load_62 : decode prog_9_method_26_code 62 = .ok (.getfield 72, 3) := by decide +kernel
theorem d_Mod_load_65 : decode prog_9_method_26_code 65 = .ok (.iconst 1, 1) := by decide +kernel
theorem d_Mod_load_66 : decode prog_9_method_26_code 66 = .ok (.iadd, 1) := by decide +kernel
theorem d_Mod_load_67 : decode prog_9_method_26_code 67 = .ok (.putfield 72, 3) := by decide +kernel
theorem d_Mod_load_70 : decode prog_9_method_26_code 70 = .ok (.iinc 4 (-1), 3) := by decide +kernel
theorem d_Mod_load_73 : decode prog_9_method_26_code 73 = .ok (.goto (-39), 3) := by decide +kernel
theorem d_Mod_load_76 : decode prog_9_method_26_code 76 = .ok (.iconst 1, 1) := by decide +kernel
theorem d_Mod_load_77 : decode prog_9_method_26_code 77 = .ok (.ireturn, 1) := by decide +kernel
abbrev M_Mod_clearKey : MethodName × ByteArray × Nat × Option FieldType := (⟨"KeyCodecModel", "clearKey", "()V"⟩, prog_9_method_27_code, 1, none)
theorem d_Mod_clearKey_0 : decode prog_9_method_27_code 0 = .ok (.aload_n 0, 1) := by decide +kernel
theorem d_Mod_clearKey_1 : decode prog_9_method_27_code 1 = .ok (.iconst 0, 1) := by decide +kernel
theorem d_Mod_clearKey_2 : decode prog_9_method_27_code 2 = .ok (.putfield 55, 3) := by decide +kernel
theorem d_Mod_clearKey_5 : decode prog_9_method_27_code 5 = .ok (.aload_n 0, 1) := by decide +kernel
theorem d_Mod_clearKey_6 : decode prog_9_method_27_code 6 = .ok (.iconst 0, 1) := by decide +kernel
theorem d_Mod_clearKey_7 : decode prog_9_method_27_code 7 = .ok (.putfield 72, 3) := by decide +kernel
theorem d_Mod_clearKey_10 : decode prog_9_method_27_code 10 = .ok (.return_, 1) := by decide +kernel
abbrev M_Mod_key : MethodName × ByteArray × Nat × Option FieldType := (⟨"KeyCodecModel", "key", "(I)I"⟩, prog_9_method_28_code, 2, some .int)
theorem d_Mod_key_0 : decode prog_9_method_28_code 0 = .ok (.aload_n 0, 1) := by decide +kernel
theorem d_Mod_key_1 : decode prog_9_method_28_code 1 = .ok (.iconst 0, 1) := by decide +kernel
theorem d_Mod_key_2 : decode prog_9_method_28_code 2 = .ok (.putfield 55, 3) := by decide +kernel
theorem d_Mod_key_5 : decode prog_9_method_28_code 5 = .ok (.iload_n 1, 1) := by decide +kernel
theorem d_Mod_key_6 : decode prog_9_method_28_code 6 = .ok (.iconst (-1), 1) := by decide +kernel
theorem d_Mod_key_7 : decode prog_9_method_28_code 7 = .ok (.if_icmp .ne 8, 3) := by decide +kernel
theorem d_Mod_key_10 : decode prog_9_method_28_code 10 = .ok (.aload_n 0, 1) := by decide +kernel
theorem d_Mod_key_11 : decode prog_9_method_28_code 11 = .ok (.getfield 72, 3) := by decide +kernel
theorem d_Mod_key_14 : decode prog_9_method_28_code 14 = .ok (.ireturn, 1) := by decide +kernel
theorem d_Mod_key_15 : decode prog_9_method_28_code 15 = .ok (.iload_n 1, 1) := by decide +kernel
theorem d_Mod_key_16 : decode prog_9_method_28_code 16 = .ok (.ifCond .lt 20, 3) := by decide +kernel
theorem d_Mod_key_19 : decode prog_9_method_28_code 19 = .ok (.iload_n 1, 1) := by decide +kernel
theorem d_Mod_key_20 : decode prog_9_method_28_code 20 = .ok (.aload_n 0, 1) := by decide +kernel
theorem d_Mod_key_21 : decode prog_9_method_28_code 21 = .ok (.getfield 72, 3) := by decide +kernel
theorem d_Mod_key_24 : decode prog_9_method_28_code 24 = .ok (.if_icmp .ge 12, 3) := by decide +kernel
theorem d_Mod_key_27 : decode prog_9_method_28_code 27 = .ok (.aload_n 0, 1) := by decide +kernel
theorem d_Mod_key_28 : decode prog_9_method_28_code 28 = .ok (.getfield 33, 3) := by decide +kernel
theorem d_Mod_key_31 : decode prog_9_method_28_code 31 = .ok (.iload_n 1, 1) := by decide +kernel
theorem d_Mod_key_32 : decode prog_9_method_28_code 32 = .ok (.iaload, 1) := by decide +kernel
theorem d_Mod_key_33 : decode prog_9_method_28_code 33 = .ok (.goto 4, 3) := by decide +kernel
theorem d_Mod_key_36 : decode prog_9_method_28_code 36 = .ok (.iconst (-1), 1) := by decide +kernel
theorem d_Mod_key_37 : decode prog_9_method_28_code 37 = .ok (.ireturn, 1) := by decide +kernel
abbrev M_Mod_next : MethodName × ByteArray × Nat × Option FieldType := (⟨"KeyCodecModel", "next", "(I)I"⟩, prog_9_method_29_code, 2, some .int)
theorem d_Mod_next_0 : decode prog_9_method_29_code 0 = .ok (.aload_n 0, 1) := by decide +kernel
theorem d_Mod_next_1 : decode prog_9_method_29_code 1 = .ok (.getfield 139, 3) := by decide +kernel
theorem d_Mod_next_4 : decode prog_9_method_29_code 4 = .ok (.aload_n 0, 1) := by decide +kernel
theorem d_Mod_next_5 : decode prog_9_method_29_code 5 = .ok (.getfield 72, 3) := by decide +kernel
theorem d_Mod_next_8 : decode prog_9_method_29_code 8 = .ok (.if_icmp .lt 10, 3) := by decide +kernel
theorem d_Mod_next_11 : decode prog_9_method_29_code 11 = .ok (.aload_n 0, 1) := by decide +kernel
theorem d_Mod_next_12 : decode prog_9_method_29_code 12 = .ok (.iconst 1, 1) := by decide +kernel
theorem d_Mod_next_13 : decode prog_9_method_29_code 13 = .ok (.putfield 142, 3) := by decide +kernel
theorem d_Mod_next_16 : decode prog_9_method_29_code 16 = .ok (.iconst 0, 1) := by decide +kernel
theorem d_Mod_next_17 : decode prog_9_method_29_code 17 = .ok (.ireturn, 1) := by decide +kernel
theorem d_Mod_next_18 : decode prog_9_method_29_code 18 = .ok (.aload_n 0, 1) := by decide +kernel
theorem d_Mod_next_19 : decode prog_9_method_29_code 19 = .ok (.dup, 1) := by decide +kernel
theorem d_Mod_next_20 : decode prog_9_method_29_code 20 = .ok (.getfield 139, 3) := by decide +kernel
theorem d_Mod_next_23 : decode prog_9_method_29_code 23 = .ok (.iconst 1, 1) := by decide +kernel
theorem d_Mod_next_24 : decode prog_9_method_29_code 24 = .ok (.iadd, 1) := by decide +kernel
theorem d_Mod_next_25 : decode prog_9_method_29_code 25 = .ok (.putfield 139, 3) := by decide +kernel
theorem d_Mod_next_28 : decode prog_9_method_29_code 28 = .ok (.aload_n 0, 1) := by decide +kernel
theorem d_Mod_next_29 : decode prog_9_method_29_code 29 = .ok (.getfield 33, 3) := by decide +kernel
theorem d_Mod_next_32 : decode prog_9_method_29_code 32 = .ok (.aload_n 0, 1) := by decide +kernel
theorem d_Mod_next_33 : decode prog_9_method_29_code 33 = .ok (.getfield 139, 3) := by decide +kernel
theorem d_Mod_next_36 : decode prog_9_method_29_code 36 = .ok (.iconst 1, 1) := by decide +kernel
theorem d_Mod_next_37 : decode prog_9_method_29_code 37 = .ok (.isub, 1) := by decide +kernel
theorem d_Mod_next_38 : decode prog_9_method_29_code 38 = .ok (.iaload, 1) := by decide +kernel
theorem d_Mod_next_39 : decode prog_9_method_29_code 39 = .ok (.iload_n 1, 1) := by decide +kernel
theorem d_Mod_next_40 : decode prog_9_method_29_code 40 = .ok (.ixor, 1) := by decide +kernel
theorem d_Mod_next_41 : decode prog_9_method_29_code 41 = .ok (.ireturn, 1) := by decide +kernel
abbrev M_Mod_readInt : MethodName × ByteArray × Nat × Option FieldType := (⟨"KeyCodecModel", "readInt", "(I)J"⟩, prog_9_method_30_code, 7, some .long)
theorem d_Mod_readInt_0 : decode prog_9_method_30_code 0 = .ok (.aload_n 0, 1) := by decide +kernel
theorem d_Mod_readInt_1 : decode prog_9_method_30_code 1 = .ok (.iload_n 1, 1) := by decide +kernel
theorem d_Mod_readInt_2 : decode prog_9_method_30_code 2 = .ok (.invokevirtual 145, 3) := by decide +kernel
theorem d_Mod_readInt_5 : decode prog_9_method_30_code 5 = .ok (.istore_n 2, 1) := by decide +kernel
theorem d_Mod_readInt_6 : decode prog_9_method_30_code 6 = .ok (.iload_n 2, 1) := by decide +kernel
theorem d_Mod_readInt_7 : decode prog_9_method_30_code 7 = .ok (.sipush 128, 3) := by decide +kernel
theorem d_Mod_readInt_10 : decode prog_9_method_30_code 10 = .ok (.if_icmp .lt 11, 3) := by decide +kernel
theorem d_Mod_readInt_13 : decode prog_9_method_30_code 13 = .ok (.iload_n 2, 1) := by decide +kernel
theorem d_Mod_readInt_14 : decode prog_9_method_30_code 14 = .ok (.sipush 128, 3) := by decide +kernel
theorem d_Mod_readInt_17 : decode prog_9_method_30_code 17 = .ok (.isub, 1) := by decide +kernel
theorem d_Mod_readInt_18 : decode prog_9_method_30_code 18 = .ok (.goto 7, 3) := by decide +kernel
theorem d_Mod_readInt_21 : decode prog_9_method_30_code 21 = .ok (.bipush 127, 2) := by decide +kernel
theorem d_Mod_readInt_23 : decode prog_9_method_30_code 23 = .ok (.iload_n 2, 1) := by decide +kernel
theorem d_Mod_readInt_24 : decode prog_9_method_30_code 24 = .ok (.isub, 1) := by decide +kernel
theorem d_Mod_readInt_25 : decode prog_9_method_30_code 25 = .ok (.istore_n 3, 1) := by decide +kernel
theorem d_Mod_readInt_26 : decode prog_9_method_30_code 26 = .ok (.iload_n 2, 1) := by decide +kernel
theorem d_Mod_readInt_27 : decode prog_9_method_30_code 27 = .ok (.sipush 128, 3) := by decide +kernel
theorem d_Mod_readInt_30 : decode prog_9_method_30_code 30 = .ok (.if_icmp .lt 7, 3) := by decide +kernel
theorem d_Mod_readInt_33 : decode prog_9_method_30_code 33 = .ok (.lconst 0, 1) := by decide +kernel
theorem d_Mod_readInt_34 : decode prog_9_method_30_code 34 = .ok (.goto 6, 3) := by decide +kernel
theorem d_Mod_readInt_37 : decode prog_9_method_30_code 37 = .ok (.ldc2_w 98, 3) := by decide +kernel
theorem d_Mod_readInt_40 : decode prog_9_method_30_code 40 = .ok (.lstore 4, 2) := by decide +kernel
theorem d_Mod_readInt_42 : decode prog_9_method_30_code 42 = .ok (.iload_n 3, 1) := by decide +kernel
theorem d_Mod_readInt_43 : decode prog_9_method_30_code 43 = .ok (.bipush 8, 2) := by decide +kernel
theorem d_Mod_readInt_45 : decode prog_9_method_30_code 45 = .ok (.if_icmp .le 8, 3) := by decide +kernel
theorem d_Mod_readInt_48 : decode prog_9_method_30_code 48 = .ok (.aload_n 0, 1) := by decide +kernel
theorem d_Mod_readInt_49 : decode prog_9_method_30_code 49 = .ok (.iconst 1, 1) := by decide +kernel
theorem d_Mod_readInt_50 : decode prog_9_method_30_code 50 = .ok (.putfield 142, 3) := by decide +kernel
theorem d_Mod_readInt_53 : decode prog_9_method_30_code 53 = .ok (.iconst 0, 1) := by decide +kernel
theorem d_Mod_readInt_54 : decode prog_9_method_30_code 54 = .ok (.istore 6, 2) := by decide +kernel
theorem d_Mod_readInt_56 : decode prog_9_method_30_code 56 = .ok (.iload 6, 2) := by decide +kernel
theorem d_Mod_readInt_58 : decode prog_9_method_30_code 58 = .ok (.iload_n 3, 1) := by decide +kernel
theorem d_Mod_readInt_59 : decode prog_9_method_30_code 59 = .ok (.if_icmp .ge 30, 3) := by decide +kernel
theorem d_Mod_readInt_62 : decode prog_9_method_30_code 62 = .ok (.aload_n 0, 1) := by decide +kernel
theorem d_Mod_readInt_63 : decode prog_9_method_30_code 63 = .ok (.getfield 142, 3) := by decide +kernel
theorem d_Mod_readInt_66 : decode prog_9_method_30_code 66 = .ok (.ifCond .ne 23, 3) := by decide +kernel
theorem d_Mod_readInt_69 : decode prog_9_method_30_code 69 = .ok (.lload 4, 2) := by decide +kernel
theorem d_Mod_readInt_71 : decode prog_9_method_30_code 71 = .ok (.bipush 8, 2) := by decide +kernel
theorem d_Mod_readInt_73 : decode prog_9_method_30_code 73 = .ok (.lshl, 1) := by decide +kernel
theorem d_Mod_readInt_74 : decode prog_9_method_30_code 74 = .ok (.aload_n 0, 1) := by decide +kernel
theorem d_Mod_readInt_75 : decode prog_9_method_30_code 75 = .ok (.iload_n 1, 1) := by decide +kernel
theorem d_Mod_readInt_76 : decode prog_9_method_30_code 76 = .ok (.invokevirtual 145, 3) := by decide +kernel
theorem d_Mod_readInt_79 : decode prog_9_method_30_code 79 = .ok (.i2l, 1) := by decide +kernel
theorem d_Mod_readInt_80 : decode prog_9_method_30_code 80 = .ok (.lor, 1) := by decide +kernel
theorem d_Mod_readInt_81 : decode prog_9_method_30_code 81 = .ok (.lstore 4, 2) := by decide +kernel
theorem d_Mod_readInt_83 : decode prog_9_method_30_code 83 = .ok (.iinc 6 1, 3) := by decide +kernel
theorem d_Mod_readInt_86 : decode prog_9_method_30_code 86 = .ok (.goto (-30), 3) := by decide +kernel
theorem d_Mod_readInt_89 : decode prog_9_method_30_code 89 = .ok (.lload 4, 2) := by decide +kernel
theorem d_Mod_readInt_91 : decode prog_9_method_30_code 91 = .ok (.lreturn, 1) := by decide +kernel
abbrev M_Mod_readText : MethodName × ByteArray × Nat × Option FieldType := (⟨"KeyCodecModel", "readText", "(II)V"⟩, prog_9_method_31_code, 6, none)
theorem d_Mod_readText_0 : decode prog_9_method_31_code 0 = .ok (.iconst 1, 1) := by decide +kernel
theorem d_Mod_readText_1 : decode prog_9_method_31_code 1 = .ok (.istore_n 3, 1) := by decide +kernel
theorem d_Mod_readText_2 : decode prog_9_method_31_code 2 = .ok (.iload_n 3, 1) := by decide +kernel
theorem d_Mod_readText_3 : decode prog_9_method_31_code 3 = .ok (.ifCond .eq 128, 3) := by decide +kernel
theorem d_Mod_readText_6 : decode prog_9_method_31_code 6 = .ok (.aload_n 0, 1) := by decide +kernel
theorem d_Mod_readText_7 : decode prog_9_method_31_code 7 = .ok (.getfield 142, 3) := by decide +kernel
theorem d_Mod_readText_10 : decode prog_9_method_31_code 10 = .ok (.ifCond .ne 121, 3) := by decide +kernel
theorem d_Mod_readText_13 : decode prog_9_method_31_code 13 = .ok (.aload_n 0, 1) := by decide +kernel
theorem d_Mod_readText_14 : decode prog_9_method_31_code 14 = .ok (.iload_n 2, 1) := by decide +kernel
theorem d_Mod_readText_15 : decode prog_9_method_31_code 15 = .ok (.invokevirtual 145, 3) := by decide +kernel
theorem d_Mod_readText_18 : decode prog_9_method_31_code 18 = .ok (.istore 4, 2) := by decide +kernel
theorem d_Mod_readText_20 : decode prog_9_method_31_code 20 = .ok (.iload 4, 2) := by decide +kernel
theorem d_Mod_readText_22 : decode prog_9_method_31_code 22 = .ok (.ifCond .ne 11, 3) := by decide +kernel
theorem d_Mod_readText_25 : decode prog_9_method_31_code 25 = .ok (.aload_n 0, 1) := by decide +kernel
theorem d_Mod_readText_26 : decode prog_9_method_31_code 26 = .ok (.iload_n 2, 1) := by decide +kernel
theorem d_Mod_readText_27 : decode prog_9_method_31_code 27 = .ok (.invokevirtual 145, 3) := by decide +kernel
theorem d_Mod_readText_30 : decode prog_9_method_31_code 30 = .ok (.goto 6, 3) := by decide +kernel
theorem d_Mod_readText_33 : decode prog_9_method_31_code 33 = .ok (.sipush 255, 3) := by decide +kernel
theorem d_Mod_readText_36 : decode prog_9_method_31_code 36 = .ok (.istore 5, 2) := by decide +kernel
theorem d_Mod_readText_38 : decode prog_9_method_31_code 38 = .ok (.iload 5, 2) := by decide +kernel
theorem d_Mod_readText_40 : decode prog_9_method_31_code 40 = .ok (.sipush 255, 3) := by decide +kernel
theorem d_Mod_readText_43 : decode prog_9_method_31_code 43 = .ok (.if_icmp .ne 7, 3) := by decide +kernel
theorem d_Mod_readText_46 : decode prog_9_method_31_code 46 = .ok (.iconst 1, 1) := by decide +kernel
theorem d_Mod_readText_47 : decode prog_9_method_31_code 47 = .ok (.goto 4, 3) := by decide +kernel
theorem d_Mod_readText_50 : decode prog_9_method_31_code 50 = .ok (.iconst 0, 1) := by decide +kernel
theorem d_Mod_readText_51 : decode prog_9_method_31_code 51 = .ok (.istore_n 3, 1) := by decide +kernel
theorem d_Mod_readText_52 : decode prog_9_method_31_code 52 = .ok (.iload_n 3, 1) := by decide +kernel
theorem d_Mod_readText_53 : decode prog_9_method_31_code 53 = .ok (.ifCond .ne 28, 3) := by decide +kernel
theorem d_Mod_readText_56 : decode prog_9_method_31_code 56 = .ok (.aload_n 0, 1) := by decide +kernel
theorem d_Mod_readText_57 : decode prog_9_method_31_code 57 = .ok (.aload_n 0, 1) := by decide +kernel
theorem d_Mod_readText_58 : decode prog_9_method_31_code 58 = .ok (.getfield 142, 3) := by decide +kernel
theorem d_Mod_readText_61 : decode prog_9_method_31_code 61 = .ok (.ifCond .ne 9, 3) := by decide +kernel
theorem d_Mod_readText_64 : decode prog_9_method_31_code 64 = .ok (.iload 5, 2) := by decide +kernel
theorem d_Mod_readText_66 : decode prog_9_method_31_code 66 = .ok (.iconst 1, 1) := by decide +kernel
theorem d_Mod_readText_67 : decode prog_9_method_31_code 67 = .ok (.if_icmp .eq 7, 3) := by decide +kernel
theorem d_Mod_readText_70 : decode prog_9_method_31_code 70 = .ok (.iconst 1, 1) := by decide +kernel
theorem d_Mod_readText_71 : decode prog_9_method_31_code 71 = .ok (.goto 4, 3) := by decide +kernel
theorem d_Mod_readText_74 : decode prog_9_method_31_code 74 = .ok (.iconst 0, 1) := by decide +kernel
theorem d_Mod_readText_75 : decode prog_9_method_31_code 75 = .ok (.putfield 142, 3) := by decide +kernel
theorem d_Mod_readText_78 : decode prog_9_method_31_code 78 = .ok (.goto 50, 3) := by decide +kernel
theorem d_Mod_readText_81 : decode prog_9_method_31_code 81 = .ok (.aload_n 0, 1) := by decide +kernel
theorem d_Mod_readText_82 : decode prog_9_method_31_code 82 = .ok (.getfield 27, 3) := by decide +kernel
theorem d_Mod_readText_85 : decode prog_9_method_31_code 85 = .ok (.iload_n 1, 1) := by decide +kernel
theorem d_Mod_readText_86 : decode prog_9_method_31_code 86 = .ok (.iaload, 1) := by decide +kernel
theorem d_Mod_readText_87 : decode prog_9_method_31_code 87 = .ok (.bipush 10, 2) := by decide +kernel
theorem d_Mod_readText_89 : decode prog_9_method_31_code 89 = .ok (.if_icmp .ne 11, 3) := by decide +kernel
theorem d_Mod_readText_92 : decode prog_9_method_31_code 92 = .ok (.aload_n 0, 1) := by decide +kernel
theorem d_Mod_readText_93 : decode prog_9_method_31_code 93 = .ok (.iconst 1, 1) := by decide +kernel
theorem d_Mod_readText_94 : decode prog_9_method_31_code 94 = .ok (.putfield 142, 3) := by decide +kernel
theorem d_Mod_readText_97 : decode prog_9_method_31_code 97 = .ok (.goto 31, 3) := by decide +kernel
theorem d_Mod_readText_100 : decode prog_9_method_31_code 100 = .ok (.aload_n 0, 1) := by decide +kernel
theorem d_Mod_readText_101 : decode prog_9_method_31_code 101 = .ok (.getfield 30, 3) := by decide +kernel
theorem d_Mod_readText_104 : decode prog_9_method_31_code 104 = .ok (.bipush 10, 2) := by decide +kernel
theorem d_Mod_readText_106 : decode prog_9_method_31_code 106 = .ok (.iload_n 1, 1) := by decide +kernel
theorem d_Mod_readText_107 : decode prog_9_method_31_code 107 = .ok (.imul, 1) := by decide +kernel
theorem d_Mod_readText_108 : decode prog_9_method_31_code 108 = .ok (.aload_n 0, 1) := by decide +kernel
theorem d_Mod_readText_109 : decode prog_9_method_31_code 109 = .ok (.getfield 27, 3) := by decide +kernel
theorem d_Mod_readText_112 : decode prog_9_method_31_code 112 = .ok (.iload_n 1, 1) := by decide +kernel
theorem d_Mod_readText_113 : decode prog_9_method_31_code 113 = .ok (.iaload, 1) := by decide +kernel
theorem d_Mod_readText_114 : decode prog_9_method_31_code 114 = .ok (.iadd, 1) := by decide +kernel
theorem d_Mod_readText_115 : decode prog_9_method_31_code 115 = .ok (.iload 4, 2) := by decide +kernel
theorem d_Mod_readText_117 : decode prog_9_method_31_code 117 = .ok (.iastore, 1) := by decide +kernel
theorem d_Mod_readText_118 : decode prog_9_method_31_code 118 = .ok (.aload_n 0, 1) := by decide +kernel
theorem d_Mod_readText_119 : decode prog_9_method_31_code 119 = .ok (.getfield 27, 3) := by decide +kernel
theorem d_Mod_readText_122 : decode prog_9_method_31_code 122 = .ok (.iload_n 1, 1) := by decide +kernel
theorem d_Mod_readText_123 : decode prog_9_method_31_code 123 = .ok (.dup2, 1) := by decide +kernel
theorem d_Mod_readText_124 : decode prog_9_method_31_code 124 = .ok (.iaload, 1) := by decide +kernel
theorem d_Mod_readText_125 : decode prog_9_method_31_code 125 = .ok (.iconst 1, 1) := by decide +kernel
theorem d_Mod_readText_126 : decode prog_9_method_31_code 126 = .ok (.iadd, 1) := by decide +kernel
theorem d_Mod_readText_127 : decode prog_9_method_31_code 127 = .ok (.iastore, 1) := by decide +kernel
theorem d_Mod_readText_128 : decode prog_9_method_31_code 128 = .ok (.goto (-126), 3) := by decide +kernel
theorem d_Mod_readText_131 : decode prog_9_method_31_code 131 = .ok (.return_, 1) := by decide +kernel
abbrev M_Mod_readDecimal : MethodName × ByteArray × Nat × Option FieldType := (⟨"KeyCodecModel", "readDecimal", "(II)V"⟩, prog_9_method_32_code, 10, none)
theorem d_Mod_readDecimal_0 : decode prog_9_method_32_code 0 = .ok (.aload_n 0, 1) := by decide +kernel
theorem d_Mod_readDecimal_1 : decode prog_9_method_32_code 1 = .ok (.iload_n 2, 1) := by decide +kernel
theorem d_Mod_readDecimal_2 : decode prog_9_method_32_code 2 = .ok (.invokevirtual 145, 3) := by decide +kernel
theorem d_Mod_readDecimal_5 : decode prog_9_method_32_code 5 = .ok (.istore_n 3, 1) := by decide +kernel
theorem d_Mod_readDecimal_6 : decode prog_9_method_32_code 6 = .ok (.iload_n 3, 1) := by decide +kernel
theorem d_Mod_readDecimal_7 : decode prog_9_method_32_code 7 = .ok (.iconst 2, 1) := by decide +kernel
theorem d_Mod_readDecimal_8 : decode prog_9_method_32_code 8 = .ok (.if_icmp .ne 4, 3) := by decide +kernel
theorem d_Mod_readDecimal_11 : decode prog_9_method_32_code 11 = .ok (.return_, 1) := by decide +kernel
theorem d_Mod_readDecimal_12 : decode prog_9_method_32_code 12 = .ok (.iload_n 3, 1) := by decide +kernel
theorem d_Mod_readDecimal_13 : decode prog_9_method_32_code 13 = .ok (.iconst 1, 1) := by decide +kernel
theorem d_Mod_readDecimal_14 : decode prog_9_method_32_code 14 = .ok (.if_icmp .ne 9, 3) := by decide +kernel
theorem d_Mod_readDecimal_17 : decode prog_9_method_32_code 17 = .ok (.sipush 255, 3) := by decide +kernel
theorem d_Mod_readDecimal_20 : decode prog_9_method_32_code 20 = .ok (.goto 4, 3) := by decide +kernel
theorem d_Mod_readDecimal_23 : decode prog_9_method_32_code 23 = .ok (.iconst 0, 1) := by decide +kernel
theorem d_Mod_readDecimal_24 : decode prog_9_method_32_code 24 = .ok (.istore 4, 2) := by decide +kernel
theorem d_Mod_readDecimal_26 : decode prog_9_method_32_code 26 = .ok (.aload_n 0, 1) := by decide +kernel
theorem d_Mod_readDecimal_27 : decode prog_9_method_32_code 27 = .ok (.aload_n 0, 1) := by decide +kernel
theorem d_Mod_readDecimal_28 : decode prog_9_method_32_code 28 = .ok (.getfield 142, 3) := by decide +kernel
theorem d_Mod_readDecimal_31 : decode prog_9_method_32_code 31 = .ok (.ifCond .ne 13, 3) := by decide +kernel
theorem d_Mod_readDecimal_34 : decode prog_9_method_32_code 34 = .ok (.iload_n 3, 1) := by decide +kernel
theorem d_Mod_readDecimal_35 : decode prog_9_method_32_code 35 = .ok (.iconst 1, 1) := by decide +kernel
theorem d_Mod_readDecimal_36 : decode prog_9_method_32_code 36 = .ok (.if_icmp .eq 12, 3) := by decide +kernel
theorem d_Mod_readDecimal_39 : decode prog_9_method_32_code 39 = .ok (.iload_n 3, 1) := by decide +kernel
theorem d_Mod_readDecimal_40 : decode prog_9_method_32_code 40 = .ok (.iconst 3, 1) := by decide +kernel
theorem d_Mod_readDecimal_41 : decode prog_9_method_32_code 41 = .ok (.if_icmp .eq 7, 3) := by decide +kernel
theorem d_Mod_readDecimal_44 : decode prog_9_method_32_code 44 = .ok (.iconst 1, 1) := by decide +kernel
theorem d_Mod_readDecimal_45 : decode prog_9_method_32_code 45 = .ok (.goto 4, 3) := by decide +kernel
theorem d_Mod_readDecimal_48 : decode prog_9_method_32_code 48 = .ok (.iconst 0, 1) := by decide +kernel
theorem d_Mod_readDecimal_49 : decode prog_9_method_32_code 49 = .ok (.putfield 142, 3) := by decide +kernel
theorem d_Mod_readDecimal_52 : decode prog_9_method_32_code 52 = .ok (.aload_n 0, 1) := by decide +kernel
theorem d_Mod_readDecimal_53 : decode prog_9_method_32_code 53 = .ok (.iload_n 2, 1) := by decide +kernel
theorem d_Mod_readDecimal_54 : decode prog_9_method_32_code 54 = .ok (.invokevirtual 145, 3) := by decide +kernel
theorem d_Mod_readDecimal_57 : decode prog_9_method_32_code 57 = .ok (.iload 4, 2) := by decide +kernel
theorem d_Mod_readDecimal_59 : decode prog_9_method_32_code 59 = .ok (.ixor, 1) := by decide +kernel
theorem d_Mod_readDecimal_60 : decode prog_9_method_32_code 60 = .ok (.bipush 64, 2) := by decide +kernel
theorem d_Mod_readDecimal_62 : decode prog_9_method_32_code 62 = .ok (.isub, 1) := by decide +kernel
theorem d_Mod_readDecimal_63 : decode prog_9_method_32_code 63 = .ok (.istore 5, 2) := by decide +kernel
theorem d_Mod_readDecimal_65 : decode prog_9_method_32_code 65 = .ok (.lconst 0, 1) := by decide +kernel
theorem d_Mod_readDecimal_66 : decode prog_9_method_32_code 66 = .ok (.lstore 6, 2) := by decide +kernel
theorem d_Mod_readDecimal_68 : decode prog_9_method_32_code 68 = .ok (.iconst 0, 1) := by decide +kernel
theorem d_Mod_readDecimal_69 : decode prog_9_method_32_code 69 = .ok (.istore 8, 2) := by decide +kernel
theorem d_Mod_readDecimal_71 : decode prog_9_method_32_code 71 = .ok (.aload_n 0, 1) := by decide +kernel
theorem d_Mod_readDecimal_72 : decode prog_9_method_32_code 72 = .ok (.iload_n 2, 1) := by decide +kernel
theorem d_Mod_readDecimal_73 : decode prog_9_method_32_code 73 = .ok (.invokevirtual 145, 3) := by decide +kernel
theorem d_Mod_readDecimal_76 : decode prog_9_method_32_code 76 = .ok (.iload 4, 2) := by decide +kernel
theorem d_Mod_readDecimal_78 : decode prog_9_method_32_code 78 = .ok (.ixor, 1) := by decide +kernel
theorem d_Mod_readDecimal_79 : decode prog_9_method_32_code 79 = .ok (.istore 9, 2) := by decide +kernel
theorem d_Mod_readDecimal_81 : decode prog_9_method_32_code 81 = .ok (.iload 9, 2) := by decide +kernel
theorem d_Mod_readDecimal_83 : decode prog_9_method_32_code 83 = .ok (.ifCond .eq 63, 3) := by decide +kernel
theorem d_Mod_readDecimal_86 : decode prog_9_method_32_code 86 = .ok (.aload_n 0, 1) := by decide +kernel
theorem d_Mod_readDecimal_87 : decode prog_9_method_32_code 87 = .ok (.getfield 142, 3) := by decide +kernel
theorem d_Mod_readDecimal_90 : decode prog_9_method_32_code 90 = .ok (.ifCond .ne 56, 3) := by decide +kernel
theorem d_Mod_readDecimal_93 : decode prog_9_method_32_code 93 = .ok (.aload_n 0, 1) := by decide +kernel
theorem d_Mod_readDecimal_94 : decode prog_9_method_32_code 94 = .ok (.iload 9, 2) := by decide +kernel
theorem d_Mod_readDecimal_96 : decode prog_9_method_32_code 96 = .ok (.bipush 10, 2) := by decide +kernel
theorem d_Mod_readDecimal_98 : decode prog_9_method_32_code 98 = .ok (.if_icmp .gt 10, 3) := by decide +kernel
theorem d_Mod_readDecimal_101 : decode prog_9_method_32_code 101 = .ok (.iload 8, 2) := by decide +kernel
theorem d_Mod_readDecimal_103 : decode prog_9_method_32_code 103 = .ok (.bipush 16, 2) := by decide +kernel
theorem d_Mod_readDecimal_105 : decode prog_9_method_32_code 105 = .ok (.if_icmp .ne 7, 3) := by decide +kernel
theorem d_Mod_readDecimal_108 : decode prog_9_method_32_code 108 = .ok (.iconst 1, 1) := by decide +kernel
theorem d_Mod_readDecimal_109 : decode prog_9_method_32_code 109 = .ok (.goto 4, 3) := by decide +kernel
theorem d_Mod_readDecimal_112 : decode prog_9_method_32_code 112 = .ok (.iconst 0, 1) := by decide +kernel
theorem d_Mod_readDecimal_113 : decode prog_9_method_32_code 113 = .ok (.putfield 142, 3) := by decide +kernel
theorem d_Mod_readDecimal_116 : decode prog_9_method_32_code 116 = .ok (.lload 6, 2) := by decide +kernel
theorem d_Mod_readDecimal_118 : decode prog_9_method_32_code 118 = .ok (.ldc2_w 111, 3) := by decide +kernel
theorem d_Mod_readDecimal_121 : decode prog_9_method_32_code 121 = .ok (.lmul, 1) := by decide +kernel
theorem d_Mod_readDecimal_122 : decode prog_9_method_32_code 122 = .ok (.iload 9, 2) := by decide +kernel
theorem d_Mod_readDecimal_124 : decode prog_9_method_32_code 124 = .ok (.i2l, 1) := by decide +kernel
theorem d_Mod_readDecimal_125 : decode prog_9_method_32_code 125 = .ok (.ladd, 1) := by decide +kernel
theorem d_Mod_readDecimal_126 : decode prog_9_method_32_code 126 = .ok (.lconst 1, 1) := by decide +kernel
theorem d_Mod_readDecimal_127 : decode prog_9_method_32_code 127 = .ok (.lsub, 1) := by decide +kernel
theorem d_Mod_readDecimal_128 : decode prog_9_method_32_code 128 = .ok (.lstore 6, 2) := by decide +kernel
theorem d_Mod_readDecimal_130 : decode prog_9_method_32_code 130 = .ok (.iinc 8 1, 3) := by decide +kernel
theorem d_Mod_readDecimal_133 : decode prog_9_method_32_code 133 = .ok (.aload_n 0, 1) := by decide +kernel
theorem d_Mod_readDecimal_134 : decode prog_9_method_32_code 134 = .ok (.iload_n 2, 1) := by decide +kernel
theorem d_Mod_readDecimal_135 : decode prog_9_method_32_code 135 = .ok (.invokevirtual 145, 3) := by decide +kernel
theorem d_Mod_readDecimal_138 : decode prog_9_method_32_code 138 = .ok (.iload 4, 2) := by decide +kernel
theorem d_Mod_readDecimal_140 : decode prog_9_method_32_code 140 = .ok (.ixor, 1) := by decide +kernel
theorem d_Mod_readDecimal_141 : decode prog_9_method_32_code 141 = .ok (.istore 9, 2) := by decide +kernel
theorem d_Mod_readDecimal_143 : decode prog_9_method_32_code 143 = .ok (.goto (-62), 3) := by decide +kernel
theorem d_Mod_readDecimal_146 : decode prog_9_method_32_code 146 = .ok (.aload_n 0, 1) := by decide +kernel
theorem d_Mod_readDecimal_147 : decode prog_9_method_32_code 147 = .ok (.getfield 16, 3) := by decide +kernel
theorem d_Mod_readDecimal_150 : decode prog_9_method_32_code 150 = .ok (.iload_n 1, 1) := by decide +kernel
theorem d_Mod_readDecimal_151 : decode prog_9_method_32_code 151 = .ok (.iload 4, 2) := by decide +kernel
theorem d_Mod_readDecimal_153 : decode prog_9_method_32_code 153 = .ok (.sipush 255, 3) := by decide +kernel
theorem d_Mod_readDecimal_156 : decode prog_9_method_32_code 156 = .ok (.if_icmp .ne 10, 3) := by decide +kernel
theorem d_Mod_readDecimal_159 : decode prog_9_method_32_code 159 = .ok (.lconst 0, 1) := by decide +kernel
theorem d_Mod_readDecimal_160 : decode prog_9_method_32_code 160 = .ok (.lload 6, 2) := by decide +kernel
theorem d_Mod_readDecimal_162 : decode prog_9_method_32_code 162 = .ok (.lsub, 1) := by decide +kernel
theorem d_Mod_readDecimal_163 : decode prog_9_method_32_code 163 = .ok (.goto 5, 3) := by decide +kernel
theorem d_Mod_readDecimal_166 : decode prog_9_method_32_code 166 = .ok (.lload 6, 2) := by decide +kernel
theorem d_Mod_readDecimal_168 : decode prog_9_method_32_code 168 = .ok (.lastore, 1) := by decide +kernel
theorem d_Mod_readDecimal_169 : decode prog_9_method_32_code 169 = .ok (.aload_n 0, 1) := by decide +kernel
theorem d_Mod_readDecimal_170 : decode prog_9_method_32_code 170 = .ok (.getfield 20, 3) := by decide +kernel
theorem d_Mod_readDecimal_173 : decode prog_9_method_32_code 173 = .ok (.iload_n 1, 1) := by decide +kernel
theorem d_Mod_readDecimal_174 : decode prog_9_method_32_code 174 = .ok (.iload 5, 2) := by decide +kernel
theorem d_Mod_readDecimal_176 : decode prog_9_method_32_code 176 = .ok (.iload 8, 2) := by decide +kernel
theorem d_Mod_readDecimal_178 : decode prog_9_method_32_code 178 = .ok (.isub, 1) := by decide +kernel
theorem d_Mod_readDecimal_179 : decode prog_9_method_32_code 179 = .ok (.iastore, 1) := by decide +kernel
theorem d_Mod_readDecimal_180 : decode prog_9_method_32_code 180 = .ok (.return_, 1) := by decide +kernel
abbrev M_Mod_shifted : MethodName × ByteArray × Nat × Option FieldType := (⟨"KeyCodecModel", "shifted", "(JI)J"⟩, prog_9_method_33_code, 6, some .long)
theorem d_Mod_shifted_0 : decode prog_9_method_33_code 0 = .ok (.lload_n 0, 1) := by decide +kernel
theorem d_Mod_shifted_1 : decode prog_9_method_33_code 1 = .ok (.lstore_n 3, 1) := by decide +kernel
theorem d_Mod_shifted_2 : decode prog_9_method_33_code 2 = .ok (.iconst 0, 1) := by decide +kernel
theorem d_Mod_shifted_3 : decode prog_9_method_33_code 3 = .ok (.istore 5, 2) := by decide +kernel
theorem d_Mod_shifted_5 : decode prog_9_method_33_code 5 = .ok (.iload 5, 2) := by decide +kernel
theorem d_Mod_shifted_7 : decode prog_9_method_33_code 7 = .ok (.iload_n 2, 1) := by decide +kernel
theorem d_Mod_shifted_8 : decode prog_9_method_33_code 8 = .ok (.if_icmp .ge 43, 3) := by decide +kernel
theorem d_Mod_shifted_11 : decode prog_9_method_33_code 11 = .ok (.lload_n 3, 1) := by decide +kernel
theorem d_Mod_shifted_12 : decode prog_9_method_33_code 12 = .ok (.lconst 0, 1) := by decide +kernel
theorem d_Mod_shifted_13 : decode prog_9_method_33_code 13 = .ok (.lcmp, 1) := by decide +kernel
theorem d_Mod_shifted_14 : decode prog_9_method_33_code 14 = .ok (.ifCond .eq 37, 3) := by decide +kernel
theorem d_Mod_shifted_17 : decode prog_9_method_33_code 17 = .ok (.lload_n 3, 1) := by decide +kernel
theorem d_Mod_shifted_18 : decode prog_9_method_33_code 18 = .ok (.ldc2_w 77, 3) := by decide +kernel
theorem d_Mod_shifted_21 : decode prog_9_method_33_code 21 = .ok (.lcmp, 1) := by decide +kernel
theorem d_Mod_shifted_22 : decode prog_9_method_33_code 22 = .ok (.ifCond .gt 11, 3) := by decide +kernel
theorem d_Mod_shifted_25 : decode prog_9_method_33_code 25 = .ok (.lload_n 3, 1) := by decide +kernel
theorem d_Mod_shifted_26 : decode prog_9_method_33_code 26 = .ok (.ldc2_w 75, 3) := by decide +kernel
theorem d_Mod_shifted_29 : decode prog_9_method_33_code 29 = .ok (.lcmp, 1) := by decide +kernel
theorem d_Mod_shifted_30 : decode prog_9_method_33_code 30 = .ok (.ifCond .ge 9, 3) := by decide +kernel
theorem d_Mod_shifted_33 : decode prog_9_method_33_code 33 = .ok (.ldc2_w 149, 3) := by decide +kernel
theorem d_Mod_shifted_36 : decode prog_9_method_33_code 36 = .ok (.goto 8, 3) := by decide +kernel
theorem d_Mod_shifted_39 : decode prog_9_method_33_code 39 = .ok (.lload_n 3, 1) := by decide +kernel
theorem d_Mod_shifted_40 : decode prog_9_method_33_code 40 = .ok (.ldc2_w 111, 3) := by decide +kernel
theorem d_Mod_shifted_43 : decode prog_9_method_33_code 43 = .ok (.lmul, 1) := by decide +kernel
theorem d_Mod_shifted_44 : decode prog_9_method_33_code 44 = .ok (.lstore_n 3, 1) := by decide +kernel
theorem d_Mod_shifted_45 : decode prog_9_method_33_code 45 = .ok (.iinc 5 1, 3) := by decide +kernel
theorem d_Mod_shifted_48 : decode prog_9_method_33_code 48 = .ok (.goto (-43), 3) := by decide +kernel
theorem d_Mod_shifted_51 : decode prog_9_method_33_code 51 = .ok (.lload_n 3, 1) := by decide +kernel
theorem d_Mod_shifted_52 : decode prog_9_method_33_code 52 = .ok (.lreturn, 1) := by decide +kernel
abbrev M_Mod_readTail : MethodName × ByteArray × Nat × Option FieldType := (⟨"KeyCodecModel", "readTail", "(I)V"⟩, prog_9_method_34_code, 6, none)
theorem d_Mod_readTail_0 : decode prog_9_method_34_code 0 = .ok (.iconst 0, 1) := by decide +kernel
theorem d_Mod_readTail_1 : decode prog_9_method_34_code 1 = .ok (.istore_n 2, 1) := by decide +kernel
theorem d_Mod_readTail_2 : decode prog_9_method_34_code 2 = .ok (.iload_n 2, 1) := by decide +kernel
theorem d_Mod_readTail_3 : decode prog_9_method_34_code 3 = .ok (.aload_n 0, 1) := by decide +kernel
theorem d_Mod_readTail_4 : decode prog_9_method_34_code 4 = .ok (.getfield 62, 3) := by decide +kernel
theorem d_Mod_readTail_7 : decode prog_9_method_34_code 7 = .ok (.if_icmp .ge 143, 3) := by decide +kernel
theorem d_Mod_readTail_10 : decode prog_9_method_34_code 10 = .ok (.aload_n 0, 1) := by decide +kernel
theorem d_Mod_readTail_11 : decode prog_9_method_34_code 11 = .ok (.getfield 142, 3) := by decide +kernel
theorem d_Mod_readTail_14 : decode prog_9_method_34_code 14 = .ok (.ifCond .ne 136, 3) := by decide +kernel
theorem d_Mod_readTail_17 : decode prog_9_method_34_code 17 = .ok (.iconst 5, 1) := by decide +kernel
theorem d_Mod_readTail_18 : decode prog_9_method_34_code 18 = .ok (.iload_n 1, 1) := by decide +kernel
theorem d_Mod_readTail_19 : decode prog_9_method_34_code 19 = .ok (.imul, 1) := by decide +kernel
theorem d_Mod_readTail_20 : decode prog_9_method_34_code 20 = .ok (.iload_n 2, 1) := by decide +kernel
theorem d_Mod_readTail_21 : decode prog_9_method_34_code 21 = .ok (.iadd, 1) := by decide +kernel
theorem d_Mod_readTail_22 : decode prog_9_method_34_code 22 = .ok (.istore_n 3, 1) := by decide +kernel
theorem d_Mod_readTail_23 : decode prog_9_method_34_code 23 = .ok (.aload_n 0, 1) := by decide +kernel
theorem d_Mod_readTail_24 : decode prog_9_method_34_code 24 = .ok (.getfield 23, 3) := by decide +kernel
theorem d_Mod_readTail_27 : decode prog_9_method_34_code 27 = .ok (.iload_n 3, 1) := by decide +kernel
theorem d_Mod_readTail_28 : decode prog_9_method_34_code 28 = .ok (.baload, 1) := by decide +kernel
theorem d_Mod_readTail_29 : decode prog_9_method_34_code 29 = .ok (.ifCond .eq 6, 3) := by decide +kernel
theorem d_Mod_readTail_32 : decode prog_9_method_34_code 32 = .ok (.goto 112, 3) := by decide +kernel
theorem d_Mod_readTail_35 : decode prog_9_method_34_code 35 = .ok (.aload_n 0, 1) := by decide +kernel
theorem d_Mod_readTail_36 : decode prog_9_method_34_code 36 = .ok (.getfield 7, 3) := by decide +kernel
theorem d_Mod_readTail_39 : decode prog_9_method_34_code 39 = .ok (.iload_n 2, 1) := by decide +kernel
theorem d_Mod_readTail_40 : decode prog_9_method_34_code 40 = .ok (.iaload, 1) := by decide +kernel
theorem d_Mod_readTail_41 : decode prog_9_method_34_code 41 = .ok (.iconst 1, 1) := by decide +kernel
theorem d_Mod_readTail_42 : decode prog_9_method_34_code 42 = .ok (.if_icmp .ne 67, 3) := by decide +kernel
theorem d_Mod_readTail_45 : decode prog_9_method_34_code 45 = .ok (.aload_n 0, 1) := by decide +kernel
theorem d_Mod_readTail_46 : decode prog_9_method_34_code 46 = .ok (.iconst 0, 1) := by decide +kernel
theorem d_Mod_readTail_47 : decode prog_9_method_34_code 47 = .ok (.invokevirtual 145, 3) := by decide +kernel
theorem d_Mod_readTail_50 : decode prog_9_method_34_code 50 = .ok (.istore 4, 2) := by decide +kernel
theorem d_Mod_readTail_52 : decode prog_9_method_34_code 52 = .ok (.aload_n 0, 1) := by decide +kernel
theorem d_Mod_readTail_53 : decode prog_9_method_34_code 53 = .ok (.getfield 20, 3) := by decide +kernel
theorem d_Mod_readTail_56 : decode prog_9_method_34_code 56 = .ok (.iload_n 3, 1) := by decide +kernel
theorem d_Mod_readTail_57 : decode prog_9_method_34_code 57 = .ok (.iaload, 1) := by decide +kernel
theorem d_Mod_readTail_58 : decode prog_9_method_34_code 58 = .ok (.iload 4, 2) := by decide +kernel
theorem d_Mod_readTail_60 : decode prog_9_method_34_code 60 = .ok (.iadd, 1) := by decide +kernel
theorem d_Mod_readTail_61 : decode prog_9_method_34_code 61 = .ok (.istore 5, 2) := by decide +kernel
theorem d_Mod_readTail_63 : decode prog_9_method_34_code 63 = .ok (.aload_n 0, 1) := by decide +kernel
theorem d_Mod_readTail_64 : decode prog_9_method_34_code 64 = .ok (.getfield 16, 3) := by decide +kernel
theorem d_Mod_readTail_67 : decode prog_9_method_34_code 67 = .ok (.iload_n 3, 1) := by decide +kernel
theorem d_Mod_readTail_68 : decode prog_9_method_34_code 68 = .ok (.laload, 1) := by decide +kernel
theorem d_Mod_readTail_69 : decode prog_9_method_34_code 69 = .ok (.lconst 0, 1) := by decide +kernel
theorem d_Mod_readTail_70 : decode prog_9_method_34_code 70 = .ok (.lcmp, 1) := by decide +kernel
theorem d_Mod_readTail_71 : decode prog_9_method_34_code 71 = .ok (.ifCond .eq 13, 3) := by decide +kernel
theorem d_Mod_readTail_74 : decode prog_9_method_34_code 74 = .ok (.iload 5, 2) := by decide +kernel
theorem d_Mod_readTail_76 : decode prog_9_method_34_code 76 = .ok (.ifCond .ge 8, 3) := by decide +kernel
theorem d_Mod_readTail_79 : decode prog_9_method_34_code 79 = .ok (.aload_n 0, 1) := by decide +kernel
theorem d_Mod_readTail_80 : decode prog_9_method_34_code 80 = .ok (.iconst 1, 1) := by decide +kernel
theorem d_Mod_readTail_81 : decode prog_9_method_34_code 81 = .ok (.putfield 142, 3) := by decide +kernel
theorem d_Mod_readTail_84 : decode prog_9_method_34_code 84 = .ok (.aload_n 0, 1) := by decide +kernel
theorem d_Mod_readTail_85 : decode prog_9_method_34_code 85 = .ok (.getfield 16, 3) := by decide +kernel
theorem d_Mod_readTail_88 : decode prog_9_method_34_code 88 = .ok (.iload_n 3, 1) := by decide +kernel
theorem d_Mod_readTail_89 : decode prog_9_method_34_code 89 = .ok (.aload_n 0, 1) := by decide +kernel
theorem d_Mod_readTail_90 : decode prog_9_method_34_code 90 = .ok (.getfield 16, 3) := by decide +kernel
theorem d_Mod_readTail_93 : decode prog_9_method_34_code 93 = .ok (.iload_n 3, 1) := by decide +kernel
theorem d_Mod_readTail_94 : decode prog_9_method_34_code 94 = .ok (.laload, 1) := by decide +kernel
theorem d_Mod_readTail_95 : decode prog_9_method_34_code 95 = .ok (.iload 5, 2) := by decide +kernel
theorem d_Mod_readTail_97 : decode prog_9_method_34_code 97 = .ok (.invokestatic 151, 3) := by decide +kernel
theorem d_Mod_readTail_100 : decode prog_9_method_34_code 100 = .ok (.lastore, 1) := by decide +kernel
theorem d_Mod_readTail_101 : decode prog_9_method_34_code 101 = .ok (.aload_n 0, 1) := by decide +kernel
theorem d_Mod_readTail_102 : decode prog_9_method_34_code 102 = .ok (.getfield 20, 3) := by decide +kernel
theorem d_Mod_readTail_105 : decode prog_9_method_34_code 105 = .ok (.iload_n 3, 1) := by decide +kernel
theorem d_Mod_readTail_106 : decode prog_9_method_34_code 106 = .ok (.iload 4, 2) := by decide +kernel
theorem d_Mod_readTail_108 : decode prog_9_method_34_code 108 = .ok (.iastore, 1) := by decide +kernel
theorem d_Mod_readTail_109 : decode prog_9_method_34_code 109 = .ok (.aload_n 0, 1) := by decide +kernel
theorem d_Mod_readTail_110 : decode prog_9_method_34_code 110 = .ok (.getfield 7, 3) := by decide +kernel
theorem d_Mod_readTail_113 : decode prog_9_method_34_code 113 = .ok (.iload_n 2, 1) := by decide +kernel
theorem d_Mod_readTail_114 : decode prog_9_method_34_code 114 = .ok (.iaload, 1) := by decide +kernel
theorem d_Mod_readTail_115 : decode prog_9_method_34_code 115 = .ok (.iconst 3, 1) := by decide +kernel
theorem d_Mod_readTail_116 : decode prog_9_method_34_code 116 = .ok (.if_icmp .ne 28, 3) := by decide +kernel
theorem d_Mod_readTail_119 : decode prog_9_method_34_code 119 = .ok (.aload_n 0, 1) := by decide +kernel
theorem d_Mod_readTail_120 : decode prog_9_method_34_code 120 = .ok (.getfield 20, 3) := by decide +kernel
theorem d_Mod_readTail_123 : decode prog_9_method_34_code 123 = .ok (.iload_n 3, 1) := by decide +kernel
theorem d_Mod_readTail_124 : decode prog_9_method_34_code 124 = .ok (.sipush 256, 3) := by decide +kernel
theorem d_Mod_readTail_127 : decode prog_9_method_34_code 127 = .ok (.aload_n 0, 1) := by decide +kernel
theorem d_Mod_readTail_128 : decode prog_9_method_34_code 128 = .ok (.iconst 0, 1) := by decide +kernel
theorem d_Mod_readTail_129 : decode prog_9_method_34_code 129 = .ok (.invokevirtual 145, 3) := by decide +kernel
theorem d_Mod_readTail_132 : decode prog_9_method_34_code 132 = .ok (.imul, 1) := by decide +kernel
theorem d_Mod_readTail_133 : decode prog_9_method_34_code 133 = .ok (.aload_n 0, 1) := by decide +kernel
theorem d_Mod_readTail_134 : decode prog_9_method_34_code 134 = .ok (.iconst 0, 1) := by decide +kernel
theorem d_Mod_readTail_135 : decode prog_9_method_34_code 135 = .ok (.invokevirtual 145, 3) := by decide +kernel
theorem d_Mod_readTail_138 : decode prog_9_method_34_code 138 = .ok (.iadd, 1) := by decide +kernel
theorem d_Mod_readTail_139 : decode prog_9_method_34_code 139 = .ok (.sipush 1000, 3) := by decide +kernel
theorem d_Mod_readTail_142 : decode prog_9_method_34_code 142 = .ok (.isub, 1) := by decide +kernel
theorem d_Mod_readTail_143 : decode prog_9_method_34_code 143 = .ok (.iastore, 1) := by decide +kernel
theorem d_Mod_readTail_144 : decode prog_9_method_34_code 144 = .ok (.iinc 2 1, 3) := by decide +kernel
theorem d_Mod_readTail_147 : decode prog_9_method_34_code 147 = .ok (.goto (-145), 3) := by decide +kernel
theorem d_Mod_readTail_150 : decode prog_9_method_34_code 150 = .ok (.return_, 1) := by decide +kernel
abbrev M_Mod_isTuple : MethodName × ByteArray × Nat × Option FieldType := (⟨"KeyCodecModel", "isTuple", "(I)Z"⟩, prog_9_method_35_code, 4, some .boolean)
theorem d_Mod_isTuple_0 : decode prog_9_method_35_code 0 = .ok (.iconst 0, 1) := by decide +kernel
theorem d_Mod_isTuple_1 : decode prog_9_method_35_code 1 = .ok (.istore_n 2, 1) := by decide +kernel
theorem d_Mod_isTuple_2 : decode prog_9_method_35_code 2 = .ok (.iload_n 2, 1) := by decide +kernel
theorem d_Mod_isTuple_3 : decode prog_9_method_35_code 3 = .ok (.aload_n 0, 1) := by decide +kernel
theorem d_Mod_isTuple_4 : decode prog_9_method_35_code 4 = .ok (.getfield 62, 3) := by decide +kernel
theorem d_Mod_isTuple_7 : decode prog_9_method_35_code 7 = .ok (.if_icmp .ge 60, 3) := by decide +kernel
theorem d_Mod_isTuple_10 : decode prog_9_method_35_code 10 = .ok (.iconst 5, 1) := by decide +kernel
theorem d_Mod_isTuple_11 : decode prog_9_method_35_code 11 = .ok (.iload_n 1, 1) := by decide +kernel
theorem d_Mod_isTuple_12 : decode prog_9_method_35_code 12 = .ok (.imul, 1) := by decide +kernel
theorem d_Mod_isTuple_13 : decode prog_9_method_35_code 13 = .ok (.iload_n 2, 1) := by decide +kernel
theorem d_Mod_isTuple_14 : decode prog_9_method_35_code 14 = .ok (.iadd, 1) := by decide +kernel
theorem d_Mod_isTuple_15 : decode prog_9_method_35_code 15 = .ok (.istore_n 3, 1) := by decide +kernel
theorem d_Mod_isTuple_16 : decode prog_9_method_35_code 16 = .ok (.aload_n 0, 1) := by decide +kernel
theorem d_Mod_isTuple_17 : decode prog_9_method_35_code 17 = .ok (.getfield 23, 3) := by decide +kernel
theorem d_Mod_isTuple_20 : decode prog_9_method_35_code 20 = .ok (.iload_n 3, 1) := by decide +kernel
theorem d_Mod_isTuple_21 : decode prog_9_method_35_code 21 = .ok (.baload, 1) := by decide +kernel
theorem d_Mod_isTuple_22 : decode prog_9_method_35_code 22 = .ok (.ifCond .ne 39, 3) := by decide +kernel
theorem d_Mod_isTuple_25 : decode prog_9_method_35_code 25 = .ok (.aload_n 0, 1) := by decide +kernel
theorem d_Mod_isTuple_26 : decode prog_9_method_35_code 26 = .ok (.getfield 7, 3) := by decide +kernel
theorem d_Mod_isTuple_29 : decode prog_9_method_35_code 29 = .ok (.iload_n 2, 1) := by decide +kernel
theorem d_Mod_isTuple_30 : decode prog_9_method_35_code 30 = .ok (.iaload, 1) := by decide +kernel
theorem d_Mod_isTuple_31 : decode prog_9_method_35_code 31 = .ok (.iconst 2, 1) := by decide +kernel
theorem d_Mod_isTuple_32 : decode prog_9_method_35_code 32 = .ok (.if_icmp .eq 29, 3) := by decide +kernel
theorem d_Mod_isTuple_35 : decode prog_9_method_35_code 35 = .ok (.aload_n 0, 1) := by decide +kernel
theorem d_Mod_isTuple_36 : decode prog_9_method_35_code 36 = .ok (.getfield 7, 3) := by decide +kernel
theorem d_Mod_isTuple_39 : decode prog_9_method_35_code 39 = .ok (.iload_n 2, 1) := by decide +kernel
theorem d_Mod_isTuple_40 : decode prog_9_method_35_code 40 = .ok (.iaload, 1) := by decide +kernel
theorem d_Mod_isTuple_41 : decode prog_9_method_35_code 41 = .ok (.aload_n 0, 1) := by decide +kernel
theorem d_Mod_isTuple_42 : decode prog_9_method_35_code 42 = .ok (.getfield 16, 3) := by decide +kernel
theorem d_Mod_isTuple_45 : decode prog_9_method_35_code 45 = .ok (.iload_n 3, 1) := by decide +kernel
theorem d_Mod_isTuple_46 : decode prog_9_method_35_code 46 = .ok (.laload, 1) := by decide +kernel
theorem d_Mod_isTuple_47 : decode prog_9_method_35_code 47 = .ok (.aload_n 0, 1) := by decide +kernel
theorem d_Mod_isTuple_48 : decode prog_9_method_35_code 48 = .ok (.getfield 20, 3) := by decide +kernel
theorem d_Mod_isTuple_51 : decode prog_9_method_35_code 51 = .ok (.iload_n 3, 1) := by decide +kernel
theorem d_Mod_isTuple_52 : decode prog_9_method_35_code 52 = .ok (.iaload, 1) := by decide +kernel
theorem d_Mod_isTuple_53 : decode prog_9_method_35_code 53 = .ok (.invokestatic 87, 3) := by decide +kernel
theorem d_Mod_isTuple_56 : decode prog_9_method_35_code 56 = .ok (.ifCond .ne 5, 3) := by decide +kernel
theorem d_Mod_isTuple_59 : decode prog_9_method_35_code 59 = .ok (.iconst 0, 1) := by decide +kernel
theorem d_Mod_isTuple_60 : decode prog_9_method_35_code 60 = .ok (.ireturn, 1) := by decide +kernel
theorem d_Mod_isTuple_61 : decode prog_9_method_35_code 61 = .ok (.iinc 2 1, 3) := by decide +kernel
theorem d_Mod_isTuple_64 : decode prog_9_method_35_code 64 = .ok (.goto (-62), 3) := by decide +kernel
theorem d_Mod_isTuple_67 : decode prog_9_method_35_code 67 = .ok (.iconst 1, 1) := by decide +kernel
theorem d_Mod_isTuple_68 : decode prog_9_method_35_code 68 = .ok (.ireturn, 1) := by decide +kernel
abbrev M_Mod_readField : MethodName × ByteArray × Nat × Option FieldType := (⟨"KeyCodecModel", "readField", "(II)V"⟩, prog_9_method_36_code, 5, none)
theorem d_Mod_readField_0 : decode prog_9_method_36_code 0 = .ok (.iconst 5, 1) := by decide +kernel
theorem d_Mod_readField_1 : decode prog_9_method_36_code 1 = .ok (.iload_n 1, 1) := by decide +kernel
theorem d_Mod_readField_2 : decode prog_9_method_36_code 2 = .ok (.imul, 1) := by decide +kernel
theorem d_Mod_readField_3 : decode prog_9_method_36_code 3 = .ok (.iload_n 2, 1) := by decide +kernel
theorem d_Mod_readField_4 : decode prog_9_method_36_code 4 = .ok (.iadd, 1) := by decide +kernel
theorem d_Mod_readField_5 : decode prog_9_method_36_code 5 = .ok (.istore_n 3, 1) := by decide +kernel
theorem d_Mod_readField_6 : decode prog_9_method_36_code 6 = .ok (.aload_n 0, 1) := by decide +kernel
theorem d_Mod_readField_7 : decode prog_9_method_36_code 7 = .ok (.iload_n 2, 1) := by decide +kernel
theorem d_Mod_readField_8 : decode prog_9_method_36_code 8 = .ok (.invokevirtual 95, 3) := by decide +kernel
theorem d_Mod_readField_11 : decode prog_9_method_36_code 11 = .ok (.ifCond .eq 67, 3) := by decide +kernel
theorem d_Mod_readField_14 : decode prog_9_method_36_code 14 = .ok (.aload_n 0, 1) := by decide +kernel
theorem d_Mod_readField_15 : decode prog_9_method_36_code 15 = .ok (.iconst 0, 1) := by decide +kernel
theorem d_Mod_readField_16 : decode prog_9_method_36_code 16 = .ok (.invokevirtual 145, 3) := by decide +kernel
theorem d_Mod_readField_19 : decode prog_9_method_36_code 19 = .ok (.istore 4, 2) := by decide +kernel
theorem d_Mod_readField_21 : decode prog_9_method_36_code 21 = .ok (.aload_n 0, 1) := by decide +kernel
theorem d_Mod_readField_22 : decode prog_9_method_36_code 22 = .ok (.getfield 23, 3) := by decide +kernel
theorem d_Mod_readField_25 : decode prog_9_method_36_code 25 = .ok (.iload_n 3, 1) := by decide +kernel
theorem d_Mod_readField_26 : decode prog_9_method_36_code 26 = .ok (.iload 4, 2) := by decide +kernel
theorem d_Mod_readField_28 : decode prog_9_method_36_code 28 = .ok (.iconst 1, 1) := by decide +kernel
theorem d_Mod_readField_29 : decode prog_9_method_36_code 29 = .ok (.if_icmp .eq 7, 3) := by decide +kernel
theorem d_Mod_readField_32 : decode prog_9_method_36_code 32 = .ok (.iconst 1, 1) := by decide +kernel
theorem d_Mod_readField_33 : decode prog_9_method_36_code 33 = .ok (.goto 4, 3) := by decide +kernel
theorem d_Mod_readField_36 : decode prog_9_method_36_code 36 = .ok (.iconst 0, 1) := by decide +kernel
theorem d_Mod_readField_37 : decode prog_9_method_36_code 37 = .ok (.bastore, 1) := by decide +kernel
theorem d_Mod_readField_38 : decode prog_9_method_36_code 38 = .ok (.aload_n 0, 1) := by decide +kernel
theorem d_Mod_readField_39 : decode prog_9_method_36_code 39 = .ok (.aload_n 0, 1) := by decide +kernel
theorem d_Mod_readField_40 : decode prog_9_method_36_code 40 = .ok (.getfield 142, 3) := by decide +kernel
theorem d_Mod_readField_43 : decode prog_9_method_36_code 43 = .ok (.ifCond .ne 27, 3) := by decide +kernel
theorem d_Mod_readField_46 : decode prog_9_method_36_code 46 = .ok (.iload 4, 2) := by decide +kernel
theorem d_Mod_readField_48 : decode prog_9_method_36_code 48 = .ok (.iconst 1, 1) := by decide +kernel
theorem d_Mod_readField_49 : decode prog_9_method_36_code 49 = .ok (.if_icmp .eq 25, 3) := by decide +kernel
theorem d_Mod_readField_52 : decode prog_9_method_36_code 52 = .ok (.iload 4, 2) := by decide +kernel
theorem d_Mod_readField_54 : decode prog_9_method_36_code 54 = .ok (.aload_n 0, 1) := by decide +kernel
theorem d_Mod_readField_55 : decode prog_9_method_36_code 55 = .ok (.iload_n 2, 1) := by decide +kernel
theorem d_Mod_readField_56 : decode prog_9_method_36_code 56 = .ok (.invokevirtual 113, 3) := by decide +kernel
theorem d_Mod_readField_59 : decode prog_9_method_36_code 59 = .ok (.ifCond .eq 7, 3) := by decide +kernel
theorem d_Mod_readField_62 : decode prog_9_method_36_code 62 = .ok (.iconst 2, 1) := by decide +kernel
theorem d_Mod_readField_63 : decode prog_9_method_36_code 63 = .ok (.goto 4, 3) := by decide +kernel
theorem d_Mod_readField_66 : decode prog_9_method_36_code 66 = .ok (.iconst 0, 1) := by decide +kernel
theorem d_Mod_readField_67 : decode prog_9_method_36_code 67 = .ok (.if_icmp .eq 7, 3) := by decide +kernel
theorem d_Mod_readField_70 : decode prog_9_method_36_code 70 = .ok (.iconst 1, 1) := by decide +kernel
theorem d_Mod_readField_71 : decode prog_9_method_36_code 71 = .ok (.goto 4, 3) := by decide +kernel
theorem d_Mod_readField_74 : decode prog_9_method_36_code 74 = .ok (.iconst 0, 1) := by decide +kernel
theorem d_Mod_readField_75 : decode prog_9_method_36_code 75 = .ok (.putfield 142, 3) := by decide +kernel
theorem d_Mod_readField_78 : decode prog_9_method_36_code 78 = .ok (.aload_n 0, 1) := by decide +kernel
theorem d_Mod_readField_79 : decode prog_9_method_36_code 79 = .ok (.getfield 23, 3) := by decide +kernel
theorem d_Mod_readField_82 : decode prog_9_method_36_code 82 = .ok (.iload_n 3, 1) := by decide +kernel
theorem d_Mod_readField_83 : decode prog_9_method_36_code 83 = .ok (.baload, 1) := by decide +kernel
theorem d_Mod_readField_84 : decode prog_9_method_36_code 84 = .ok (.ifCond .ne 10, 3) := by decide +kernel
theorem d_Mod_readField_87 : decode prog_9_method_36_code 87 = .ok (.aload_n 0, 1) := by decide +kernel
theorem d_Mod_readField_88 : decode prog_9_method_36_code 88 = .ok (.getfield 142, 3) := by decide +kernel
theorem d_Mod_readField_91 : decode prog_9_method_36_code 91 = .ok (.ifCond .eq 4, 3) := by decide +kernel
theorem d_Mod_readField_94 : decode prog_9_method_36_code 94 = .ok (.return_, 1) := by decide +kernel
theorem d_Mod_readField_95 : decode prog_9_method_36_code 95 = .ok (.aload_n 0, 1) := by decide +kernel
theorem d_Mod_readField_96 : decode prog_9_method_36_code 96 = .ok (.iload_n 2, 1) := by decide +kernel
theorem d_Mod_readField_97 : decode prog_9_method_36_code 97 = .ok (.invokevirtual 116, 3) := by decide +kernel
theorem d_Mod_readField_100 : decode prog_9_method_36_code 100 = .ok (.ifCond .eq 9, 3) := by decide +kernel
theorem d_Mod_readField_103 : decode prog_9_method_36_code 103 = .ok (.sipush 255, 3) := by decide +kernel
theorem d_Mod_readField_106 : decode prog_9_method_36_code 106 = .ok (.goto 4, 3) := by decide +kernel
theorem d_Mod_readField_109 : decode prog_9_method_36_code 109 = .ok (.iconst 0, 1) := by decide +kernel
theorem d_Mod_readField_110 : decode prog_9_method_36_code 110 = .ok (.istore 4, 2) := by decide +kernel
theorem d_Mod_readField_112 : decode prog_9_method_36_code 112 = .ok (.aload_n 0, 1) := by decide +kernel
theorem d_Mod_readField_113 : decode prog_9_method_36_code 113 = .ok (.getfield 7, 3) := by decide +kernel
theorem d_Mod_readField_116 : decode prog_9_method_36_code 116 = .ok (.iload_n 2, 1) := by decide +kernel
theorem d_Mod_readField_117 : decode prog_9_method_36_code 117 = .ok (.iaload, 1) := by decide +kernel
theorem d_Mod_readField_118 : decode prog_9_method_36_code 118 = .ok (.iconst 1, 1) := by decide +kernel
theorem d_Mod_readField_119 : decode prog_9_method_36_code 119 = .ok (.if_icmp .ne 13, 3) := by decide +kernel
theorem d_Mod_readField_122 : decode prog_9_method_36_code 122 = .ok (.aload_n 0, 1) := by decide +kernel
theorem d_Mod_readField_123 : decode prog_9_method_36_code 123 = .ok (.iload_n 3, 1) := by decide +kernel
theorem d_Mod_readField_124 : decode prog_9_method_36_code 124 = .ok (.iload 4, 2) := by decide +kernel
theorem d_Mod_readField_126 : decode prog_9_method_36_code 126 = .ok (.invokevirtual 155, 3) := by decide +kernel
theorem d_Mod_readField_129 : decode prog_9_method_36_code 129 = .ok (.goto 35, 3) := by decide +kernel
theorem d_Mod_readField_132 : decode prog_9_method_36_code 132 = .ok (.aload_n 0, 1) := by decide +kernel
theorem d_Mod_readField_133 : decode prog_9_method_36_code 133 = .ok (.getfield 7, 3) := by decide +kernel
theorem d_Mod_readField_136 : decode prog_9_method_36_code 136 = .ok (.iload_n 2, 1) := by decide +kernel
theorem d_Mod_readField_137 : decode prog_9_method_36_code 137 = .ok (.iaload, 1) := by decide +kernel
theorem d_Mod_readField_138 : decode prog_9_method_36_code 138 = .ok (.iconst 2, 1) := by decide +kernel
theorem d_Mod_readField_139 : decode prog_9_method_36_code 139 = .ok (.if_icmp .ne 13, 3) := by decide +kernel
theorem d_Mod_readField_142 : decode prog_9_method_36_code 142 = .ok (.aload_n 0, 1) := by decide +kernel
theorem d_Mod_readField_143 : decode prog_9_method_36_code 143 = .ok (.iload_n 3, 1) := by decide +kernel
theorem d_Mod_readField_144 : decode prog_9_method_36_code 144 = .ok (.iload 4, 2) := by decide +kernel
theorem d_Mod_readField_146 : decode prog_9_method_36_code 146 = .ok (.invokevirtual 158, 3) := by decide +kernel
theorem d_Mod_readField_149 : decode prog_9_method_36_code 149 = .ok (.goto 15, 3) := by decide +kernel
theorem d_Mod_readField_152 : decode prog_9_method_36_code 152 = .ok (.aload_n 0, 1) := by decide +kernel
theorem d_Mod_readField_153 : decode prog_9_method_36_code 153 = .ok (.getfield 16, 3) := by decide +kernel
theorem d_Mod_readField_156 : decode prog_9_method_36_code 156 = .ok (.iload_n 3, 1) := by decide +kernel
theorem d_Mod_readField_157 : decode prog_9_method_36_code 157 = .ok (.aload_n 0, 1) := by decide +kernel
theorem d_Mod_readField_158 : decode prog_9_method_36_code 158 = .ok (.iload 4, 2) := by decide +kernel
theorem d_Mod_readField_160 : decode prog_9_method_36_code 160 = .ok (.invokevirtual 161, 3) := by decide +kernel
theorem d_Mod_readField_163 : decode prog_9_method_36_code 163 = .ok (.lastore, 1) := by decide +kernel
theorem d_Mod_readField_164 : decode prog_9_method_36_code 164 = .ok (.return_, 1) := by decide +kernel
abbrev M_Mod_decode : MethodName × ByteArray × Nat × Option FieldType := (⟨"KeyCodecModel", "decode", "()Z"⟩, prog_9_method_37_code, 3, some .boolean)
theorem d_Mod_decode_0 : decode prog_9_method_37_code 0 = .ok (.aload_n 0, 1) := by decide +kernel
theorem d_Mod_decode_1 : decode prog_9_method_37_code 1 = .ok (.aload_n 0, 1) := by decide +kernel
theorem d_Mod_decode_2 : decode prog_9_method_37_code 2 = .ok (.getfield 58, 3) := by decide +kernel
theorem d_Mod_decode_5 : decode prog_9_method_37_code 5 = .ok (.ifCond .eq 7, 3) := by decide +kernel
theorem d_Mod_decode_8 : decode prog_9_method_37_code 8 = .ok (.iconst 0, 1) := by decide +kernel
theorem d_Mod_decode_9 : decode prog_9_method_37_code 9 = .ok (.goto 4, 3) := by decide +kernel
theorem d_Mod_decode_12 : decode prog_9_method_37_code 12 = .ok (.iconst 1, 1) := by decide +kernel
theorem d_Mod_decode_13 : decode prog_9_method_37_code 13 = .ok (.putfield 55, 3) := by decide +kernel
theorem d_Mod_decode_16 : decode prog_9_method_37_code 16 = .ok (.aload_n 0, 1) := by decide +kernel
theorem d_Mod_decode_17 : decode prog_9_method_37_code 17 = .ok (.getfield 55, 3) := by decide +kernel
theorem d_Mod_decode_20 : decode prog_9_method_37_code 20 = .ok (.ifCond .eq 5, 3) := by decide +kernel
theorem d_Mod_decode_23 : decode prog_9_method_37_code 23 = .ok (.iconst 0, 1) := by decide +kernel
theorem d_Mod_decode_24 : decode prog_9_method_37_code 24 = .ok (.ireturn, 1) := by decide +kernel
theorem d_Mod_decode_25 : decode prog_9_method_37_code 25 = .ok (.aload_n 0, 1) := by decide +kernel
theorem d_Mod_decode_26 : decode prog_9_method_37_code 26 = .ok (.bipush 13, 2) := by decide +kernel
theorem d_Mod_decode_28 : decode prog_9_method_37_code 28 = .ok (.invokevirtual 65, 3) := by decide +kernel
theorem d_Mod_decode_31 : decode prog_9_method_37_code 31 = .ok (.aload_n 0, 1) := by decide +kernel
theorem d_Mod_decode_32 : decode prog_9_method_37_code 32 = .ok (.iconst 0, 1) := by decide +kernel
theorem d_Mod_decode_33 : decode prog_9_method_37_code 33 = .ok (.putfield 139, 3) := by decide +kernel
theorem d_Mod_decode_36 : decode prog_9_method_37_code 36 = .ok (.aload_n 0, 1) := by decide +kernel
theorem d_Mod_decode_37 : decode prog_9_method_37_code 37 = .ok (.iconst 0, 1) := by decide +kernel
theorem d_Mod_decode_38 : decode prog_9_method_37_code 38 = .ok (.putfield 142, 3) := by decide +kernel
theorem d_Mod_decode_41 : decode prog_9_method_37_code 41 = .ok (.iconst 0, 1) := by decide +kernel
theorem d_Mod_decode_42 : decode prog_9_method_37_code 42 = .ok (.istore_n 1, 1) := by decide +kernel
theorem d_Mod_decode_43 : decode prog_9_method_37_code 43 = .ok (.iload_n 1, 1) := by decide +kernel
theorem d_Mod_decode_44 : decode prog_9_method_37_code 44 = .ok (.aload_n 0, 1) := by decide +kernel
theorem d_Mod_decode_45 : decode prog_9_method_37_code 45 = .ok (.getfield 62, 3) := by decide +kernel
theorem d_Mod_decode_48 : decode prog_9_method_37_code 48 = .ok (.if_icmp .ge 23, 3) := by decide +kernel
theorem d_Mod_decode_51 : decode prog_9_method_37_code 51 = .ok (.aload_n 0, 1) := by decide +kernel
theorem d_Mod_decode_52 : decode prog_9_method_37_code 52 = .ok (.getfield 142, 3) := by decide +kernel
theorem d_Mod_decode_55 : decode prog_9_method_37_code 55 = .ok (.ifCond .ne 16, 3) := by decide +kernel
theorem d_Mod_decode_58 : decode prog_9_method_37_code 58 = .ok (.aload_n 0, 1) := by decide +kernel
theorem d_Mod_decode_59 : decode prog_9_method_37_code 59 = .ok (.bipush 13, 2) := by decide +kernel
theorem d_Mod_decode_61 : decode prog_9_method_37_code 61 = .ok (.iload_n 1, 1) := by decide +kernel
theorem d_Mod_decode_62 : decode prog_9_method_37_code 62 = .ok (.invokevirtual 165, 3) := by decide +kernel
theorem d_Mod_decode_65 : decode prog_9_method_37_code 65 = .ok (.iinc 1 1, 3) := by decide +kernel
theorem d_Mod_decode_68 : decode prog_9_method_37_code 68 = .ok (.goto (-25), 3) := by decide +kernel
theorem d_Mod_decode_71 : decode prog_9_method_37_code 71 = .ok (.aload_n 0, 1) := by decide +kernel
theorem d_Mod_decode_72 : decode prog_9_method_37_code 72 = .ok (.bipush 13, 2) := by decide +kernel
theorem d_Mod_decode_74 : decode prog_9_method_37_code 74 = .ok (.invokevirtual 168, 3) := by decide +kernel
theorem d_Mod_decode_77 : decode prog_9_method_37_code 77 = .ok (.aload_n 0, 1) := by decide +kernel
theorem d_Mod_decode_78 : decode prog_9_method_37_code 78 = .ok (.getfield 142, 3) := by decide +kernel
theorem d_Mod_decode_81 : decode prog_9_method_37_code 81 = .ok (.ifCond .ne 27, 3) := by decide +kernel
theorem d_Mod_decode_84 : decode prog_9_method_37_code 84 = .ok (.aload_n 0, 1) := by decide +kernel
theorem d_Mod_decode_85 : decode prog_9_method_37_code 85 = .ok (.getfield 139, 3) := by decide +kernel
theorem d_Mod_decode_88 : decode prog_9_method_37_code 88 = .ok (.aload_n 0, 1) := by decide +kernel
theorem d_Mod_decode_89 : decode prog_9_method_37_code 89 = .ok (.getfield 72, 3) := by decide +kernel
theorem d_Mod_decode_92 : decode prog_9_method_37_code 92 = .ok (.if_icmp .ne 16, 3) := by decide +kernel
theorem d_Mod_decode_95 : decode prog_9_method_37_code 95 = .ok (.aload_n 0, 1) := by decide +kernel
theorem d_Mod_decode_96 : decode prog_9_method_37_code 96 = .ok (.bipush 13, 2) := by decide +kernel
theorem d_Mod_decode_98 : decode prog_9_method_37_code 98 = .ok (.invokevirtual 171, 3) := by decide +kernel
theorem d_Mod_decode_101 : decode prog_9_method_37_code 101 = .ok (.ifCond .eq 7, 3) := by decide +kernel
theorem d_Mod_decode_104 : decode prog_9_method_37_code 104 = .ok (.iconst 1, 1) := by decide +kernel
theorem d_Mod_decode_105 : decode prog_9_method_37_code 105 = .ok (.goto 4, 3) := by decide +kernel
theorem d_Mod_decode_108 : decode prog_9_method_37_code 108 = .ok (.iconst 0, 1) := by decide +kernel
theorem d_Mod_decode_109 : decode prog_9_method_37_code 109 = .ok (.istore_n 1, 1) := by decide +kernel
theorem d_Mod_decode_110 : decode prog_9_method_37_code 110 = .ok (.iload_n 1, 1) := by decide +kernel
theorem d_Mod_decode_111 : decode prog_9_method_37_code 111 = .ok (.ifCond .eq 70, 3) := by decide +kernel
theorem d_Mod_decode_114 : decode prog_9_method_37_code 114 = .ok (.aload_n 0, 1) := by decide +kernel
theorem d_Mod_decode_115 : decode prog_9_method_37_code 115 = .ok (.iconst 0, 1) := by decide +kernel
theorem d_Mod_decode_116 : decode prog_9_method_37_code 116 = .ok (.bipush 13, 2) := by decide +kernel
theorem d_Mod_decode_118 : decode prog_9_method_37_code 118 = .ok (.invokevirtual 136, 3) := by decide +kernel
theorem d_Mod_decode_121 : decode prog_9_method_37_code 121 = .ok (.aload_n 0, 1) := by decide +kernel
theorem d_Mod_decode_122 : decode prog_9_method_37_code 122 = .ok (.getfield 42, 3) := by decide +kernel
theorem d_Mod_decode_125 : decode prog_9_method_37_code 125 = .ok (.iconst 0, 1) := by decide +kernel
theorem d_Mod_decode_126 : decode prog_9_method_37_code 126 = .ok (.iaload, 1) := by decide +kernel
theorem d_Mod_decode_127 : decode prog_9_method_37_code 127 = .ok (.aload_n 0, 1) := by decide +kernel
theorem d_Mod_decode_128 : decode prog_9_method_37_code 128 = .ok (.getfield 72, 3) := by decide +kernel
theorem d_Mod_decode_131 : decode prog_9_method_37_code 131 = .ok (.if_icmp .ne 7, 3) := by decide +kernel
theorem d_Mod_decode_134 : decode prog_9_method_37_code 134 = .ok (.iconst 1, 1) := by decide +kernel
theorem d_Mod_decode_135 : decode prog_9_method_37_code 135 = .ok (.goto 4, 3) := by decide +kernel
theorem d_Mod_decode_138 : decode prog_9_method_37_code 138 = .ok (.iconst 0, 1) := by decide +kernel
theorem d_Mod_decode_139 : decode prog_9_method_37_code 139 = .ok (.istore_n 1, 1) := by decide +kernel
theorem d_Mod_decode_140 : decode prog_9_method_37_code 140 = .ok (.iconst 0, 1) := by decide +kernel
theorem d_Mod_decode_141 : decode prog_9_method_37_code 141 = .ok (.istore_n 2, 1) := by decide +kernel
theorem d_Mod_decode_142 : decode prog_9_method_37_code 142 = .ok (.iload_n 2, 1) := by decide +kernel
theorem d_Mod_decode_143 : decode prog_9_method_37_code 143 = .ok (.aload_n 0, 1) := by decide +kernel
theorem d_Mod_decode_144 : decode prog_9_method_37_code 144 = .ok (.getfield 72, 3) := by decide +kernel
theorem d_Mod_decode_147 : decode prog_9_method_37_code 147 = .ok (.if_icmp .ge 34, 3) := by decide +kernel
theorem d_Mod_decode_150 : decode prog_9_method_37_code 150 = .ok (.iload_n 1, 1) := by decide +kernel
theorem d_Mod_decode_151 : decode prog_9_method_37_code 151 = .ok (.ifCond .eq 30, 3) := by decide +kernel
theorem d_Mod_decode_154 : decode prog_9_method_37_code 154 = .ok (.aload_n 0, 1) := by decide +kernel
theorem d_Mod_decode_155 : decode prog_9_method_37_code 155 = .ok (.getfield 36, 3) := by decide +kernel
theorem d_Mod_decode_158 : decode prog_9_method_37_code 158 = .ok (.iload_n 2, 1) := by decide +kernel
theorem d_Mod_decode_159 : decode prog_9_method_37_code 159 = .ok (.iaload, 1) := by decide +kernel
theorem d_Mod_decode_160 : decode prog_9_method_37_code 160 = .ok (.aload_n 0, 1) := by decide +kernel
theorem d_Mod_decode_161 : decode prog_9_method_37_code 161 = .ok (.getfield 33, 3) := by decide +kernel
theorem d_Mod_decode_164 : decode prog_9_method_37_code 164 = .ok (.iload_n 2, 1) := by decide +kernel
theorem d_Mod_decode_165 : decode prog_9_method_37_code 165 = .ok (.iaload, 1) := by decide +kernel
theorem d_Mod_decode_166 : decode prog_9_method_37_code 166 = .ok (.if_icmp .ne 7, 3) := by decide +kernel
theorem d_Mod_decode_169 : decode prog_9_method_37_code 169 = .ok (.iconst 1, 1) := by decide +kernel
theorem d_Mod_decode_170 : decode prog_9_method_37_code 170 = .ok (.goto 4, 3) := by decide +kernel
theorem d_Mod_decode_173 : decode prog_9_method_37_code 173 = .ok (.iconst 0, 1) := by decide +kernel
theorem d_Mod_decode_174 : decode prog_9_method_37_code 174 = .ok (.istore_n 1, 1) := by decide +kernel
theorem d_Mod_decode_175 : decode prog_9_method_37_code 175 = .ok (.iinc 2 1, 3) := by decide +kernel
theorem d_Mod_decode_178 : decode prog_9_method_37_code 178 = .ok (.goto (-36), 3) := by decide +kernel
theorem d_Mod_decode_181 : decode prog_9_method_37_code 181 = .ok (.aload_n 0, 1) := by decide +kernel
theorem d_Mod_decode_182 : decode prog_9_method_37_code 182 = .ok (.iload_n 1, 1) := by decide +kernel
theorem d_Mod_decode_183 : decode prog_9_method_37_code 183 = .ok (.ifCond .eq 7, 3) := by decide +kernel
theorem d_Mod_decode_186 : decode prog_9_method_37_code 186 = .ok (.iconst 0, 1) := by decide +kernel
theorem d_Mod_decode_187 : decode prog_9_method_37_code 187 = .ok (.goto 4, 3) := by decide +kernel
theorem d_Mod_decode_190 : decode prog_9_method_37_code 190 = .ok (.iconst 2, 1) := by decide +kernel
theorem d_Mod_decode_191 : decode prog_9_method_37_code 191 = .ok (.putfield 55, 3) := by decide +kernel
theorem d_Mod_decode_194 : decode prog_9_method_37_code 194 = .ok (.iload_n 1, 1) := by decide +kernel
theorem d_Mod_decode_195 : decode prog_9_method_37_code 195 = .ok (.ifCond .eq 10, 3) := by decide +kernel
theorem d_Mod_decode_198 : decode prog_9_method_37_code 198 = .ok (.aload_n 0, 1) := by decide +kernel
theorem d_Mod_decode_199 : decode prog_9_method_37_code 199 = .ok (.bipush 13, 2) := by decide +kernel
theorem d_Mod_decode_201 : decode prog_9_method_37_code 201 = .ok (.iconst 0, 1) := by decide +kernel
theorem d_Mod_decode_202 : decode prog_9_method_37_code 202 = .ok (.invokevirtual 174, 3) := by decide +kernel
theorem d_Mod_decode_205 : decode prog_9_method_37_code 205 = .ok (.iload_n 1, 1) := by decide +kernel
theorem d_Mod_decode_206 : decode prog_9_method_37_code 206 = .ok (.ireturn, 1) := by decide +kernel
abbrev M_Mod_keep : MethodName × ByteArray × Nat × Option FieldType := (⟨"KeyCodecModel", "keep", "()I"⟩, prog_9_method_38_code, 1, some .int)
theorem d_Mod_keep_0 : decode prog_9_method_38_code 0 = .ok (.aload_n 0, 1) := by decide +kernel
theorem d_Mod_keep_1 : decode prog_9_method_38_code 1 = .ok (.aload_n 0, 1) := by decide +kernel
theorem d_Mod_keep_2 : decode prog_9_method_38_code 2 = .ok (.getfield 58, 3) := by decide +kernel
theorem d_Mod_keep_5 : decode prog_9_method_38_code 5 = .ok (.ifCond .eq 12, 3) := by decide +kernel
theorem d_Mod_keep_8 : decode prog_9_method_38_code 8 = .ok (.aload_n 0, 1) := by decide +kernel
theorem d_Mod_keep_9 : decode prog_9_method_38_code 9 = .ok (.getfield 69, 3) := by decide +kernel
theorem d_Mod_keep_12 : decode prog_9_method_38_code 12 = .ok (.bipush 12, 2) := by decide +kernel
theorem d_Mod_keep_14 : decode prog_9_method_38_code 14 = .ok (.if_icmp .ne 7, 3) := by decide +kernel
theorem d_Mod_keep_17 : decode prog_9_method_38_code 17 = .ok (.iconst 1, 1) := by decide +kernel
theorem d_Mod_keep_18 : decode prog_9_method_38_code 18 = .ok (.goto 4, 3) := by decide +kernel
theorem d_Mod_keep_21 : decode prog_9_method_38_code 21 = .ok (.iconst 0, 1) := by decide +kernel
theorem d_Mod_keep_22 : decode prog_9_method_38_code 22 = .ok (.putfield 55, 3) := by decide +kernel
theorem d_Mod_keep_25 : decode prog_9_method_38_code 25 = .ok (.aload_n 0, 1) := by decide +kernel
theorem d_Mod_keep_26 : decode prog_9_method_38_code 26 = .ok (.getfield 55, 3) := by decide +kernel
theorem d_Mod_keep_29 : decode prog_9_method_38_code 29 = .ok (.ifCond .eq 5, 3) := by decide +kernel
theorem d_Mod_keep_32 : decode prog_9_method_38_code 32 = .ok (.iconst 0, 1) := by decide +kernel
theorem d_Mod_keep_33 : decode prog_9_method_38_code 33 = .ok (.ireturn, 1) := by decide +kernel
theorem d_Mod_keep_34 : decode prog_9_method_38_code 34 = .ok (.aload_n 0, 1) := by decide +kernel
theorem d_Mod_keep_35 : decode prog_9_method_38_code 35 = .ok (.dup, 1) := by decide +kernel
theorem d_Mod_keep_36 : decode prog_9_method_38_code 36 = .ok (.getfield 69, 3) := by decide +kernel
theorem d_Mod_keep_39 : decode prog_9_method_38_code 39 = .ok (.iconst 1, 1) := by decide +kernel
theorem d_Mod_keep_40 : decode prog_9_method_38_code 40 = .ok (.iadd, 1) := by decide +kernel
theorem d_Mod_keep_41 : decode prog_9_method_38_code 41 = .ok (.putfield 69, 3) := by decide +kernel
theorem d_Mod_keep_44 : decode prog_9_method_38_code 44 = .ok (.aload_n 0, 1) := by decide +kernel
theorem d_Mod_keep_45 : decode prog_9_method_38_code 45 = .ok (.iconst 0, 1) := by decide +kernel
theorem d_Mod_keep_46 : decode prog_9_method_38_code 46 = .ok (.aload_n 0, 1) := by decide +kernel
theorem d_Mod_keep_47 : decode prog_9_method_38_code 47 = .ok (.getfield 69, 3) := by decide +kernel
theorem d_Mod_keep_50 : decode prog_9_method_38_code 50 = .ok (.invokevirtual 174, 3) := by decide +kernel
theorem d_Mod_keep_53 : decode prog_9_method_38_code 53 = .ok (.aload_n 0, 1) := by decide +kernel
theorem d_Mod_keep_54 : decode prog_9_method_38_code 54 = .ok (.getfield 69, 3) := by decide +kernel
theorem d_Mod_keep_57 : decode prog_9_method_38_code 57 = .ok (.iconst 1, 1) := by decide +kernel
theorem d_Mod_keep_58 : decode prog_9_method_38_code 58 = .ok (.isub, 1) := by decide +kernel
theorem d_Mod_keep_59 : decode prog_9_method_38_code 59 = .ok (.ireturn, 1) := by decide +kernel
abbrev M_Mod_isKept : MethodName × ByteArray × Nat × Option FieldType := (⟨"KeyCodecModel", "isKept", "(I)Z"⟩, prog_9_method_39_code, 2, some .boolean)
theorem d_Mod_isKept_0 : decode prog_9_method_39_code 0 = .ok (.iload_n 1, 1) := by decide +kernel
theorem d_Mod_isKept_1 : decode prog_9_method_39_code 1 = .ok (.ifCond .lt 15, 3) := by decide +kernel
theorem d_Mod_isKept_4 : decode prog_9_method_39_code 4 = .ok (.iload_n 1, 1) := by decide +kernel
theorem d_Mod_isKept_5 : decode prog_9_method_39_code 5 = .ok (.aload_n 0, 1) := by decide +kernel
theorem d_Mod_isKept_6 : decode prog_9_method_39_code 6 = .ok (.getfield 69, 3) := by decide +kernel
theorem d_Mod_isKept_9 : decode prog_9_method_39_code 9 = .ok (.if_icmp .ge 7, 3) := by decide +kernel
theorem d_Mod_isKept_12 : decode prog_9_method_39_code 12 = .ok (.iconst 1, 1) := by decide +kernel
theorem d_Mod_isKept_13 : decode prog_9_method_39_code 13 = .ok (.goto 4, 3) := by decide +kernel
theorem d_Mod_isKept_16 : decode prog_9_method_39_code 16 = .ok (.iconst 0, 1) := by decide +kernel
theorem d_Mod_isKept_17 : decode prog_9_method_39_code 17 = .ok (.ireturn, 1) := by decide +kernel
abbrev M_Mod_take : MethodName × ByteArray × Nat × Option FieldType := (⟨"KeyCodecModel", "take", "(I)Z"⟩, prog_9_method_40_code, 2, some .boolean)
theorem d_Mod_take_0 : decode prog_9_method_40_code 0 = .ok (.aload_n 0, 1) := by decide +kernel
theorem d_Mod_take_1 : decode prog_9_method_40_code 1 = .ok (.iconst 0, 1) := by decide +kernel
theorem d_Mod_take_2 : decode prog_9_method_40_code 2 = .ok (.putfield 55, 3) := by decide +kernel
theorem d_Mod_take_5 : decode prog_9_method_40_code 5 = .ok (.aload_n 0, 1) := by decide +kernel
theorem d_Mod_take_6 : decode prog_9_method_40_code 6 = .ok (.iload_n 1, 1) := by decide +kernel
theorem d_Mod_take_7 : decode prog_9_method_40_code 7 = .ok (.invokevirtual 177, 3) := by decide +kernel
theorem d_Mod_take_10 : decode prog_9_method_40_code 10 = .ok (.ifCond .ne 5, 3) := by decide +kernel
theorem d_Mod_take_13 : decode prog_9_method_40_code 13 = .ok (.iconst 0, 1) := by decide +kernel
theorem d_Mod_take_14 : decode prog_9_method_40_code 14 = .ok (.ireturn, 1) := by decide +kernel
theorem d_Mod_take_15 : decode prog_9_method_40_code 15 = .ok (.aload_n 0, 1) := by decide +kernel
theorem d_Mod_take_16 : decode prog_9_method_40_code 16 = .ok (.iload_n 1, 1) := by decide +kernel
theorem d_Mod_take_17 : decode prog_9_method_40_code 17 = .ok (.iconst 1, 1) := by decide +kernel
theorem d_Mod_take_18 : decode prog_9_method_40_code 18 = .ok (.iadd, 1) := by decide +kernel
theorem d_Mod_take_19 : decode prog_9_method_40_code 19 = .ok (.iconst 0, 1) := by decide +kernel
theorem d_Mod_take_20 : decode prog_9_method_40_code 20 = .ok (.invokevirtual 174, 3) := by decide +kernel
theorem d_Mod_take_23 : decode prog_9_method_40_code 23 = .ok (.iconst 1, 1) := by decide +kernel
theorem d_Mod_take_24 : decode prog_9_method_40_code 24 = .ok (.ireturn, 1) := by decide +kernel
abbrev M_Mod_kept : MethodName × ByteArray × Nat × Option FieldType := (⟨"KeyCodecModel", "kept", "()I"⟩, prog_9_method_41_code, 1, some .int)
theorem d_Mod_kept_0 : decode prog_9_method_41_code 0 = .ok (.aload_n 0, 1) := by decide +kernel
theorem d_Mod_kept_1 : decode prog_9_method_41_code 1 = .ok (.iconst 0, 1) := by decide +kernel
theorem d_Mod_kept_2 : decode prog_9_method_41_code 2 = .ok (.putfield 55, 3) := by decide +kernel
theorem d_Mod_kept_5 : decode prog_9_method_41_code 5 = .ok (.aload_n 0, 1) := by decide +kernel
theorem d_Mod_kept_6 : decode prog_9_method_41_code 6 = .ok (.getfield 69, 3) := by decide +kernel
theorem d_Mod_kept_9 : decode prog_9_method_41_code 9 = .ok (.ireturn, 1) := by decide +kernel
abbrev M_Mod_order : MethodName × ByteArray × Nat × Option FieldType := (⟨"KeyCodecModel", "order", "(JJ)I"⟩, prog_9_method_42_code, 4, some .int)
theorem d_Mod_order_0 : decode prog_9_method_42_code 0 = .ok (.lload_n 0, 1) := by decide +kernel
theorem d_Mod_order_1 : decode prog_9_method_42_code 1 = .ok (.lload_n 2, 1) := by decide +kernel
theorem d_Mod_order_2 : decode prog_9_method_42_code 2 = .ok (.lcmp, 1) := by decide +kernel
theorem d_Mod_order_3 : decode prog_9_method_42_code 3 = .ok (.ifCond .ge 7, 3) := by decide +kernel
theorem d_Mod_order_6 : decode prog_9_method_42_code 6 = .ok (.iconst (-1), 1) := by decide +kernel
theorem d_Mod_order_7 : decode prog_9_method_42_code 7 = .ok (.goto 14, 3) := by decide +kernel
theorem d_Mod_order_10 : decode prog_9_method_42_code 10 = .ok (.lload_n 0, 1) := by decide +kernel
theorem d_Mod_order_11 : decode prog_9_method_42_code 11 = .ok (.lload_n 2, 1) := by decide +kernel
theorem d_Mod_order_12 : decode prog_9_method_42_code 12 = .ok (.lcmp, 1) := by decide +kernel
theorem d_Mod_order_13 : decode prog_9_method_42_code 13 = .ok (.ifCond .le 7, 3) := by decide +kernel
theorem d_Mod_order_16 : decode prog_9_method_42_code 16 = .ok (.iconst 1, 1) := by decide +kernel
theorem d_Mod_order_17 : decode prog_9_method_42_code 17 = .ok (.goto 4, 3) := by decide +kernel
theorem d_Mod_order_20 : decode prog_9_method_42_code 20 = .ok (.iconst 0, 1) := by decide +kernel
theorem d_Mod_order_21 : decode prog_9_method_42_code 21 = .ok (.ireturn, 1) := by decide +kernel
abbrev M_Mod_floor : MethodName × ByteArray × Nat × Option FieldType := (⟨"KeyCodecModel", "floor", "(JJ)J"⟩, prog_9_method_43_code, 4, some .long)
theorem d_Mod_floor_0 : decode prog_9_method_43_code 0 = .ok (.lload_n 0, 1) := by decide +kernel
theorem d_Mod_floor_1 : decode prog_9_method_43_code 1 = .ok (.lload_n 2, 1) := by decide +kernel
theorem d_Mod_floor_2 : decode prog_9_method_43_code 2 = .ok (.ldiv, 1) := by decide +kernel
theorem d_Mod_floor_3 : decode prog_9_method_43_code 3 = .ok (.lload_n 0, 1) := by decide +kernel
theorem d_Mod_floor_4 : decode prog_9_method_43_code 4 = .ok (.lload_n 2, 1) := by decide +kernel
theorem d_Mod_floor_5 : decode prog_9_method_43_code 5 = .ok (.lrem, 1) := by decide +kernel
theorem d_Mod_floor_6 : decode prog_9_method_43_code 6 = .ok (.lconst 0, 1) := by decide +kernel
theorem d_Mod_floor_7 : decode prog_9_method_43_code 7 = .ok (.lcmp, 1) := by decide +kernel
theorem d_Mod_floor_8 : decode prog_9_method_43_code 8 = .ok (.ifCond .ge 7, 3) := by decide +kernel
theorem d_Mod_floor_11 : decode prog_9_method_43_code 11 = .ok (.lconst 1, 1) := by decide +kernel
theorem d_Mod_floor_12 : decode prog_9_method_43_code 12 = .ok (.goto 4, 3) := by decide +kernel
theorem d_Mod_floor_15 : decode prog_9_method_43_code 15 = .ok (.lconst 0, 1) := by decide +kernel
theorem d_Mod_floor_16 : decode prog_9_method_43_code 16 = .ok (.lsub, 1) := by decide +kernel
theorem d_Mod_floor_17 : decode prog_9_method_43_code 17 = .ok (.lreturn, 1) := by decide +kernel
abbrev M_Mod_orderDecimals : MethodName × ByteArray × Nat × Option FieldType := (⟨"KeyCodecModel", "orderDecimals", "(II)I"⟩, prog_9_method_44_code, 11, some .int)
theorem d_Mod_orderDecimals_0 : decode prog_9_method_44_code 0 = .ok (.lconst 1, 1) := by decide +kernel
theorem d_Mod_orderDecimals_1 : decode prog_9_method_44_code 1 = .ok (.lstore_n 3, 1) := by decide +kernel
theorem d_Mod_orderDecimals_2 : decode prog_9_method_44_code 2 = .ok (.lconst 1, 1) := by decide +kernel
theorem d_Mod_orderDecimals_3 : decode prog_9_method_44_code 3 = .ok (.lstore 5, 2) := by decide +kernel
theorem d_Mod_orderDecimals_5 : decode prog_9_method_44_code 5 = .ok (.iconst 0, 1) := by decide +kernel
theorem d_Mod_orderDecimals_6 : decode prog_9_method_44_code 6 = .ok (.istore 7, 2) := by decide +kernel
theorem d_Mod_orderDecimals_8 : decode prog_9_method_44_code 8 = .ok (.iload 7, 2) := by decide +kernel
theorem d_Mod_orderDecimals_10 : decode prog_9_method_44_code 10 = .ok (.aload_n 0, 1) := by decide +kernel
theorem d_Mod_orderDecimals_11 : decode prog_9_method_44_code 11 = .ok (.getfield 20, 3) := by decide +kernel
theorem d_Mod_orderDecimals_14 : decode prog_9_method_44_code 14 = .ok (.iload_n 1, 1) := by decide +kernel
theorem d_Mod_orderDecimals_15 : decode prog_9_method_44_code 15 = .ok (.iaload, 1) := by decide +kernel
theorem d_Mod_orderDecimals_16 : decode prog_9_method_44_code 16 = .ok (.if_icmp .ge 15, 3) := by decide +kernel
theorem d_Mod_orderDecimals_19 : decode prog_9_method_44_code 19 = .ok (.lload_n 3, 1) := by decide +kernel
theorem d_Mod_orderDecimals_20 : decode prog_9_method_44_code 20 = .ok (.ldc2_w 111, 3) := by decide +kernel
theorem d_Mod_orderDecimals_23 : decode prog_9_method_44_code 23 = .ok (.lmul, 1) := by decide +kernel
theorem d_Mod_orderDecimals_24 : decode prog_9_method_44_code 24 = .ok (.lstore_n 3, 1) := by decide +kernel
theorem d_Mod_orderDecimals_25 : decode prog_9_method_44_code 25 = .ok (.iinc 7 1, 3) := by decide +kernel
theorem d_Mod_orderDecimals_28 : decode prog_9_method_44_code 28 = .ok (.goto (-20), 3) := by decide +kernel
theorem d_Mod_orderDecimals_31 : decode prog_9_method_44_code 31 = .ok (.iconst 0, 1) := by decide +kernel
theorem d_Mod_orderDecimals_32 : decode prog_9_method_44_code 32 = .ok (.istore 7, 2) := by decide +kernel
theorem d_Mod_orderDecimals_34 : decode prog_9_method_44_code 34 = .ok (.iload 7, 2) := by decide +kernel
theorem d_Mod_orderDecimals_36 : decode prog_9_method_44_code 36 = .ok (.aload_n 0, 1) := by decide +kernel
theorem d_Mod_orderDecimals_37 : decode prog_9_method_44_code 37 = .ok (.getfield 20, 3) := by decide +kernel
theorem d_Mod_orderDecimals_40 : decode prog_9_method_44_code 40 = .ok (.iload_n 2, 1) := by decide +kernel
theorem d_Mod_orderDecimals_41 : decode prog_9_method_44_code 41 = .ok (.iaload, 1) := by decide +kernel
theorem d_Mod_orderDecimals_42 : decode prog_9_method_44_code 42 = .ok (.if_icmp .ge 17, 3) := by decide +kernel
theorem d_Mod_orderDecimals_45 : decode prog_9_method_44_code 45 = .ok (.lload 5, 2) := by decide +kernel
theorem d_Mod_orderDecimals_47 : decode prog_9_method_44_code 47 = .ok (.ldc2_w 111, 3) := by decide +kernel
theorem d_Mod_orderDecimals_50 : decode prog_9_method_44_code 50 = .ok (.lmul, 1) := by decide +kernel
theorem d_Mod_orderDecimals_51 : decode prog_9_method_44_code 51 = .ok (.lstore 5, 2) := by decide +kernel
theorem d_Mod_orderDecimals_53 : decode prog_9_method_44_code 53 = .ok (.iinc 7 1, 3) := by decide +kernel
theorem d_Mod_orderDecimals_56 : decode prog_9_method_44_code 56 = .ok (.goto (-22), 3) := by decide +kernel
theorem d_Mod_orderDecimals_59 : decode prog_9_method_44_code 59 = .ok (.aload_n 0, 1) := by decide +kernel
theorem d_Mod_orderDecimals_60 : decode prog_9_method_44_code 60 = .ok (.getfield 16, 3) := by decide +kernel
theorem d_Mod_orderDecimals_63 : decode prog_9_method_44_code 63 = .ok (.iload_n 1, 1) := by decide +kernel
theorem d_Mod_orderDecimals_64 : decode prog_9_method_44_code 64 = .ok (.laload, 1) := by decide +kernel
theorem d_Mod_orderDecimals_65 : decode prog_9_method_44_code 65 = .ok (.lload_n 3, 1) := by decide +kernel
theorem d_Mod_orderDecimals_66 : decode prog_9_method_44_code 66 = .ok (.invokestatic 180, 3) := by decide +kernel
theorem d_Mod_orderDecimals_69 : decode prog_9_method_44_code 69 = .ok (.lstore 7, 2) := by decide +kernel
theorem d_Mod_orderDecimals_71 : decode prog_9_method_44_code 71 = .ok (.aload_n 0, 1) := by decide +kernel
theorem d_Mod_orderDecimals_72 : decode prog_9_method_44_code 72 = .ok (.getfield 16, 3) := by decide +kernel
theorem d_Mod_orderDecimals_75 : decode prog_9_method_44_code 75 = .ok (.iload_n 2, 1) := by decide +kernel
theorem d_Mod_orderDecimals_76 : decode prog_9_method_44_code 76 = .ok (.laload, 1) := by decide +kernel
theorem d_Mod_orderDecimals_77 : decode prog_9_method_44_code 77 = .ok (.lload 5, 2) := by decide +kernel
theorem d_Mod_orderDecimals_79 : decode prog_9_method_44_code 79 = .ok (.invokestatic 180, 3) := by decide +kernel
theorem d_Mod_orderDecimals_82 : decode prog_9_method_44_code 82 = .ok (.lstore 9, 2) := by decide +kernel
theorem d_Mod_orderDecimals_84 : decode prog_9_method_44_code 84 = .ok (.lload 7, 2) := by decide +kernel
theorem d_Mod_orderDecimals_86 : decode prog_9_method_44_code 86 = .ok (.lload 9, 2) := by decide +kernel
theorem d_Mod_orderDecimals_88 : decode prog_9_method_44_code 88 = .ok (.lcmp, 1) := by decide +kernel
theorem d_Mod_orderDecimals_89 : decode prog_9_method_44_code 89 = .ok (.ifCond .eq 11, 3) := by decide +kernel
theorem d_Mod_orderDecimals_92 : decode prog_9_method_44_code 92 = .ok (.lload 7, 2) := by decide +kernel
theorem d_Mod_orderDecimals_94 : decode prog_9_method_44_code 94 = .ok (.lload 9, 2) := by decide +kernel
theorem d_Mod_orderDecimals_96 : decode prog_9_method_44_code 96 = .ok (.invokestatic 184, 3) := by decide +kernel
theorem d_Mod_orderDecimals_99 : decode prog_9_method_44_code 99 = .ok (.ireturn, 1) := by decide +kernel
theorem d_Mod_orderDecimals_100 : decode prog_9_method_44_code 100 = .ok (.aload_n 0, 1) := by decide +kernel
theorem d_Mod_orderDecimals_101 : decode prog_9_method_44_code 101 = .ok (.getfield 16, 3) := by decide +kernel
theorem d_Mod_orderDecimals_104 : decode prog_9_method_44_code 104 = .ok (.iload_n 1, 1) := by decide +kernel
theorem d_Mod_orderDecimals_105 : decode prog_9_method_44_code 105 = .ok (.laload, 1) := by decide +kernel
theorem d_Mod_orderDecimals_106 : decode prog_9_method_44_code 106 = .ok (.lload 7, 2) := by decide +kernel
theorem d_Mod_orderDecimals_108 : decode prog_9_method_44_code 108 = .ok (.lload_n 3, 1) := by decide +kernel
theorem d_Mod_orderDecimals_109 : decode prog_9_method_44_code 109 = .ok (.lmul, 1) := by decide +kernel
theorem d_Mod_orderDecimals_110 : decode prog_9_method_44_code 110 = .ok (.lsub, 1) := by decide +kernel
theorem d_Mod_orderDecimals_111 : decode prog_9_method_44_code 111 = .ok (.ldc2_w 188, 3) := by decide +kernel
theorem d_Mod_orderDecimals_114 : decode prog_9_method_44_code 114 = .ok (.lload_n 3, 1) := by decide +kernel
theorem d_Mod_orderDecimals_115 : decode prog_9_method_44_code 115 = .ok (.ldiv, 1) := by decide +kernel
theorem d_Mod_orderDecimals_116 : decode prog_9_method_44_code 116 = .ok (.lmul, 1) := by decide +kernel
theorem d_Mod_orderDecimals_117 : decode prog_9_method_44_code 117 = .ok (.aload_n 0, 1) := by decide +kernel
theorem d_Mod_orderDecimals_118 : decode prog_9_method_44_code 118 = .ok (.getfield 16, 3) := by decide +kernel
theorem d_Mod_orderDecimals_121 : decode prog_9_method_44_code 121 = .ok (.iload_n 2, 1) := by decide +kernel
theorem d_Mod_orderDecimals_122 : decode prog_9_method_44_code 122 = .ok (.laload, 1) := by decide +kernel
theorem d_Mod_orderDecimals_123 : decode prog_9_method_44_code 123 = .ok (.lload 9, 2) := by decide +kernel
theorem d_Mod_orderDecimals_125 : decode prog_9_method_44_code 125 = .ok (.lload 5, 2) := by decide +kernel
theorem d_Mod_orderDecimals_127 : decode prog_9_method_44_code 127 = .ok (.lmul, 1) := by decide +kernel
theorem d_Mod_orderDecimals_128 : decode prog_9_method_44_code 128 = .ok (.lsub, 1) := by decide +kernel
theorem d_Mod_orderDecimals_129 : decode prog_9_method_44_code 129 = .ok (.ldc2_w 188, 3) := by decide +kernel
theorem d_Mod_orderDecimals_132 : decode prog_9_method_44_code 132 = .ok (.lload 5, 2) := by decide +kernel
theorem d_Mod_orderDecimals_134 : decode prog_9_method_44_code 134 = .ok (.ldiv, 1) := by decide +kernel
theorem d_Mod_orderDecimals_135 : decode prog_9_method_44_code 135 = .ok (.lmul, 1) := by decide +kernel
theorem d_Mod_orderDecimals_136 : decode prog_9_method_44_code 136 = .ok (.invokestatic 184, 3) := by decide +kernel
theorem d_Mod_orderDecimals_139 : decode prog_9_method_44_code 139 = .ok (.ireturn, 1) := by decide +kernel
abbrev M_Mod_orderTexts : MethodName × ByteArray × Nat × Option FieldType := (⟨"KeyCodecModel", "orderTexts", "(II)I"⟩, prog_9_method_45_code, 4, some .int)
theorem d_Mod_orderTexts_0 : decode prog_9_method_45_code 0 = .ok (.iconst 0, 1) := by decide +kernel
theorem d_Mod_orderTexts_1 : decode prog_9_method_45_code 1 = .ok (.istore_n 3, 1) := by decide +kernel
theorem d_Mod_orderTexts_2 : decode prog_9_method_45_code 2 = .ok (.iload_n 3, 1) := by decide +kernel
theorem d_Mod_orderTexts_3 : decode prog_9_method_45_code 3 = .ok (.aload_n 0, 1) := by decide +kernel
theorem d_Mod_orderTexts_4 : decode prog_9_method_45_code 4 = .ok (.getfield 27, 3) := by decide +kernel
theorem d_Mod_orderTexts_7 : decode prog_9_method_45_code 7 = .ok (.iload_n 1, 1) := by decide +kernel
theorem d_Mod_orderTexts_8 : decode prog_9_method_45_code 8 = .ok (.iaload, 1) := by decide +kernel
theorem d_Mod_orderTexts_9 : decode prog_9_method_45_code 9 = .ok (.if_icmp .ge 72, 3) := by decide +kernel
theorem d_Mod_orderTexts_12 : decode prog_9_method_45_code 12 = .ok (.iload_n 3, 1) := by decide +kernel
theorem d_Mod_orderTexts_13 : decode prog_9_method_45_code 13 = .ok (.aload_n 0, 1) := by decide +kernel
theorem d_Mod_orderTexts_14 : decode prog_9_method_45_code 14 = .ok (.getfield 27, 3) := by decide +kernel
theorem d_Mod_orderTexts_17 : decode prog_9_method_45_code 17 = .ok (.iload_n 2, 1) := by decide +kernel
theorem d_Mod_orderTexts_18 : decode prog_9_method_45_code 18 = .ok (.iaload, 1) := by decide +kernel
theorem d_Mod_orderTexts_19 : decode prog_9_method_45_code 19 = .ok (.if_icmp .ge 62, 3) := by decide +kernel
theorem d_Mod_orderTexts_22 : decode prog_9_method_45_code 22 = .ok (.aload_n 0, 1) := by decide +kernel
theorem d_Mod_orderTexts_23 : decode prog_9_method_45_code 23 = .ok (.getfield 30, 3) := by decide +kernel
theorem d_Mod_orderTexts_26 : decode prog_9_method_45_code 26 = .ok (.bipush 10, 2) := by decide +kernel
theorem d_Mod_orderTexts_28 : decode prog_9_method_45_code 28 = .ok (.iload_n 1, 1) := by decide +kernel
theorem d_Mod_orderTexts_29 : decode prog_9_method_45_code 29 = .ok (.imul, 1) := by decide +kernel
theorem d_Mod_orderTexts_30 : decode prog_9_method_45_code 30 = .ok (.iload_n 3, 1) := by decide +kernel
theorem d_Mod_orderTexts_31 : decode prog_9_method_45_code 31 = .ok (.iadd, 1) := by decide +kernel
theorem d_Mod_orderTexts_32 : decode prog_9_method_45_code 32 = .ok (.iaload, 1) := by decide +kernel
theorem d_Mod_orderTexts_33 : decode prog_9_method_45_code 33 = .ok (.aload_n 0, 1) := by decide +kernel
theorem d_Mod_orderTexts_34 : decode prog_9_method_45_code 34 = .ok (.getfield 30, 3) := by decide +kernel
theorem d_Mod_orderTexts_37 : decode prog_9_method_45_code 37 = .ok (.bipush 10, 2) := by decide +kernel
theorem d_Mod_orderTexts_39 : decode prog_9_method_45_code 39 = .ok (.iload_n 2, 1) := by decide +kernel
theorem d_Mod_orderTexts_40 : decode prog_9_method_45_code 40 = .ok (.imul, 1) := by decide +kernel
theorem d_Mod_orderTexts_41 : decode prog_9_method_45_code 41 = .ok (.iload_n 3, 1) := by decide +kernel
theorem d_Mod_orderTexts_42 : decode prog_9_method_45_code 42 = .ok (.iadd, 1) := by decide +kernel
theorem d_Mod_orderTexts_43 : decode prog_9_method_45_code 43 = .ok (.iaload, 1) := by decide +kernel
theorem d_Mod_orderTexts_44 : decode prog_9_method_45_code 44 = .ok (.if_icmp .eq 31, 3) := by decide +kernel
theorem d_Mod_orderTexts_47 : decode prog_9_method_45_code 47 = .ok (.aload_n 0, 1) := by decide +kernel
theorem d_Mod_orderTexts_48 : decode prog_9_method_45_code 48 = .ok (.getfield 30, 3) := by decide +kernel
theorem d_Mod_orderTexts_51 : decode prog_9_method_45_code 51 = .ok (.bipush 10, 2) := by decide +kernel
theorem d_Mod_orderTexts_53 : decode prog_9_method_45_code 53 = .ok (.iload_n 1, 1) := by decide +kernel
theorem d_Mod_orderTexts_54 : decode prog_9_method_45_code 54 = .ok (.imul, 1) := by decide +kernel
theorem d_Mod_orderTexts_55 : decode prog_9_method_45_code 55 = .ok (.iload_n 3, 1) := by decide +kernel
theorem d_Mod_orderTexts_56 : decode prog_9_method_45_code 56 = .ok (.iadd, 1) := by decide +kernel
theorem d_Mod_orderTexts_57 : decode prog_9_method_45_code 57 = .ok (.iaload, 1) := by decide +kernel
theorem d_Mod_orderTexts_58 : decode prog_9_method_45_code 58 = .ok (.i2l, 1) := by decide +kernel
theorem d_Mod_orderTexts_59 : decode prog_9_method_45_code 59 = .ok (.aload_n 0, 1) := by decide +kernel
theorem d_Mod_orderTexts_60 : decode prog_9_method_45_code 60 = .ok (.getfield 30, 3) := by decide +kernel
theorem d_Mod_orderTexts_63 : decode prog_9_method_45_code 63 = .ok (.bipush 10, 2) := by decide +kernel
theorem d_Mod_orderTexts_65 : decode prog_9_method_45_code 65 = .ok (.iload_n 2, 1) := by decide +kernel
theorem d_Mod_orderTexts_66 : decode prog_9_method_45_code 66 = .ok (.imul, 1) := by decide +kernel
theorem d_Mod_orderTexts_67 : decode prog_9_method_45_code 67 = .ok (.iload_n 3, 1) := by decide +kernel
theorem d_Mod_orderTexts_68 : decode prog_9_method_45_code 68 = .ok (.iadd, 1) := by decide +kernel
theorem d_Mod_orderTexts_69 : decode prog_9_method_45_code 69 = .ok (.iaload, 1) := by decide +kernel
theorem d_Mod_orderTexts_70 : decode prog_9_method_45_code 70 = .ok (.i2l, 1) := by decide +kernel
theorem d_Mod_orderTexts_71 : decode prog_9_method_45_code 71 = .ok (.invokestatic 184, 3) := by decide +kernel
theorem d_Mod_orderTexts_74 : decode prog_9_method_45_code 74 = .ok (.ireturn, 1) := by decide +kernel
theorem d_Mod_orderTexts_75 : decode prog_9_method_45_code 75 = .ok (.iinc 3 1, 3) := by decide +kernel
theorem d_Mod_orderTexts_78 : decode prog_9_method_45_code 78 = .ok (.goto (-76), 3) := by decide +kernel
theorem d_Mod_orderTexts_81 : decode prog_9_method_45_code 81 = .ok (.aload_n 0, 1) := by decide +kernel
theorem d_Mod_orderTexts_82 : decode prog_9_method_45_code 82 = .ok (.getfield 27, 3) := by decide +kernel
theorem d_Mod_orderTexts_85 : decode prog_9_method_45_code 85 = .ok (.iload_n 1, 1) := by decide +kernel
theorem d_Mod_orderTexts_86 : decode prog_9_method_45_code 86 = .ok (.iaload, 1) := by decide +kernel
theorem d_Mod_orderTexts_87 : decode prog_9_method_45_code 87 = .ok (.i2l, 1) := by decide +kernel
theorem d_Mod_orderTexts_88 : decode prog_9_method_45_code 88 = .ok (.aload_n 0, 1) := by decide +kernel
theorem d_Mod_orderTexts_89 : decode prog_9_method_45_code 89 = .ok (.getfield 27, 3) := by decide +kernel
theorem d_Mod_orderTexts_92 : decode prog_9_method_45_code 92 = .ok (.iload_n 2, 1) := by decide +kernel
theorem d_Mod_orderTexts_93 : decode prog_9_method_45_code 93 = .ok (.iaload, 1) := by decide +kernel
theorem d_Mod_orderTexts_94 : decode prog_9_method_45_code 94 = .ok (.i2l, 1) := by decide +kernel
theorem d_Mod_orderTexts_95 : decode prog_9_method_45_code 95 = .ok (.invokestatic 184, 3) := by decide +kernel
theorem d_Mod_orderTexts_98 : decode prog_9_method_45_code 98 = .ok (.ireturn, 1) := by decide +kernel
abbrev M_Mod_orderField : MethodName × ByteArray × Nat × Option FieldType := (⟨"KeyCodecModel", "orderField", "(III)I"⟩, prog_9_method_46_code, 5, some .int)
theorem d_Mod_orderField_0 : decode prog_9_method_46_code 0 = .ok (.aload_n 0, 1) := by decide +kernel
theorem d_Mod_orderField_1 : decode prog_9_method_46_code 1 = .ok (.getfield 23, 3) := by decide +kernel
theorem d_Mod_orderField_4 : decode prog_9_method_46_code 4 = .ok (.iload_n 2, 1) := by decide +kernel
theorem d_Mod_orderField_5 : decode prog_9_method_46_code 5 = .ok (.baload, 1) := by decide +kernel
theorem d_Mod_orderField_6 : decode prog_9_method_46_code 6 = .ok (.ifCond .ne 12, 3) := by decide +kernel
theorem d_Mod_orderField_9 : decode prog_9_method_46_code 9 = .ok (.aload_n 0, 1) := by decide +kernel
theorem d_Mod_orderField_10 : decode prog_9_method_46_code 10 = .ok (.getfield 23, 3) := by decide +kernel
theorem d_Mod_orderField_13 : decode prog_9_method_46_code 13 = .ok (.iload_n 3, 1) := by decide +kernel
theorem d_Mod_orderField_14 : decode prog_9_method_46_code 14 = .ok (.baload, 1) := by decide +kernel
theorem d_Mod_orderField_15 : decode prog_9_method_46_code 15 = .ok (.ifCond .eq 52, 3) := by decide +kernel
theorem d_Mod_orderField_18 : decode prog_9_method_46_code 18 = .ok (.aload_n 0, 1) := by decide +kernel
theorem d_Mod_orderField_19 : decode prog_9_method_46_code 19 = .ok (.getfield 23, 3) := by decide +kernel
theorem d_Mod_orderField_22 : decode prog_9_method_46_code 22 = .ok (.iload_n 2, 1) := by decide +kernel
theorem d_Mod_orderField_23 : decode prog_9_method_46_code 23 = .ok (.baload, 1) := by decide +kernel
theorem d_Mod_orderField_24 : decode prog_9_method_46_code 24 = .ok (.ifCond .eq 7, 3) := by decide +kernel
theorem d_Mod_orderField_27 : decode prog_9_method_46_code 27 = .ok (.iconst 0, 1) := by decide +kernel
theorem d_Mod_orderField_28 : decode prog_9_method_46_code 28 = .ok (.goto 4, 3) := by decide +kernel
theorem d_Mod_orderField_31 : decode prog_9_method_46_code 31 = .ok (.iconst 1, 1) := by decide +kernel
theorem d_Mod_orderField_32 : decode prog_9_method_46_code 32 = .ok (.aload_n 0, 1) := by decide +kernel
theorem d_Mod_orderField_33 : decode prog_9_method_46_code 33 = .ok (.getfield 23, 3) := by decide +kernel
theorem d_Mod_orderField_36 : decode prog_9_method_46_code 36 = .ok (.iload_n 3, 1) := by decide +kernel
theorem d_Mod_orderField_37 : decode prog_9_method_46_code 37 = .ok (.baload, 1) := by decide +kernel
theorem d_Mod_orderField_38 : decode prog_9_method_46_code 38 = .ok (.ifCond .eq 7, 3) := by decide +kernel
theorem d_Mod_orderField_41 : decode prog_9_method_46_code 41 = .ok (.iconst 0, 1) := by decide +kernel
theorem d_Mod_orderField_42 : decode prog_9_method_46_code 42 = .ok (.goto 4, 3) := by decide +kernel
theorem d_Mod_orderField_45 : decode prog_9_method_46_code 45 = .ok (.iconst 1, 1) := by decide +kernel
theorem d_Mod_orderField_46 : decode prog_9_method_46_code 46 = .ok (.isub, 1) := by decide +kernel
theorem d_Mod_orderField_47 : decode prog_9_method_46_code 47 = .ok (.istore 4, 2) := by decide +kernel
theorem d_Mod_orderField_49 : decode prog_9_method_46_code 49 = .ok (.aload_n 0, 1) := by decide +kernel
theorem d_Mod_orderField_50 : decode prog_9_method_46_code 50 = .ok (.iload_n 1, 1) := by decide +kernel
theorem d_Mod_orderField_51 : decode prog_9_method_46_code 51 = .ok (.invokevirtual 113, 3) := by decide +kernel
theorem d_Mod_orderField_54 : decode prog_9_method_46_code 54 = .ok (.ifCond .eq 10, 3) := by decide +kernel
theorem d_Mod_orderField_57 : decode prog_9_method_46_code 57 = .ok (.iconst 0, 1) := by decide +kernel
theorem d_Mod_orderField_58 : decode prog_9_method_46_code 58 = .ok (.iload 4, 2) := by decide +kernel
theorem d_Mod_orderField_60 : decode prog_9_method_46_code 60 = .ok (.isub, 1) := by decide +kernel
theorem d_Mod_orderField_61 : decode prog_9_method_46_code 61 = .ok (.goto 5, 3) := by decide +kernel
theorem d_Mod_orderField_64 : decode prog_9_method_46_code 64 = .ok (.iload 4, 2) := by decide +kernel
theorem d_Mod_orderField_66 : decode prog_9_method_46_code 66 = .ok (.ireturn, 1) := by decide +kernel
theorem d_Mod_orderField_67 : decode prog_9_method_46_code 67 = .ok (.aload_n 0, 1) := by decide +kernel
theorem d_Mod_orderField_68 : decode prog_9_method_46_code 68 = .ok (.getfield 7, 3) := by decide +kernel
theorem d_Mod_orderField_71 : decode prog_9_method_46_code 71 = .ok (.iload_n 1, 1) := by decide +kernel
theorem d_Mod_orderField_72 : decode prog_9_method_46_code 72 = .ok (.iaload, 1) := by decide +kernel
theorem d_Mod_orderField_73 : decode prog_9_method_46_code 73 = .ok (.iconst 1, 1) := by decide +kernel
theorem d_Mod_orderField_74 : decode prog_9_method_46_code 74 = .ok (.if_icmp .ne 12, 3) := by decide +kernel
theorem d_Mod_orderField_77 : decode prog_9_method_46_code 77 = .ok (.aload_n 0, 1) := by decide +kernel
theorem d_Mod_orderField_78 : decode prog_9_method_46_code 78 = .ok (.iload_n 2, 1) := by decide +kernel
theorem d_Mod_orderField_79 : decode prog_9_method_46_code 79 = .ok (.iload_n 3, 1) := by decide +kernel
theorem d_Mod_orderField_80 : decode prog_9_method_46_code 80 = .ok (.invokevirtual 190, 3) := by decide +kernel
theorem d_Mod_orderField_83 : decode prog_9_method_46_code 83 = .ok (.goto 37, 3) := by decide +kernel
theorem d_Mod_orderField_86 : decode prog_9_method_46_code 86 = .ok (.aload_n 0, 1) := by decide +kernel
theorem d_Mod_orderField_87 : decode prog_9_method_46_code 87 = .ok (.getfield 7, 3) := by decide +kernel
theorem d_Mod_orderField_90 : decode prog_9_method_46_code 90 = .ok (.iload_n 1, 1) := by decide +kernel
theorem d_Mod_orderField_91 : decode prog_9_method_46_code 91 = .ok (.iaload, 1) := by decide +kernel
theorem d_Mod_orderField_92 : decode prog_9_method_46_code 92 = .ok (.iconst 2, 1) := by decide +kernel
theorem d_Mod_orderField_93 : decode prog_9_method_46_code 93 = .ok (.if_icmp .ne 12, 3) := by decide +kernel
theorem d_Mod_orderField_96 : decode prog_9_method_46_code 96 = .ok (.aload_n 0, 1) := by decide +kernel
theorem d_Mod_orderField_97 : decode prog_9_method_46_code 97 = .ok (.iload_n 2, 1) := by decide +kernel
theorem d_Mod_orderField_98 : decode prog_9_method_46_code 98 = .ok (.iload_n 3, 1) := by decide +kernel
theorem d_Mod_orderField_99 : decode prog_9_method_46_code 99 = .ok (.invokevirtual 194, 3) := by decide +kernel
theorem d_Mod_orderField_102 : decode prog_9_method_46_code 102 = .ok (.goto 18, 3) := by decide +kernel
theorem d_Mod_orderField_105 : decode prog_9_method_46_code 105 = .ok (.aload_n 0, 1) := by decide +kernel
theorem d_Mod_orderField_106 : decode prog_9_method_46_code 106 = .ok (.getfield 16, 3) := by decide +kernel
theorem d_Mod_orderField_109 : decode prog_9_method_46_code 109 = .ok (.iload_n 2, 1) := by decide +kernel
theorem d_Mod_orderField_110 : decode prog_9_method_46_code 110 = .ok (.laload, 1) := by decide +kernel
theorem d_Mod_orderField_111 : decode prog_9_method_46_code 111 = .ok (.aload_n 0, 1) := by decide +kernel
theorem d_Mod_orderField_112 : decode prog_9_method_46_code 112 = .ok (.getfield 16, 3) := by decide +kernel
theorem d_Mod_orderField_115 : decode prog_9_method_46_code 115 = .ok (.iload_n 3, 1) := by decide +kernel
theorem d_Mod_orderField_116 : decode prog_9_method_46_code 116 = .ok (.laload, 1) := by decide +kernel
theorem d_Mod_orderField_117 : decode prog_9_method_46_code 117 = .ok (.invokestatic 184, 3) := by decide +kernel
theorem d_Mod_orderField_120 : decode prog_9_method_46_code 120 = .ok (.istore 4, 2) := by decide +kernel
theorem d_Mod_orderField_122 : decode prog_9_method_46_code 122 = .ok (.aload_n 0, 1) := by decide +kernel
theorem d_Mod_orderField_123 : decode prog_9_method_46_code 123 = .ok (.iload_n 1, 1) := by decide +kernel
theorem d_Mod_orderField_124 : decode prog_9_method_46_code 124 = .ok (.invokevirtual 116, 3) := by decide +kernel
theorem d_Mod_orderField_127 : decode prog_9_method_46_code 127 = .ok (.ifCond .eq 10, 3) := by decide +kernel
theorem d_Mod_orderField_130 : decode prog_9_method_46_code 130 = .ok (.iconst 0, 1) := by decide +kernel
theorem d_Mod_orderField_131 : decode prog_9_method_46_code 131 = .ok (.iload 4, 2) := by decide +kernel
theorem d_Mod_orderField_133 : decode prog_9_method_46_code 133 = .ok (.isub, 1) := by decide +kernel
theorem d_Mod_orderField_134 : decode prog_9_method_46_code 134 = .ok (.goto 5, 3) := by decide +kernel
theorem d_Mod_orderField_137 : decode prog_9_method_46_code 137 = .ok (.iload 4, 2) := by decide +kernel
theorem d_Mod_orderField_139 : decode prog_9_method_46_code 139 = .ok (.ireturn, 1) := by decide +kernel
abbrev M_Mod_compare : MethodName × ByteArray × Nat × Option FieldType := (⟨"KeyCodecModel", "compare", "(II)I"⟩, prog_9_method_47_code, 5, some .int)
theorem d_Mod_compare_0 : decode prog_9_method_47_code 0 = .ok (.aload_n 0, 1) := by decide +kernel
theorem d_Mod_compare_1 : decode prog_9_method_47_code 1 = .ok (.iconst 0, 1) := by decide +kernel
theorem d_Mod_compare_2 : decode prog_9_method_47_code 2 = .ok (.putfield 55, 3) := by decide +kernel
theorem d_Mod_compare_5 : decode prog_9_method_47_code 5 = .ok (.aload_n 0, 1) := by decide +kernel
theorem d_Mod_compare_6 : decode prog_9_method_47_code 6 = .ok (.iload_n 1, 1) := by decide +kernel
theorem d_Mod_compare_7 : decode prog_9_method_47_code 7 = .ok (.invokevirtual 177, 3) := by decide +kernel
theorem d_Mod_compare_10 : decode prog_9_method_47_code 10 = .ok (.ifCond .eq 11, 3) := by decide +kernel
theorem d_Mod_compare_13 : decode prog_9_method_47_code 13 = .ok (.aload_n 0, 1) := by decide +kernel
theorem d_Mod_compare_14 : decode prog_9_method_47_code 14 = .ok (.iload_n 2, 1) := by decide +kernel
theorem d_Mod_compare_15 : decode prog_9_method_47_code 15 = .ok (.invokevirtual 177, 3) := by decide +kernel
theorem d_Mod_compare_18 : decode prog_9_method_47_code 18 = .ok (.ifCond .ne 6, 3) := by decide +kernel
theorem d_Mod_compare_21 : decode prog_9_method_47_code 21 = .ok (.bipush (-2), 2) := by decide +kernel
theorem d_Mod_compare_23 : decode prog_9_method_47_code 23 = .ok (.ireturn, 1) := by decide +kernel
theorem d_Mod_compare_24 : decode prog_9_method_47_code 24 = .ok (.iconst 0, 1) := by decide +kernel
theorem d_Mod_compare_25 : decode prog_9_method_47_code 25 = .ok (.istore_n 3, 1) := by decide +kernel
theorem d_Mod_compare_26 : decode prog_9_method_47_code 26 = .ok (.iload_n 3, 1) := by decide +kernel
theorem d_Mod_compare_27 : decode prog_9_method_47_code 27 = .ok (.aload_n 0, 1) := by decide +kernel
theorem d_Mod_compare_28 : decode prog_9_method_47_code 28 = .ok (.getfield 62, 3) := by decide +kernel
theorem d_Mod_compare_31 : decode prog_9_method_47_code 31 = .ok (.if_icmp .ge 38, 3) := by decide +kernel
theorem d_Mod_compare_34 : decode prog_9_method_47_code 34 = .ok (.aload_n 0, 1) := by decide +kernel
theorem d_Mod_compare_35 : decode prog_9_method_47_code 35 = .ok (.iload_n 3, 1) := by decide +kernel
theorem d_Mod_compare_36 : decode prog_9_method_47_code 36 = .ok (.iconst 5, 1) := by decide +kernel
theorem d_Mod_compare_37 : decode prog_9_method_47_code 37 = .ok (.iload_n 1, 1) := by decide +kernel
theorem d_Mod_compare_38 : decode prog_9_method_47_code 38 = .ok (.imul, 1) := by decide +kernel
theorem d_Mod_compare_39 : decode prog_9_method_47_code 39 = .ok (.iconst 5, 1) := by decide +kernel
theorem d_Mod_compare_40 : decode prog_9_method_47_code 40 = .ok (.iadd, 1) := by decide +kernel
theorem d_Mod_compare_41 : decode prog_9_method_47_code 41 = .ok (.iload_n 3, 1) := by decide +kernel
theorem d_Mod_compare_42 : decode prog_9_method_47_code 42 = .ok (.iadd, 1) := by decide +kernel
theorem d_Mod_compare_43 : decode prog_9_method_47_code 43 = .ok (.iconst 5, 1) := by decide +kernel
theorem d_Mod_compare_44 : decode prog_9_method_47_code 44 = .ok (.iload_n 2, 1) := by decide +kernel
theorem d_Mod_compare_45 : decode prog_9_method_47_code 45 = .ok (.imul, 1) := by decide +kernel
theorem d_Mod_compare_46 : decode prog_9_method_47_code 46 = .ok (.iconst 5, 1) := by decide +kernel
theorem d_Mod_compare_47 : decode prog_9_method_47_code 47 = .ok (.iadd, 1) := by decide +kernel
theorem d_Mod_compare_48 : decode prog_9_method_47_code 48 = .ok (.iload_n 3, 1) := by decide +kernel
theorem d_Mod_compare_49 : decode prog_9_method_47_code 49 = .ok (.iadd, 1) := by decide +kernel
theorem d_Mod_compare_50 : decode prog_9_method_47_code 50 = .ok (.invokevirtual 197, 3) := by decide +kernel
theorem d_Mod_compare_53 : decode prog_9_method_47_code 53 = .ok (.istore 4, 2) := by decide +kernel
theorem d_Mod_compare_55 : decode prog_9_method_47_code 55 = .ok (.iload 4, 2) := by decide +kernel
theorem d_Mod_compare_57 : decode prog_9_method_47_code 57 = .ok (.ifCond .eq 6, 3) := by decide +kernel
theorem d_Mod_compare_60 : decode prog_9_method_47_code 60 = .ok (.iload 4, 2) := by decide +kernel
theorem d_Mod_compare_62 : decode prog_9_method_47_code 62 = .ok (.ireturn, 1) := by decide +kernel
theorem d_Mod_compare_63 : decode prog_9_method_47_code 63 = .ok (.iinc 3 1, 3) := by decide +kernel
theorem d_Mod_compare_66 : decode prog_9_method_47_code 66 = .ok (.goto (-40), 3) := by decide +kernel
theorem d_Mod_compare_69 : decode prog_9_method_47_code 69 = .ok (.iconst 0, 1) := by decide +kernel
theorem d_Mod_compare_70 : decode prog_9_method_47_code 70 = .ok (.ireturn, 1) := by decide +kernel
abbrev M_Mod_orderMade : MethodName × ByteArray × Nat × Option FieldType := (⟨"KeyCodecModel", "orderMade", "()I"⟩, prog_9_method_48_code, 2, some .int)
theorem d_Mod_orderMade_0 : decode prog_9_method_48_code 0 = .ok (.iconst 0, 1) := by decide +kernel
theorem d_Mod_orderMade_1 : decode prog_9_method_48_code 1 = .ok (.istore_n 1, 1) := by decide +kernel
theorem d_Mod_orderMade_2 : decode prog_9_method_48_code 2 = .ok (.iload_n 1, 1) := by decide +kernel
theorem d_Mod_orderMade_3 : decode prog_9_method_48_code 3 = .ok (.aload_n 0, 1) := by decide +kernel
theorem d_Mod_orderMade_4 : decode prog_9_method_48_code 4 = .ok (.getfield 42, 3) := by decide +kernel
theorem d_Mod_orderMade_7 : decode prog_9_method_48_code 7 = .ok (.iconst 0, 1) := by decide +kernel
theorem d_Mod_orderMade_8 : decode prog_9_method_48_code 8 = .ok (.iaload, 1) := by decide +kernel
theorem d_Mod_orderMade_9 : decode prog_9_method_48_code 9 = .ok (.if_icmp .ge 60, 3) := by decide +kernel
theorem d_Mod_orderMade_12 : decode prog_9_method_48_code 12 = .ok (.iload_n 1, 1) := by decide +kernel
theorem d_Mod_orderMade_13 : decode prog_9_method_48_code 13 = .ok (.aload_n 0, 1) := by decide +kernel
theorem d_Mod_orderMade_14 : decode prog_9_method_48_code 14 = .ok (.getfield 42, 3) := by decide +kernel
theorem d_Mod_orderMade_17 : decode prog_9_method_48_code 17 = .ok (.iconst 1, 1) := by decide +kernel
theorem d_Mod_orderMade_18 : decode prog_9_method_48_code 18 = .ok (.iaload, 1) := by decide +kernel
theorem d_Mod_orderMade_19 : decode prog_9_method_48_code 19 = .ok (.if_icmp .ge 50, 3) := by decide +kernel
theorem d_Mod_orderMade_22 : decode prog_9_method_48_code 22 = .ok (.aload_n 0, 1) := by decide +kernel
theorem d_Mod_orderMade_23 : decode prog_9_method_48_code 23 = .ok (.getfield 36, 3) := by decide +kernel
theorem d_Mod_orderMade_26 : decode prog_9_method_48_code 26 = .ok (.iload_n 1, 1) := by decide +kernel
theorem d_Mod_orderMade_27 : decode prog_9_method_48_code 27 = .ok (.iaload, 1) := by decide +kernel
theorem d_Mod_orderMade_28 : decode prog_9_method_48_code 28 = .ok (.aload_n 0, 1) := by decide +kernel
theorem d_Mod_orderMade_29 : decode prog_9_method_48_code 29 = .ok (.getfield 36, 3) := by decide +kernel
theorem d_Mod_orderMade_32 : decode prog_9_method_48_code 32 = .ok (.sipush 200, 3) := by decide +kernel
theorem d_Mod_orderMade_35 : decode prog_9_method_48_code 35 = .ok (.iload_n 1, 1) := by decide +kernel
theorem d_Mod_orderMade_36 : decode prog_9_method_48_code 36 = .ok (.iadd, 1) := by decide +kernel
theorem d_Mod_orderMade_37 : decode prog_9_method_48_code 37 = .ok (.iaload, 1) := by decide +kernel
theorem d_Mod_orderMade_38 : decode prog_9_method_48_code 38 = .ok (.if_icmp .eq 25, 3) := by decide +kernel
theorem d_Mod_orderMade_41 : decode prog_9_method_48_code 41 = .ok (.aload_n 0, 1) := by decide +kernel
theorem d_Mod_orderMade_42 : decode prog_9_method_48_code 42 = .ok (.getfield 36, 3) := by decide +kernel
theorem d_Mod_orderMade_45 : decode prog_9_method_48_code 45 = .ok (.iload_n 1, 1) := by decide +kernel
theorem d_Mod_orderMade_46 : decode prog_9_method_48_code 46 = .ok (.iaload, 1) := by decide +kernel
theorem d_Mod_orderMade_47 : decode prog_9_method_48_code 47 = .ok (.i2l, 1) := by decide +kernel
theorem d_Mod_orderMade_48 : decode prog_9_method_48_code 48 = .ok (.aload_n 0, 1) := by decide +kernel
theorem d_Mod_orderMade_49 : decode prog_9_method_48_code 49 = .ok (.getfield 36, 3) := by decide +kernel
theorem d_Mod_orderMade_52 : decode prog_9_method_48_code 52 = .ok (.sipush 200, 3) := by decide +kernel
theorem d_Mod_orderMade_55 : decode prog_9_method_48_code 55 = .ok (.iload_n 1, 1) := by decide +kernel
theorem d_Mod_orderMade_56 : decode prog_9_method_48_code 56 = .ok (.iadd, 1) := by decide +kernel
theorem d_Mod_orderMade_57 : decode prog_9_method_48_code 57 = .ok (.iaload, 1) := by decide +kernel
theorem d_Mod_orderMade_58 : decode prog_9_method_48_code 58 = .ok (.i2l, 1) := by decide +kernel
theorem d_Mod_orderMade_59 : decode prog_9_method_48_code 59 = .ok (.invokestatic 184, 3) := by decide +kernel
theorem d_Mod_orderMade_62 : decode prog_9_method_48_code 62 = .ok (.ireturn, 1) := by decide +kernel
theorem d_Mod_orderMade_63 : decode prog_9_method_48_code 63 = .ok (.iinc 1 1, 3) := by decide +kernel
theorem d_Mod_orderMade_66 : decode prog_9_method_48_code 66 = .ok (.goto (-64), 3) := by decide +kernel
theorem d_Mod_orderMade_69 : decode prog_9_method_48_code 69 = .ok (.aload_n 0, 1) := by decide +kernel
theorem d_Mod_orderMade_70 : decode prog_9_method_48_code 70 = .ok (.getfield 42, 3) := by decide +kernel
theorem d_Mod_orderMade_73 : decode prog_9_method_48_code 73 = .ok (.iconst 0, 1) := by decide +kernel
theorem d_Mod_orderMade_74 : decode prog_9_method_48_code 74 = .ok (.iaload, 1) := by decide +kernel
theorem d_Mod_orderMade_75 : decode prog_9_method_48_code 75 = .ok (.i2l, 1) := by decide +kernel
theorem d_Mod_orderMade_76 : decode prog_9_method_48_code 76 = .ok (.aload_n 0, 1) := by decide +kernel
theorem d_Mod_orderMade_77 : decode prog_9_method_48_code 77 = .ok (.getfield 42, 3) := by decide +kernel
theorem d_Mod_orderMade_80 : decode prog_9_method_48_code 80 = .ok (.iconst 1, 1) := by decide +kernel
theorem d_Mod_orderMade_81 : decode prog_9_method_48_code 81 = .ok (.iaload, 1) := by decide +kernel
theorem d_Mod_orderMade_82 : decode prog_9_method_48_code 82 = .ok (.i2l, 1) := by decide +kernel
theorem d_Mod_orderMade_83 : decode prog_9_method_48_code 83 = .ok (.invokestatic 184, 3) := by decide +kernel
theorem d_Mod_orderMade_86 : decode prog_9_method_48_code 86 = .ok (.ireturn, 1) := by decide +kernel
abbrev M_Mod_compareKeys : MethodName × ByteArray × Nat × Option FieldType := (⟨"KeyCodecModel", "compareKeys", "(II)I"⟩, prog_9_method_49_code, 3, some .int)
theorem d_Mod_compareKeys_0 : decode prog_9_method_49_code 0 = .ok (.aload_n 0, 1) := by decide +kernel
theorem d_Mod_compareKeys_1 : decode prog_9_method_49_code 1 = .ok (.iconst 0, 1) := by decide +kernel
theorem d_Mod_compareKeys_2 : decode prog_9_method_49_code 2 = .ok (.putfield 55, 3) := by decide +kernel
theorem d_Mod_compareKeys_5 : decode prog_9_method_49_code 5 = .ok (.aload_n 0, 1) := by decide +kernel
theorem d_Mod_compareKeys_6 : decode prog_9_method_49_code 6 = .ok (.iload_n 1, 1) := by decide +kernel
theorem d_Mod_compareKeys_7 : decode prog_9_method_49_code 7 = .ok (.invokevirtual 177, 3) := by decide +kernel
theorem d_Mod_compareKeys_10 : decode prog_9_method_49_code 10 = .ok (.ifCond .eq 11, 3) := by decide +kernel
theorem d_Mod_compareKeys_13 : decode prog_9_method_49_code 13 = .ok (.aload_n 0, 1) := by decide +kernel
theorem d_Mod_compareKeys_14 : decode prog_9_method_49_code 14 = .ok (.iload_n 2, 1) := by decide +kernel
theorem d_Mod_compareKeys_15 : decode prog_9_method_49_code 15 = .ok (.invokevirtual 177, 3) := by decide +kernel
theorem d_Mod_compareKeys_18 : decode prog_9_method_49_code 18 = .ok (.ifCond .ne 6, 3) := by decide +kernel
theorem d_Mod_compareKeys_21 : decode prog_9_method_49_code 21 = .ok (.bipush (-2), 2) := by decide +kernel
theorem d_Mod_compareKeys_23 : decode prog_9_method_49_code 23 = .ok (.ireturn, 1) := by decide +kernel
theorem d_Mod_compareKeys_24 : decode prog_9_method_49_code 24 = .ok (.aload_n 0, 1) := by decide +kernel
theorem d_Mod_compareKeys_25 : decode prog_9_method_49_code 25 = .ok (.iconst 0, 1) := by decide +kernel
theorem d_Mod_compareKeys_26 : decode prog_9_method_49_code 26 = .ok (.iload_n 1, 1) := by decide +kernel
theorem d_Mod_compareKeys_27 : decode prog_9_method_49_code 27 = .ok (.iconst 1, 1) := by decide +kernel
theorem d_Mod_compareKeys_28 : decode prog_9_method_49_code 28 = .ok (.iadd, 1) := by decide +kernel
theorem d_Mod_compareKeys_29 : decode prog_9_method_49_code 29 = .ok (.invokevirtual 136, 3) := by decide +kernel
theorem d_Mod_compareKeys_32 : decode prog_9_method_49_code 32 = .ok (.aload_n 0, 1) := by decide +kernel
theorem d_Mod_compareKeys_33 : decode prog_9_method_49_code 33 = .ok (.iconst 1, 1) := by decide +kernel
theorem d_Mod_compareKeys_34 : decode prog_9_method_49_code 34 = .ok (.iload_n 2, 1) := by decide +kernel
theorem d_Mod_compareKeys_35 : decode prog_9_method_49_code 35 = .ok (.iconst 1, 1) := by decide +kernel
theorem d_Mod_compareKeys_36 : decode prog_9_method_49_code 36 = .ok (.iadd, 1) := by decide +kernel
theorem d_Mod_compareKeys_37 : decode prog_9_method_49_code 37 = .ok (.invokevirtual 136, 3) := by decide +kernel
theorem d_Mod_compareKeys_40 : decode prog_9_method_49_code 40 = .ok (.aload_n 0, 1) := by decide +kernel
theorem d_Mod_compareKeys_41 : decode prog_9_method_49_code 41 = .ok (.invokevirtual 201, 3) := by decide +kernel
theorem d_Mod_compareKeys_44 : decode prog_9_method_49_code 44 = .ok (.ireturn, 1) := by decide +kernel
abbrev M_Mod_rankOf : MethodName × ByteArray × Nat × Option FieldType := (⟨"KeyCodecModel", "rankOf", "(I)I"⟩, prog_9_method_50_code, 5, some .int)
theorem d_Mod_rankOf_0 : decode prog_9_method_50_code 0 = .ok (.iconst 0, 1) := by decide +kernel
theorem d_Mod_rankOf_1 : decode prog_9_method_50_code 1 = .ok (.istore_n 2, 1) := by decide +kernel
theorem d_Mod_rankOf_2 : decode prog_9_method_50_code 2 = .ok (.iconst 0, 1) := by decide +kernel
theorem d_Mod_rankOf_3 : decode prog_9_method_50_code 3 = .ok (.istore_n 3, 1) := by decide +kernel
theorem d_Mod_rankOf_4 : decode prog_9_method_50_code 4 = .ok (.iload_n 3, 1) := by decide +kernel
theorem d_Mod_rankOf_5 : decode prog_9_method_50_code 5 = .ok (.aload_n 0, 1) := by decide +kernel
theorem d_Mod_rankOf_6 : decode prog_9_method_50_code 6 = .ok (.getfield 69, 3) := by decide +kernel
theorem d_Mod_rankOf_9 : decode prog_9_method_50_code 9 = .ok (.if_icmp .ge 54, 3) := by decide +kernel
theorem d_Mod_rankOf_12 : decode prog_9_method_50_code 12 = .ok (.aload_n 0, 1) := by decide +kernel
theorem d_Mod_rankOf_13 : decode prog_9_method_50_code 13 = .ok (.iconst 0, 1) := by decide +kernel
theorem d_Mod_rankOf_14 : decode prog_9_method_50_code 14 = .ok (.iload_n 3, 1) := by decide +kernel
theorem d_Mod_rankOf_15 : decode prog_9_method_50_code 15 = .ok (.iconst 1, 1) := by decide +kernel
theorem d_Mod_rankOf_16 : decode prog_9_method_50_code 16 = .ok (.iadd, 1) := by decide +kernel
theorem d_Mod_rankOf_17 : decode prog_9_method_50_code 17 = .ok (.invokevirtual 136, 3) := by decide +kernel
theorem d_Mod_rankOf_20 : decode prog_9_method_50_code 20 = .ok (.aload_n 0, 1) := by decide +kernel
theorem d_Mod_rankOf_21 : decode prog_9_method_50_code 21 = .ok (.iconst 1, 1) := by decide +kernel
theorem d_Mod_rankOf_22 : decode prog_9_method_50_code 22 = .ok (.iload_n 1, 1) := by decide +kernel
theorem d_Mod_rankOf_23 : decode prog_9_method_50_code 23 = .ok (.iconst 1, 1) := by decide +kernel
theorem d_Mod_rankOf_24 : decode prog_9_method_50_code 24 = .ok (.iadd, 1) := by decide +kernel
theorem d_Mod_rankOf_25 : decode prog_9_method_50_code 25 = .ok (.invokevirtual 136, 3) := by decide +kernel
theorem d_Mod_rankOf_28 : decode prog_9_method_50_code 28 = .ok (.aload_n 0, 1) := by decide +kernel
theorem d_Mod_rankOf_29 : decode prog_9_method_50_code 29 = .ok (.invokevirtual 201, 3) := by decide +kernel
theorem d_Mod_rankOf_32 : decode prog_9_method_50_code 32 = .ok (.istore 4, 2) := by decide +kernel
theorem d_Mod_rankOf_34 : decode prog_9_method_50_code 34 = .ok (.iload_n 2, 1) := by decide +kernel
theorem d_Mod_rankOf_35 : decode prog_9_method_50_code 35 = .ok (.iload 4, 2) := by decide +kernel
theorem d_Mod_rankOf_37 : decode prog_9_method_50_code 37 = .ok (.ifCond .lt 13, 3) := by decide +kernel
theorem d_Mod_rankOf_40 : decode prog_9_method_50_code 40 = .ok (.iload 4, 2) := by decide +kernel
theorem d_Mod_rankOf_42 : decode prog_9_method_50_code 42 = .ok (.ifCond .ne 12, 3) := by decide +kernel
theorem d_Mod_rankOf_45 : decode prog_9_method_50_code 45 = .ok (.iload_n 3, 1) := by decide +kernel
theorem d_Mod_rankOf_46 : decode prog_9_method_50_code 46 = .ok (.iload_n 1, 1) := by decide +kernel
theorem d_Mod_rankOf_47 : decode prog_9_method_50_code 47 = .ok (.if_icmp .ge 7, 3) := by decide +kernel
theorem d_Mod_rankOf_50 : decode prog_9_method_50_code 50 = .ok (.iconst 1, 1) := by decide +kernel
theorem d_Mod_rankOf_51 : decode prog_9_method_50_code 51 = .ok (.goto 4, 3) := by decide +kernel
theorem d_Mod_rankOf_54 : decode prog_9_method_50_code 54 = .ok (.iconst 0, 1) := by decide +kernel
theorem d_Mod_rankOf_55 : decode prog_9_method_50_code 55 = .ok (.iadd, 1) := by decide +kernel
theorem d_Mod_rankOf_56 : decode prog_9_method_50_code 56 = .ok (.istore_n 2, 1) := by decide +kernel
theorem d_Mod_rankOf_57 : decode prog_9_method_50_code 57 = .ok (.iinc 3 1, 3) := by decide +kernel
theorem d_Mod_rankOf_60 : decode prog_9_method_50_code 60 = .ok (.goto (-56), 3) := by decide +kernel
theorem d_Mod_rankOf_63 : decode prog_9_method_50_code 63 = .ok (.iload_n 2, 1) := by decide +kernel
theorem d_Mod_rankOf_64 : decode prog_9_method_50_code 64 = .ok (.ireturn, 1) := by decide +kernel
abbrev M_Mod_rank : MethodName × ByteArray × Nat × Option FieldType := (⟨"KeyCodecModel", "rank", "(I)I"⟩, prog_9_method_51_code, 2, some .int)
theorem d_Mod_rank_0 : decode prog_9_method_51_code 0 = .ok (.aload_n 0, 1) := by decide +kernel
theorem d_Mod_rank_1 : decode prog_9_method_51_code 1 = .ok (.iconst 0, 1) := by decide +kernel
theorem d_Mod_rank_2 : decode prog_9_method_51_code 2 = .ok (.putfield 55, 3) := by decide +kernel
theorem d_Mod_rank_5 : decode prog_9_method_51_code 5 = .ok (.aload_n 0, 1) := by decide +kernel
theorem d_Mod_rank_6 : decode prog_9_method_51_code 6 = .ok (.iload_n 1, 1) := by decide +kernel
theorem d_Mod_rank_7 : decode prog_9_method_51_code 7 = .ok (.invokevirtual 177, 3) := by decide +kernel
theorem d_Mod_rank_10 : decode prog_9_method_51_code 10 = .ok (.ifCond .eq 11, 3) := by decide +kernel
theorem d_Mod_rank_13 : decode prog_9_method_51_code 13 = .ok (.aload_n 0, 1) := by decide +kernel
theorem d_Mod_rank_14 : decode prog_9_method_51_code 14 = .ok (.iload_n 1, 1) := by decide +kernel
theorem d_Mod_rank_15 : decode prog_9_method_51_code 15 = .ok (.invokevirtual 205, 3) := by decide +kernel
theorem d_Mod_rank_18 : decode prog_9_method_51_code 18 = .ok (.goto 4, 3) := by decide +kernel
theorem d_Mod_rank_21 : decode prog_9_method_51_code 21 = .ok (.iconst (-1), 1) := by decide +kernel
theorem d_Mod_rank_22 : decode prog_9_method_51_code 22 = .ok (.ireturn, 1) := by decide +kernel
abbrev M_Mod_ofRank : MethodName × ByteArray × Nat × Option FieldType := (⟨"KeyCodecModel", "ofRank", "(I)I"⟩, prog_9_method_52_code, 3, some .int)
theorem d_Mod_ofRank_0 : decode prog_9_method_52_code 0 = .ok (.iconst 0, 1) := by decide +kernel
theorem d_Mod_ofRank_1 : decode prog_9_method_52_code 1 = .ok (.istore_n 2, 1) := by decide +kernel
theorem d_Mod_ofRank_2 : decode prog_9_method_52_code 2 = .ok (.iload_n 2, 1) := by decide +kernel
theorem d_Mod_ofRank_3 : decode prog_9_method_52_code 3 = .ok (.aload_n 0, 1) := by decide +kernel
theorem d_Mod_ofRank_4 : decode prog_9_method_52_code 4 = .ok (.getfield 69, 3) := by decide +kernel
theorem d_Mod_ofRank_7 : decode prog_9_method_52_code 7 = .ok (.if_icmp .ge 20, 3) := by decide +kernel
theorem d_Mod_ofRank_10 : decode prog_9_method_52_code 10 = .ok (.aload_n 0, 1) := by decide +kernel
theorem d_Mod_ofRank_11 : decode prog_9_method_52_code 11 = .ok (.iload_n 2, 1) := by decide +kernel
theorem d_Mod_ofRank_12 : decode prog_9_method_52_code 12 = .ok (.invokevirtual 205, 3) := by decide +kernel
theorem d_Mod_ofRank_15 : decode prog_9_method_52_code 15 = .ok (.iload_n 1, 1) := by decide +kernel
theorem d_Mod_ofRank_16 : decode prog_9_method_52_code 16 = .ok (.if_icmp .ne 5, 3) := by decide +kernel
theorem d_Mod_ofRank_19 : decode prog_9_method_52_code 19 = .ok (.iload_n 2, 1) := by decide +kernel
theorem d_Mod_ofRank_20 : decode prog_9_method_52_code 20 = .ok (.ireturn, 1) := by decide +kernel
theorem d_Mod_ofRank_21 : decode prog_9_method_52_code 21 = .ok (.iinc 2 1, 3) := by decide +kernel
theorem d_Mod_ofRank_24 : decode prog_9_method_52_code 24 = .ok (.goto (-22), 3) := by decide +kernel
theorem d_Mod_ofRank_27 : decode prog_9_method_52_code 27 = .ok (.iconst (-1), 1) := by decide +kernel
theorem d_Mod_ofRank_28 : decode prog_9_method_52_code 28 = .ok (.ireturn, 1) := by decide +kernel
abbrev M_Mod_shared : MethodName × ByteArray × Nat × Option FieldType := (⟨"KeyCodecModel", "shared", "(I)I"⟩, prog_9_method_53_code, 5, some .int)
theorem d_Mod_shared_0 : decode prog_9_method_53_code 0 = .ok (.aload_n 0, 1) := by decide +kernel
theorem d_Mod_shared_1 : decode prog_9_method_53_code 1 = .ok (.iconst 0, 1) := by decide +kernel
theorem d_Mod_shared_2 : decode prog_9_method_53_code 2 = .ok (.putfield 55, 3) := by decide +kernel
theorem d_Mod_shared_5 : decode prog_9_method_53_code 5 = .ok (.iload_n 1, 1) := by decide +kernel
theorem d_Mod_shared_6 : decode prog_9_method_53_code 6 = .ok (.ifCond .lt 11, 3) := by decide +kernel
theorem d_Mod_shared_9 : decode prog_9_method_53_code 9 = .ok (.iload_n 1, 1) := by decide +kernel
theorem d_Mod_shared_10 : decode prog_9_method_53_code 10 = .ok (.aload_n 0, 1) := by decide +kernel
theorem d_Mod_shared_11 : decode prog_9_method_53_code 11 = .ok (.getfield 69, 3) := by decide +kernel
theorem d_Mod_shared_14 : decode prog_9_method_53_code 14 = .ok (.if_icmp .lt 5, 3) := by decide +kernel
theorem d_Mod_shared_17 : decode prog_9_method_53_code 17 = .ok (.iconst (-1), 1) := by decide +kernel
theorem d_Mod_shared_18 : decode prog_9_method_53_code 18 = .ok (.ireturn, 1) := by decide +kernel
theorem d_Mod_shared_19 : decode prog_9_method_53_code 19 = .ok (.iload_n 1, 1) := by decide +kernel
theorem d_Mod_shared_20 : decode prog_9_method_53_code 20 = .ok (.ifCond .ne 5, 3) := by decide +kernel
theorem d_Mod_shared_23 : decode prog_9_method_53_code 23 = .ok (.iconst 0, 1) := by decide +kernel
theorem d_Mod_shared_24 : decode prog_9_method_53_code 24 = .ok (.ireturn, 1) := by decide +kernel
theorem d_Mod_shared_25 : decode prog_9_method_53_code 25 = .ok (.aload_n 0, 1) := by decide +kernel
theorem d_Mod_shared_26 : decode prog_9_method_53_code 26 = .ok (.iload_n 1, 1) := by decide +kernel
theorem d_Mod_shared_27 : decode prog_9_method_53_code 27 = .ok (.iconst 1, 1) := by decide +kernel
theorem d_Mod_shared_28 : decode prog_9_method_53_code 28 = .ok (.isub, 1) := by decide +kernel
theorem d_Mod_shared_29 : decode prog_9_method_53_code 29 = .ok (.invokevirtual 208, 3) := by decide +kernel
theorem d_Mod_shared_32 : decode prog_9_method_53_code 32 = .ok (.istore_n 2, 1) := by decide +kernel
theorem d_Mod_shared_33 : decode prog_9_method_53_code 33 = .ok (.aload_n 0, 1) := by decide +kernel
theorem d_Mod_shared_34 : decode prog_9_method_53_code 34 = .ok (.iload_n 1, 1) := by decide +kernel
theorem d_Mod_shared_35 : decode prog_9_method_53_code 35 = .ok (.invokevirtual 208, 3) := by decide +kernel
theorem d_Mod_shared_38 : decode prog_9_method_53_code 38 = .ok (.istore_n 3, 1) := by decide +kernel
theorem d_Mod_shared_39 : decode prog_9_method_53_code 39 = .ok (.aload_n 0, 1) := by decide +kernel
theorem d_Mod_shared_40 : decode prog_9_method_53_code 40 = .ok (.iconst 0, 1) := by decide +kernel
theorem d_Mod_shared_41 : decode prog_9_method_53_code 41 = .ok (.iload_n 2, 1) := by decide +kernel
theorem d_Mod_shared_42 : decode prog_9_method_53_code 42 = .ok (.iconst 1, 1) := by decide +kernel
theorem d_Mod_shared_43 : decode prog_9_method_53_code 43 = .ok (.iadd, 1) := by decide +kernel
theorem d_Mod_shared_44 : decode prog_9_method_53_code 44 = .ok (.invokevirtual 136, 3) := by decide +kernel
theorem d_Mod_shared_47 : decode prog_9_method_53_code 47 = .ok (.aload_n 0, 1) := by decide +kernel
theorem d_Mod_shared_48 : decode prog_9_method_53_code 48 = .ok (.iconst 1, 1) := by decide +kernel
theorem d_Mod_shared_49 : decode prog_9_method_53_code 49 = .ok (.iload_n 3, 1) := by decide +kernel
theorem d_Mod_shared_50 : decode prog_9_method_53_code 50 = .ok (.iconst 1, 1) := by decide +kernel
theorem d_Mod_shared_51 : decode prog_9_method_53_code 51 = .ok (.iadd, 1) := by decide +kernel
theorem d_Mod_shared_52 : decode prog_9_method_53_code 52 = .ok (.invokevirtual 136, 3) := by decide +kernel
theorem d_Mod_shared_55 : decode prog_9_method_53_code 55 = .ok (.iconst 0, 1) := by decide +kernel
theorem d_Mod_shared_56 : decode prog_9_method_53_code 56 = .ok (.istore 4, 2) := by decide +kernel
theorem d_Mod_shared_58 : decode prog_9_method_53_code 58 = .ok (.iload 4, 2) := by decide +kernel
theorem d_Mod_shared_60 : decode prog_9_method_53_code 60 = .ok (.aload_n 0, 1) := by decide +kernel
theorem d_Mod_shared_61 : decode prog_9_method_53_code 61 = .ok (.getfield 42, 3) := by decide +kernel
theorem d_Mod_shared_64 : decode prog_9_method_53_code 64 = .ok (.iconst 0, 1) := by decide +kernel
theorem d_Mod_shared_65 : decode prog_9_method_53_code 65 = .ok (.iaload, 1) := by decide +kernel
theorem d_Mod_shared_66 : decode prog_9_method_53_code 66 = .ok (.if_icmp .ge 41, 3) := by decide +kernel
theorem d_Mod_shared_69 : decode prog_9_method_53_code 69 = .ok (.iload 4, 2) := by decide +kernel
theorem d_Mod_shared_71 : decode prog_9_method_53_code 71 = .ok (.aload_n 0, 1) := by decide +kernel
theorem d_Mod_shared_72 : decode prog_9_method_53_code 72 = .ok (.getfield 42, 3) := by decide +kernel
theorem d_Mod_shared_75 : decode prog_9_method_53_code 75 = .ok (.iconst 1, 1) := by decide +kernel
theorem d_Mod_shared_76 : decode prog_9_method_53_code 76 = .ok (.iaload, 1) := by decide +kernel
theorem d_Mod_shared_77 : decode prog_9_method_53_code 77 = .ok (.if_icmp .ge 30, 3) := by decide +kernel
theorem d_Mod_shared_80 : decode prog_9_method_53_code 80 = .ok (.aload_n 0, 1) := by decide +kernel
theorem d_Mod_shared_81 : decode prog_9_method_53_code 81 = .ok (.getfield 36, 3) := by decide +kernel
theorem d_Mod_shared_84 : decode prog_9_method_53_code 84 = .ok (.iload 4, 2) := by decide +kernel
theorem d_Mod_shared_86 : decode prog_9_method_53_code 86 = .ok (.iaload, 1) := by decide +kernel
theorem d_Mod_shared_87 : decode prog_9_method_53_code 87 = .ok (.aload_n 0, 1) := by decide +kernel
theorem d_Mod_shared_88 : decode prog_9_method_53_code 88 = .ok (.getfield 36, 3) := by decide +kernel
theorem d_Mod_shared_91 : decode prog_9_method_53_code 91 = .ok (.sipush 200, 3) := by decide +kernel
theorem d_Mod_shared_94 : decode prog_9_method_53_code 94 = .ok (.iload 4, 2) := by decide +kernel
theorem d_Mod_shared_96 : decode prog_9_method_53_code 96 = .ok (.iadd, 1) := by decide +kernel
theorem d_Mod_shared_97 : decode prog_9_method_53_code 97 = .ok (.iaload, 1) := by decide +kernel
theorem d_Mod_shared_98 : decode prog_9_method_53_code 98 = .ok (.if_icmp .ne 9, 3) := by decide +kernel
theorem d_Mod_shared_101 : decode prog_9_method_53_code 101 = .ok (.iinc 4 1, 3) := by decide +kernel
theorem d_Mod_shared_104 : decode prog_9_method_53_code 104 = .ok (.goto (-46), 3) := by decide +kernel
theorem d_Mod_shared_107 : decode prog_9_method_53_code 107 = .ok (.iload 4, 2) := by decide +kernel
theorem d_Mod_shared_109 : decode prog_9_method_53_code 109 = .ok (.ireturn, 1) := by decide +kernel
abbrev M_Mod_bounds : MethodName × ByteArray × Nat × Option FieldType := (⟨"KeyCodecModel", "bounds", "(II)Z"⟩, prog_9_method_54_code, 4, some .boolean)
theorem d_Mod_bounds_0 : decode prog_9_method_54_code 0 = .ok (.aload_n 0, 1) := by decide +kernel
theorem d_Mod_bounds_1 : decode prog_9_method_54_code 1 = .ok (.iconst 0, 1) := by decide +kernel
theorem d_Mod_bounds_2 : decode prog_9_method_54_code 2 = .ok (.putfield 55, 3) := by decide +kernel
theorem d_Mod_bounds_5 : decode prog_9_method_54_code 5 = .ok (.aload_n 0, 1) := by decide +kernel
theorem d_Mod_bounds_6 : decode prog_9_method_54_code 6 = .ok (.iload_n 1, 1) := by decide +kernel
theorem d_Mod_bounds_7 : decode prog_9_method_54_code 7 = .ok (.invokevirtual 177, 3) := by decide +kernel
theorem d_Mod_bounds_10 : decode prog_9_method_54_code 10 = .ok (.ifCond .eq 15, 3) := by decide +kernel
theorem d_Mod_bounds_13 : decode prog_9_method_54_code 13 = .ok (.iload_n 2, 1) := by decide +kernel
theorem d_Mod_bounds_14 : decode prog_9_method_54_code 14 = .ok (.ifCond .lt 11, 3) := by decide +kernel
theorem d_Mod_bounds_17 : decode prog_9_method_54_code 17 = .ok (.iload_n 2, 1) := by decide +kernel
theorem d_Mod_bounds_18 : decode prog_9_method_54_code 18 = .ok (.aload_n 0, 1) := by decide +kernel
theorem d_Mod_bounds_19 : decode prog_9_method_54_code 19 = .ok (.getfield 62, 3) := by decide +kernel
theorem d_Mod_bounds_22 : decode prog_9_method_54_code 22 = .ok (.if_icmp .le 5, 3) := by decide +kernel
theorem d_Mod_bounds_25 : decode prog_9_method_54_code 25 = .ok (.iconst 0, 1) := by decide +kernel
theorem d_Mod_bounds_26 : decode prog_9_method_54_code 26 = .ok (.ireturn, 1) := by decide +kernel
theorem d_Mod_bounds_27 : decode prog_9_method_54_code 27 = .ok (.aload_n 0, 1) := by decide +kernel
theorem d_Mod_bounds_28 : decode prog_9_method_54_code 28 = .ok (.iconst 0, 1) := by decide +kernel
theorem d_Mod_bounds_29 : decode prog_9_method_54_code 29 = .ok (.iload_n 1, 1) := by decide +kernel
theorem d_Mod_bounds_30 : decode prog_9_method_54_code 30 = .ok (.iconst 1, 1) := by decide +kernel
theorem d_Mod_bounds_31 : decode prog_9_method_54_code 31 = .ok (.iadd, 1) := by decide +kernel
theorem d_Mod_bounds_32 : decode prog_9_method_54_code 32 = .ok (.invokevirtual 136, 3) := by decide +kernel
theorem d_Mod_bounds_35 : decode prog_9_method_54_code 35 = .ok (.aload_n 0, 1) := by decide +kernel
theorem d_Mod_bounds_36 : decode prog_9_method_54_code 36 = .ok (.aload_n 0, 1) := by decide +kernel
theorem d_Mod_bounds_37 : decode prog_9_method_54_code 37 = .ok (.getfield 39, 3) := by decide +kernel
theorem d_Mod_bounds_40 : decode prog_9_method_54_code 40 = .ok (.iload_n 2, 1) := by decide +kernel
theorem d_Mod_bounds_41 : decode prog_9_method_54_code 41 = .ok (.iaload, 1) := by decide +kernel
theorem d_Mod_bounds_42 : decode prog_9_method_54_code 42 = .ok (.putfield 211, 3) := by decide +kernel
theorem d_Mod_bounds_45 : decode prog_9_method_54_code 45 = .ok (.iconst 0, 1) := by decide +kernel
theorem d_Mod_bounds_46 : decode prog_9_method_54_code 46 = .ok (.istore_n 3, 1) := by decide +kernel
theorem d_Mod_bounds_47 : decode prog_9_method_54_code 47 = .ok (.iload_n 3, 1) := by decide +kernel
theorem d_Mod_bounds_48 : decode prog_9_method_54_code 48 = .ok (.aload_n 0, 1) := by decide +kernel
theorem d_Mod_bounds_49 : decode prog_9_method_54_code 49 = .ok (.getfield 211, 3) := by decide +kernel
theorem d_Mod_bounds_52 : decode prog_9_method_54_code 52 = .ok (.if_icmp .ge 21, 3) := by decide +kernel
theorem d_Mod_bounds_55 : decode prog_9_method_54_code 55 = .ok (.aload_n 0, 1) := by decide +kernel
theorem d_Mod_bounds_56 : decode prog_9_method_54_code 56 = .ok (.getfield 45, 3) := by decide +kernel
theorem d_Mod_bounds_59 : decode prog_9_method_54_code 59 = .ok (.iload_n 3, 1) := by decide +kernel
theorem d_Mod_bounds_60 : decode prog_9_method_54_code 60 = .ok (.aload_n 0, 1) := by decide +kernel
theorem d_Mod_bounds_61 : decode prog_9_method_54_code 61 = .ok (.getfield 36, 3) := by decide +kernel
theorem d_Mod_bounds_64 : decode prog_9_method_54_code 64 = .ok (.iload_n 3, 1) := by decide +kernel
theorem d_Mod_bounds_65 : decode prog_9_method_54_code 65 = .ok (.iaload, 1) := by decide +kernel
theorem d_Mod_bounds_66 : decode prog_9_method_54_code 66 = .ok (.iastore, 1) := by decide +kernel
theorem d_Mod_bounds_67 : decode prog_9_method_54_code 67 = .ok (.iinc 3 1, 3) := by decide +kernel
theorem d_Mod_bounds_70 : decode prog_9_method_54_code 70 = .ok (.goto (-23), 3) := by decide +kernel
theorem d_Mod_bounds_73 : decode prog_9_method_54_code 73 = .ok (.aload_n 0, 1) := by decide +kernel
theorem d_Mod_bounds_74 : decode prog_9_method_54_code 74 = .ok (.aload_n 0, 1) := by decide +kernel
theorem d_Mod_bounds_75 : decode prog_9_method_54_code 75 = .ok (.getfield 211, 3) := by decide +kernel
theorem d_Mod_bounds_78 : decode prog_9_method_54_code 78 = .ok (.putfield 51, 3) := by decide +kernel
theorem d_Mod_bounds_81 : decode prog_9_method_54_code 81 = .ok (.aload_n 0, 1) := by decide +kernel
theorem d_Mod_bounds_82 : decode prog_9_method_54_code 82 = .ok (.getfield 51, 3) := by decide +kernel
theorem d_Mod_bounds_85 : decode prog_9_method_54_code 85 = .ok (.ifCond .le 33, 3) := by decide +kernel
theorem d_Mod_bounds_88 : decode prog_9_method_54_code 88 = .ok (.aload_n 0, 1) := by decide +kernel
theorem d_Mod_bounds_89 : decode prog_9_method_54_code 89 = .ok (.getfield 45, 3) := by decide +kernel
theorem d_Mod_bounds_92 : decode prog_9_method_54_code 92 = .ok (.aload_n 0, 1) := by decide +kernel
theorem d_Mod_bounds_93 : decode prog_9_method_54_code 93 = .ok (.getfield 51, 3) := by decide +kernel
theorem d_Mod_bounds_96 : decode prog_9_method_54_code 96 = .ok (.iconst 1, 1) := by decide +kernel
theorem d_Mod_bounds_97 : decode prog_9_method_54_code 97 = .ok (.isub, 1) := by decide +kernel
theorem d_Mod_bounds_98 : decode prog_9_method_54_code 98 = .ok (.iaload, 1) := by decide +kernel
theorem d_Mod_bounds_99 : decode prog_9_method_54_code 99 = .ok (.sipush 255, 3) := by decide +kernel
theorem d_Mod_bounds_102 : decode prog_9_method_54_code 102 = .ok (.if_icmp .ne 16, 3) := by decide +kernel
theorem d_Mod_bounds_105 : decode prog_9_method_54_code 105 = .ok (.aload_n 0, 1) := by decide +kernel
theorem d_Mod_bounds_106 : decode prog_9_method_54_code 106 = .ok (.dup, 1) := by decide +kernel
theorem d_Mod_bounds_107 : decode prog_9_method_54_code 107 = .ok (.getfield 51, 3) := by decide +kernel
theorem d_Mod_bounds_110 : decode prog_9_method_54_code 110 = .ok (.iconst 1, 1) := by decide +kernel
theorem d_Mod_bounds_111 : decode prog_9_method_54_code 111 = .ok (.isub, 1) := by decide +kernel
theorem d_Mod_bounds_112 : decode prog_9_method_54_code 112 = .ok (.putfield 51, 3) := by decide +kernel
theorem d_Mod_bounds_115 : decode prog_9_method_54_code 115 = .ok (.goto (-34), 3) := by decide +kernel
theorem d_Mod_bounds_118 : decode prog_9_method_54_code 118 = .ok (.iconst 0, 1) := by decide +kernel
theorem d_Mod_bounds_119 : decode prog_9_method_54_code 119 = .ok (.istore_n 3, 1) := by decide +kernel
theorem d_Mod_bounds_120 : decode prog_9_method_54_code 120 = .ok (.iload_n 3, 1) := by decide +kernel
theorem d_Mod_bounds_121 : decode prog_9_method_54_code 121 = .ok (.aload_n 0, 1) := by decide +kernel
theorem d_Mod_bounds_122 : decode prog_9_method_54_code 122 = .ok (.getfield 51, 3) := by decide +kernel
theorem d_Mod_bounds_125 : decode prog_9_method_54_code 125 = .ok (.if_icmp .ge 37, 3) := by decide +kernel
theorem d_Mod_bounds_128 : decode prog_9_method_54_code 128 = .ok (.aload_n 0, 1) := by decide +kernel
theorem d_Mod_bounds_129 : decode prog_9_method_54_code 129 = .ok (.getfield 48, 3) := by decide +kernel
theorem d_Mod_bounds_132 : decode prog_9_method_54_code 132 = .ok (.iload_n 3, 1) := by decide +kernel
theorem d_Mod_bounds_133 : decode prog_9_method_54_code 133 = .ok (.aload_n 0, 1) := by decide +kernel
theorem d_Mod_bounds_134 : decode prog_9_method_54_code 134 = .ok (.getfield 45, 3) := by decide +kernel
theorem d_Mod_bounds_137 : decode prog_9_method_54_code 137 = .ok (.iload_n 3, 1) := by decide +kernel
theorem d_Mod_bounds_138 : decode prog_9_method_54_code 138 = .ok (.iaload, 1) := by decide +kernel
theorem d_Mod_bounds_139 : decode prog_9_method_54_code 139 = .ok (.iload_n 3, 1) := by decide +kernel
theorem d_Mod_bounds_140 : decode prog_9_method_54_code 140 = .ok (.aload_n 0, 1) := by decide +kernel
theorem d_Mod_bounds_141 : decode prog_9_method_54_code 141 = .ok (.getfield 51, 3) := by decide +kernel
theorem d_Mod_bounds_144 : decode prog_9_method_54_code 144 = .ok (.iconst 1, 1) := by decide +kernel
theorem d_Mod_bounds_145 : decode prog_9_method_54_code 145 = .ok (.isub, 1) := by decide +kernel
theorem d_Mod_bounds_146 : decode prog_9_method_54_code 146 = .ok (.if_icmp .ne 7, 3) := by decide +kernel
theorem d_Mod_bounds_149 : decode prog_9_method_54_code 149 = .ok (.iconst 1, 1) := by decide +kernel
theorem d_Mod_bounds_150 : decode prog_9_method_54_code 150 = .ok (.goto 4, 3) := by decide +kernel
theorem d_Mod_bounds_153 : decode prog_9_method_54_code 153 = .ok (.iconst 0, 1) := by decide +kernel
theorem d_Mod_bounds_154 : decode prog_9_method_54_code 154 = .ok (.iadd, 1) := by decide +kernel
theorem d_Mod_bounds_155 : decode prog_9_method_54_code 155 = .ok (.iastore, 1) := by decide +kernel
theorem d_Mod_bounds_156 : decode prog_9_method_54_code 156 = .ok (.iinc 3 1, 3) := by decide +kernel
theorem d_Mod_bounds_159 : decode prog_9_method_54_code 159 = .ok (.goto (-39), 3) := by decide +kernel
theorem d_Mod_bounds_162 : decode prog_9_method_54_code 162 = .ok (.aload_n 0, 1) := by decide +kernel
theorem d_Mod_bounds_163 : decode prog_9_method_54_code 163 = .ok (.getfield 51, 3) := by decide +kernel
theorem d_Mod_bounds_166 : decode prog_9_method_54_code 166 = .ok (.ifCond .ne 8, 3) := by decide +kernel
theorem d_Mod_bounds_169 : decode prog_9_method_54_code 169 = .ok (.aload_n 0, 1) := by decide +kernel
theorem d_Mod_bounds_170 : decode prog_9_method_54_code 170 = .ok (.iconst (-1), 1) := by decide +kernel
theorem d_Mod_bounds_171 : decode prog_9_method_54_code 171 = .ok (.putfield 51, 3) := by decide +kernel
theorem d_Mod_bounds_174 : decode prog_9_method_54_code 174 = .ok (.iconst 1, 1) := by decide +kernel
theorem d_Mod_bounds_175 : decode prog_9_method_54_code 175 = .ok (.ireturn, 1) := by decide +kernel
abbrev M_Mod_extend : MethodName × ByteArray × Nat × Option FieldType := (⟨"KeyCodecModel", "extend", "(ZII)V"⟩, prog_9_method_55_code, 5, none)
theorem d_Mod_extend_0 : decode prog_9_method_55_code 0 = .ok (.iload_n 2, 1) := by decide +kernel
theorem d_Mod_extend_1 : decode prog_9_method_55_code 1 = .ok (.istore 4, 2) := by decide +kernel
theorem d_Mod_extend_3 : decode prog_9_method_55_code 3 = .ok (.iload 4, 2) := by decide +kernel
theorem d_Mod_extend_5 : decode prog_9_method_55_code 5 = .ok (.iload_n 3, 1) := by decide +kernel
theorem d_Mod_extend_6 : decode prog_9_method_55_code 6 = .ok (.if_icmp .ge 68, 3) := by decide +kernel
theorem d_Mod_extend_9 : decode prog_9_method_55_code 9 = .ok (.iload_n 1, 1) := by decide +kernel
theorem d_Mod_extend_10 : decode prog_9_method_55_code 10 = .ok (.ifCond .eq 32, 3) := by decide +kernel
theorem d_Mod_extend_13 : decode prog_9_method_55_code 13 = .ok (.aload_n 0, 1) := by decide +kernel
theorem d_Mod_extend_14 : decode prog_9_method_55_code 14 = .ok (.getfield 45, 3) := by decide +kernel
theorem d_Mod_extend_17 : decode prog_9_method_55_code 17 = .ok (.aload_n 0, 1) := by decide +kernel
theorem d_Mod_extend_18 : decode prog_9_method_55_code 18 = .ok (.getfield 211, 3) := by decide +kernel
theorem d_Mod_extend_21 : decode prog_9_method_55_code 21 = .ok (.aload_n 0, 1) := by decide +kernel
theorem d_Mod_extend_22 : decode prog_9_method_55_code 22 = .ok (.getfield 36, 3) := by decide +kernel
theorem d_Mod_extend_25 : decode prog_9_method_55_code 25 = .ok (.iload 4, 2) := by decide +kernel
theorem d_Mod_extend_27 : decode prog_9_method_55_code 27 = .ok (.iaload, 1) := by decide +kernel
theorem d_Mod_extend_28 : decode prog_9_method_55_code 28 = .ok (.iastore, 1) := by decide +kernel
theorem d_Mod_extend_29 : decode prog_9_method_55_code 29 = .ok (.aload_n 0, 1) := by decide +kernel
theorem d_Mod_extend_30 : decode prog_9_method_55_code 30 = .ok (.dup, 1) := by decide +kernel
theorem d_Mod_extend_31 : decode prog_9_method_55_code 31 = .ok (.getfield 211, 3) := by decide +kernel
theorem d_Mod_extend_34 : decode prog_9_method_55_code 34 = .ok (.iconst 1, 1) := by decide +kernel
theorem d_Mod_extend_35 : decode prog_9_method_55_code 35 = .ok (.iadd, 1) := by decide +kernel
theorem d_Mod_extend_36 : decode prog_9_method_55_code 36 = .ok (.putfield 211, 3) := by decide +kernel
theorem d_Mod_extend_39 : decode prog_9_method_55_code 39 = .ok (.goto 29, 3) := by decide +kernel
theorem d_Mod_extend_42 : decode prog_9_method_55_code 42 = .ok (.aload_n 0, 1) := by decide +kernel
theorem d_Mod_extend_43 : decode prog_9_method_55_code 43 = .ok (.getfield 48, 3) := by decide +kernel
theorem d_Mod_extend_46 : decode prog_9_method_55_code 46 = .ok (.aload_n 0, 1) := by decide +kernel
theorem d_Mod_extend_47 : decode prog_9_method_55_code 47 = .ok (.getfield 51, 3) := by decide +kernel
theorem d_Mod_extend_50 : decode prog_9_method_55_code 50 = .ok (.aload_n 0, 1) := by decide +kernel
theorem d_Mod_extend_51 : decode prog_9_method_55_code 51 = .ok (.getfield 36, 3) := by decide +kernel
theorem d_Mod_extend_54 : decode prog_9_method_55_code 54 = .ok (.iload 4, 2) := by decide +kernel
theorem d_Mod_extend_56 : decode prog_9_method_55_code 56 = .ok (.iaload, 1) := by decide +kernel
theorem d_Mod_extend_57 : decode prog_9_method_55_code 57 = .ok (.iastore, 1) := by decide +kernel
theorem d_Mod_extend_58 : decode prog_9_method_55_code 58 = .ok (.aload_n 0, 1) := by decide +kernel
theorem d_Mod_extend_59 : decode prog_9_method_55_code 59 = .ok (.dup, 1) := by decide +kernel
theorem d_Mod_extend_60 : decode prog_9_method_55_code 60 = .ok (.getfield 51, 3) := by decide +kernel
theorem d_Mod_extend_63 : decode prog_9_method_55_code 63 = .ok (.iconst 1, 1) := by decide +kernel
theorem d_Mod_extend_64 : decode prog_9_method_55_code 64 = .ok (.iadd, 1) := by decide +kernel
theorem d_Mod_extend_65 : decode prog_9_method_55_code 65 = .ok (.putfield 51, 3) := by decide +kernel
theorem d_Mod_extend_68 : decode prog_9_method_55_code 68 = .ok (.iinc 4 1, 3) := by decide +kernel
theorem d_Mod_extend_71 : decode prog_9_method_55_code 71 = .ok (.goto (-68), 3) := by decide +kernel
theorem d_Mod_extend_74 : decode prog_9_method_55_code 74 = .ok (.return_, 1) := by decide +kernel
abbrev M_Mod_between : MethodName × ByteArray × Nat × Option FieldType := (⟨"KeyCodecModel", "between", "(IIII)Z"⟩, prog_9_method_56_code, 5, some .boolean)
theorem d_Mod_between_0 : decode prog_9_method_56_code 0 = .ok (.aload_n 0, 1) := by decide +kernel
theorem d_Mod_between_1 : decode prog_9_method_56_code 1 = .ok (.iconst 0, 1) := by decide +kernel
theorem d_Mod_between_2 : decode prog_9_method_56_code 2 = .ok (.putfield 55, 3) := by decide +kernel
theorem d_Mod_between_5 : decode prog_9_method_56_code 5 = .ok (.aload_n 0, 1) := by decide +kernel
theorem d_Mod_between_6 : decode prog_9_method_56_code 6 = .ok (.iload_n 1, 1) := by decide +kernel
theorem d_Mod_between_7 : decode prog_9_method_56_code 7 = .ok (.invokevirtual 177, 3) := by decide +kernel
theorem d_Mod_between_10 : decode prog_9_method_56_code 10 = .ok (.ifCond .eq 32, 3) := by decide +kernel
theorem d_Mod_between_13 : decode prog_9_method_56_code 13 = .ok (.aload_n 0, 1) := by decide +kernel
theorem d_Mod_between_14 : decode prog_9_method_56_code 14 = .ok (.iload_n 3, 1) := by decide +kernel
theorem d_Mod_between_15 : decode prog_9_method_56_code 15 = .ok (.invokevirtual 177, 3) := by decide +kernel
theorem d_Mod_between_18 : decode prog_9_method_56_code 18 = .ok (.ifCond .eq 24, 3) := by decide +kernel
theorem d_Mod_between_21 : decode prog_9_method_56_code 21 = .ok (.aload_n 0, 1) := by decide +kernel
theorem d_Mod_between_22 : decode prog_9_method_56_code 22 = .ok (.iload 4, 2) := by decide +kernel
theorem d_Mod_between_24 : decode prog_9_method_56_code 24 = .ok (.invokevirtual 177, 3) := by decide +kernel
theorem d_Mod_between_27 : decode prog_9_method_56_code 27 = .ok (.ifCond .eq 15, 3) := by decide +kernel
theorem d_Mod_between_30 : decode prog_9_method_56_code 30 = .ok (.iload_n 2, 1) := by decide +kernel
theorem d_Mod_between_31 : decode prog_9_method_56_code 31 = .ok (.ifCond .lt 11, 3) := by decide +kernel
theorem d_Mod_between_34 : decode prog_9_method_56_code 34 = .ok (.iload_n 2, 1) := by decide +kernel
theorem d_Mod_between_35 : decode prog_9_method_56_code 35 = .ok (.aload_n 0, 1) := by decide +kernel
theorem d_Mod_between_36 : decode prog_9_method_56_code 36 = .ok (.getfield 62, 3) := by decide +kernel
theorem d_Mod_between_39 : decode prog_9_method_56_code 39 = .ok (.if_icmp .lt 5, 3) := by decide +kernel
theorem d_Mod_between_42 : decode prog_9_method_56_code 42 = .ok (.iconst 0, 1) := by decide +kernel
theorem d_Mod_between_43 : decode prog_9_method_56_code 43 = .ok (.ireturn, 1) := by decide +kernel
theorem d_Mod_between_44 : decode prog_9_method_56_code 44 = .ok (.aload_n 0, 1) := by decide +kernel
theorem d_Mod_between_45 : decode prog_9_method_56_code 45 = .ok (.iconst 0, 1) := by decide +kernel
theorem d_Mod_between_46 : decode prog_9_method_56_code 46 = .ok (.putfield 211, 3) := by decide +kernel
theorem d_Mod_between_49 : decode prog_9_method_56_code 49 = .ok (.aload_n 0, 1) := by decide +kernel
theorem d_Mod_between_50 : decode prog_9_method_56_code 50 = .ok (.iconst 0, 1) := by decide +kernel
theorem d_Mod_between_51 : decode prog_9_method_56_code 51 = .ok (.putfield 51, 3) := by decide +kernel
theorem d_Mod_between_54 : decode prog_9_method_56_code 54 = .ok (.aload_n 0, 1) := by decide +kernel
theorem d_Mod_between_55 : decode prog_9_method_56_code 55 = .ok (.iconst 0, 1) := by decide +kernel
theorem d_Mod_between_56 : decode prog_9_method_56_code 56 = .ok (.iload_n 1, 1) := by decide +kernel
theorem d_Mod_between_57 : decode prog_9_method_56_code 57 = .ok (.iconst 1, 1) := by decide +kernel
theorem d_Mod_between_58 : decode prog_9_method_56_code 58 = .ok (.iadd, 1) := by decide +kernel
theorem d_Mod_between_59 : decode prog_9_method_56_code 59 = .ok (.invokevirtual 136, 3) := by decide +kernel
theorem d_Mod_between_62 : decode prog_9_method_56_code 62 = .ok (.aload_n 0, 1) := by decide +kernel
theorem d_Mod_between_63 : decode prog_9_method_56_code 63 = .ok (.iconst 1, 1) := by decide +kernel
theorem d_Mod_between_64 : decode prog_9_method_56_code 64 = .ok (.iconst 0, 1) := by decide +kernel
theorem d_Mod_between_65 : decode prog_9_method_56_code 65 = .ok (.aload_n 0, 1) := by decide +kernel
theorem d_Mod_between_66 : decode prog_9_method_56_code 66 = .ok (.getfield 39, 3) := by decide +kernel
theorem d_Mod_between_69 : decode prog_9_method_56_code 69 = .ok (.iload_n 2, 1) := by decide +kernel
theorem d_Mod_between_70 : decode prog_9_method_56_code 70 = .ok (.iaload, 1) := by decide +kernel
theorem d_Mod_between_71 : decode prog_9_method_56_code 71 = .ok (.invokevirtual 214, 3) := by decide +kernel
theorem d_Mod_between_74 : decode prog_9_method_56_code 74 = .ok (.aload_n 0, 1) := by decide +kernel
theorem d_Mod_between_75 : decode prog_9_method_56_code 75 = .ok (.iconst 0, 1) := by decide +kernel
theorem d_Mod_between_76 : decode prog_9_method_56_code 76 = .ok (.iconst 0, 1) := by decide +kernel
theorem d_Mod_between_77 : decode prog_9_method_56_code 77 = .ok (.aload_n 0, 1) := by decide +kernel
theorem d_Mod_between_78 : decode prog_9_method_56_code 78 = .ok (.getfield 39, 3) := by decide +kernel
theorem d_Mod_between_81 : decode prog_9_method_56_code 81 = .ok (.iload_n 2, 1) := by decide +kernel
theorem d_Mod_between_82 : decode prog_9_method_56_code 82 = .ok (.iaload, 1) := by decide +kernel
theorem d_Mod_between_83 : decode prog_9_method_56_code 83 = .ok (.invokevirtual 214, 3) := by decide +kernel
theorem d_Mod_between_86 : decode prog_9_method_56_code 86 = .ok (.aload_n 0, 1) := by decide +kernel
theorem d_Mod_between_87 : decode prog_9_method_56_code 87 = .ok (.iconst 0, 1) := by decide +kernel
theorem d_Mod_between_88 : decode prog_9_method_56_code 88 = .ok (.iload_n 3, 1) := by decide +kernel
theorem d_Mod_between_89 : decode prog_9_method_56_code 89 = .ok (.iconst 1, 1) := by decide +kernel
theorem d_Mod_between_90 : decode prog_9_method_56_code 90 = .ok (.iadd, 1) := by decide +kernel
theorem d_Mod_between_91 : decode prog_9_method_56_code 91 = .ok (.invokevirtual 136, 3) := by decide +kernel
theorem d_Mod_between_94 : decode prog_9_method_56_code 94 = .ok (.aload_n 0, 1) := by decide +kernel
theorem d_Mod_between_95 : decode prog_9_method_56_code 95 = .ok (.iconst 1, 1) := by decide +kernel
theorem d_Mod_between_96 : decode prog_9_method_56_code 96 = .ok (.aload_n 0, 1) := by decide +kernel
theorem d_Mod_between_97 : decode prog_9_method_56_code 97 = .ok (.getfield 39, 3) := by decide +kernel
theorem d_Mod_between_100 : decode prog_9_method_56_code 100 = .ok (.iload_n 2, 1) := by decide +kernel
theorem d_Mod_between_101 : decode prog_9_method_56_code 101 = .ok (.iaload, 1) := by decide +kernel
theorem d_Mod_between_102 : decode prog_9_method_56_code 102 = .ok (.aload_n 0, 1) := by decide +kernel
theorem d_Mod_between_103 : decode prog_9_method_56_code 103 = .ok (.getfield 39, 3) := by decide +kernel
theorem d_Mod_between_106 : decode prog_9_method_56_code 106 = .ok (.iload_n 2, 1) := by decide +kernel
theorem d_Mod_between_107 : decode prog_9_method_56_code 107 = .ok (.iconst 1, 1) := by decide +kernel
theorem d_Mod_between_108 : decode prog_9_method_56_code 108 = .ok (.iadd, 1) := by decide +kernel
theorem d_Mod_between_109 : decode prog_9_method_56_code 109 = .ok (.iaload, 1) := by decide +kernel
theorem d_Mod_between_110 : decode prog_9_method_56_code 110 = .ok (.invokevirtual 214, 3) := by decide +kernel
theorem d_Mod_between_113 : decode prog_9_method_56_code 113 = .ok (.aload_n 0, 1) := by decide +kernel
theorem d_Mod_between_114 : decode prog_9_method_56_code 114 = .ok (.iconst 0, 1) := by decide +kernel
theorem d_Mod_between_115 : decode prog_9_method_56_code 115 = .ok (.iload 4, 2) := by decide +kernel
theorem d_Mod_between_117 : decode prog_9_method_56_code 117 = .ok (.iconst 1, 1) := by decide +kernel
theorem d_Mod_between_118 : decode prog_9_method_56_code 118 = .ok (.iadd, 1) := by decide +kernel
theorem d_Mod_between_119 : decode prog_9_method_56_code 119 = .ok (.invokevirtual 136, 3) := by decide +kernel
theorem d_Mod_between_122 : decode prog_9_method_56_code 122 = .ok (.aload_n 0, 1) := by decide +kernel
theorem d_Mod_between_123 : decode prog_9_method_56_code 123 = .ok (.iconst 0, 1) := by decide +kernel
theorem d_Mod_between_124 : decode prog_9_method_56_code 124 = .ok (.aload_n 0, 1) := by decide +kernel
theorem d_Mod_between_125 : decode prog_9_method_56_code 125 = .ok (.getfield 39, 3) := by decide +kernel
theorem d_Mod_between_128 : decode prog_9_method_56_code 128 = .ok (.iload_n 2, 1) := by decide +kernel
theorem d_Mod_between_129 : decode prog_9_method_56_code 129 = .ok (.iaload, 1) := by decide +kernel
theorem d_Mod_between_130 : decode prog_9_method_56_code 130 = .ok (.aload_n 0, 1) := by decide +kernel
theorem d_Mod_between_131 : decode prog_9_method_56_code 131 = .ok (.getfield 39, 3) := by decide +kernel
theorem d_Mod_between_134 : decode prog_9_method_56_code 134 = .ok (.iload_n 2, 1) := by decide +kernel
theorem d_Mod_between_135 : decode prog_9_method_56_code 135 = .ok (.iconst 1, 1) := by decide +kernel
theorem d_Mod_between_136 : decode prog_9_method_56_code 136 = .ok (.iadd, 1) := by decide +kernel
theorem d_Mod_between_137 : decode prog_9_method_56_code 137 = .ok (.iaload, 1) := by decide +kernel
theorem d_Mod_between_138 : decode prog_9_method_56_code 138 = .ok (.invokevirtual 214, 3) := by decide +kernel
theorem d_Mod_between_141 : decode prog_9_method_56_code 141 = .ok (.iconst 1, 1) := by decide +kernel
theorem d_Mod_between_142 : decode prog_9_method_56_code 142 = .ok (.ireturn, 1) := by decide +kernel
abbrev M_Mod_bound : MethodName × ByteArray × Nat × Option FieldType := (⟨"KeyCodecModel", "bound", "(II)I"⟩, prog_9_method_57_code, 4, some .int)
theorem d_Mod_bound_0 : decode prog_9_method_57_code 0 = .ok (.aload_n 0, 1) := by decide +kernel
theorem d_Mod_bound_1 : decode prog_9_method_57_code 1 = .ok (.iconst 0, 1) := by decide +kernel
theorem d_Mod_bound_2 : decode prog_9_method_57_code 2 = .ok (.putfield 55, 3) := by decide +kernel
theorem d_Mod_bound_5 : decode prog_9_method_57_code 5 = .ok (.iload_n 1, 1) := by decide +kernel
theorem d_Mod_bound_6 : decode prog_9_method_57_code 6 = .ok (.ifCond .lt 21, 3) := by decide +kernel
theorem d_Mod_bound_9 : decode prog_9_method_57_code 9 = .ok (.iload_n 1, 1) := by decide +kernel
theorem d_Mod_bound_10 : decode prog_9_method_57_code 10 = .ok (.iconst 1, 1) := by decide +kernel
theorem d_Mod_bound_11 : decode prog_9_method_57_code 11 = .ok (.if_icmp .gt 16, 3) := by decide +kernel
theorem d_Mod_bound_14 : decode prog_9_method_57_code 14 = .ok (.iload_n 1, 1) := by decide +kernel
theorem d_Mod_bound_15 : decode prog_9_method_57_code 15 = .ok (.iconst 1, 1) := by decide +kernel
theorem d_Mod_bound_16 : decode prog_9_method_57_code 16 = .ok (.if_icmp .ne 13, 3) := by decide +kernel
theorem d_Mod_bound_19 : decode prog_9_method_57_code 19 = .ok (.aload_n 0, 1) := by decide +kernel
theorem d_Mod_bound_20 : decode prog_9_method_57_code 20 = .ok (.getfield 51, 3) := by decide +kernel
theorem d_Mod_bound_23 : decode prog_9_method_57_code 23 = .ok (.iconst (-1), 1) := by decide +kernel
theorem d_Mod_bound_24 : decode prog_9_method_57_code 24 = .ok (.if_icmp .ne 5, 3) := by decide +kernel
theorem d_Mod_bound_27 : decode prog_9_method_57_code 27 = .ok (.iconst (-1), 1) := by decide +kernel
theorem d_Mod_bound_28 : decode prog_9_method_57_code 28 = .ok (.ireturn, 1) := by decide +kernel
theorem d_Mod_bound_29 : decode prog_9_method_57_code 29 = .ok (.iload_n 1, 1) := by decide +kernel
theorem d_Mod_bound_30 : decode prog_9_method_57_code 30 = .ok (.ifCond .ne 10, 3) := by decide +kernel
theorem d_Mod_bound_33 : decode prog_9_method_57_code 33 = .ok (.aload_n 0, 1) := by decide +kernel
theorem d_Mod_bound_34 : decode prog_9_method_57_code 34 = .ok (.getfield 211, 3) := by decide +kernel
theorem d_Mod_bound_37 : decode prog_9_method_57_code 37 = .ok (.goto 7, 3) := by decide +kernel
theorem d_Mod_bound_40 : decode prog_9_method_57_code 40 = .ok (.aload_n 0, 1) := by decide +kernel
theorem d_Mod_bound_41 : decode prog_9_method_57_code 41 = .ok (.getfield 51, 3) := by decide +kernel
theorem d_Mod_bound_44 : decode prog_9_method_57_code 44 = .ok (.istore_n 3, 1) := by decide +kernel
theorem d_Mod_bound_45 : decode prog_9_method_57_code 45 = .ok (.iload_n 2, 1) := by decide +kernel
theorem d_Mod_bound_46 : decode prog_9_method_57_code 46 = .ok (.iconst (-1), 1) := by decide +kernel
theorem d_Mod_bound_47 : decode prog_9_method_57_code 47 = .ok (.if_icmp .ne 5, 3) := by decide +kernel
theorem d_Mod_bound_50 : decode prog_9_method_57_code 50 = .ok (.iload_n 3, 1) := by decide +kernel
theorem d_Mod_bound_51 : decode prog_9_method_57_code 51 = .ok (.ireturn, 1) := by decide +kernel
theorem d_Mod_bound_52 : decode prog_9_method_57_code 52 = .ok (.iload_n 2, 1) := by decide +kernel
theorem d_Mod_bound_53 : decode prog_9_method_57_code 53 = .ok (.ifCond .lt 8, 3) := by decide +kernel
theorem d_Mod_bound_56 : decode prog_9_method_57_code 56 = .ok (.iload_n 2, 1) := by decide +kernel
theorem d_Mod_bound_57 : decode prog_9_method_57_code 57 = .ok (.iload_n 3, 1) := by decide +kernel
theorem d_Mod_bound_58 : decode prog_9_method_57_code 58 = .ok (.if_icmp .lt 5, 3) := by decide +kernel
theorem d_Mod_bound_61 : decode prog_9_method_57_code 61 = .ok (.iconst (-1), 1) := by decide +kernel
theorem d_Mod_bound_62 : decode prog_9_method_57_code 62 = .ok (.ireturn, 1) := by decide +kernel
theorem d_Mod_bound_63 : decode prog_9_method_57_code 63 = .ok (.iload_n 1, 1) := by decide +kernel
theorem d_Mod_bound_64 : decode prog_9_method_57_code 64 = .ok (.ifCond .ne 12, 3) := by decide +kernel
theorem d_Mod_bound_67 : decode prog_9_method_57_code 67 = .ok (.aload_n 0, 1) := by decide +kernel
theorem d_Mod_bound_68 : decode prog_9_method_57_code 68 = .ok (.getfield 45, 3) := by decide +kernel
theorem d_Mod_bound_71 : decode prog_9_method_57_code 71 = .ok (.iload_n 2, 1) := by decide +kernel
theorem d_Mod_bound_72 : decode prog_9_method_57_code 72 = .ok (.iaload, 1) := by decide +kernel
theorem d_Mod_bound_73 : decode prog_9_method_57_code 73 = .ok (.goto 9, 3) := by decide +kernel
theorem d_Mod_bound_76 : decode prog_9_method_57_code 76 = .ok (.aload_n 0, 1) := by decide +kernel
theorem d_Mod_bound_77 : decode prog_9_method_57_code 77 = .ok (.getfield 48, 3) := by decide +kernel
theorem d_Mod_bound_80 : decode prog_9_method_57_code 80 = .ok (.iload_n 2, 1) := by decide +kernel
theorem d_Mod_bound_81 : decode prog_9_method_57_code 81 = .ok (.iaload, 1) := by decide +kernel
theorem d_Mod_bound_82 : decode prog_9_method_57_code 82 = .ok (.ireturn, 1) := by decide +kernel
abbrev M_Mod_against : MethodName × ByteArray × Nat × Option FieldType := (⟨"KeyCodecModel", "against", "(Z)I"⟩, prog_9_method_58_code, 5, some .int)
theorem d_Mod_against_0 : decode prog_9_method_58_code 0 = .ok (.iload_n 1, 1) := by decide +kernel
theorem d_Mod_against_1 : decode prog_9_method_58_code 1 = .ok (.ifCond .eq 10, 3) := by decide +kernel
theorem d_Mod_against_4 : decode prog_9_method_58_code 4 = .ok (.aload_n 0, 1) := by decide +kernel
theorem d_Mod_against_5 : decode prog_9_method_58_code 5 = .ok (.getfield 211, 3) := by decide +kernel
theorem d_Mod_against_8 : decode prog_9_method_58_code 8 = .ok (.goto 7, 3) := by decide +kernel
theorem d_Mod_against_11 : decode prog_9_method_58_code 11 = .ok (.aload_n 0, 1) := by decide +kernel
theorem d_Mod_against_12 : decode prog_9_method_58_code 12 = .ok (.getfield 51, 3) := by decide +kernel
theorem d_Mod_against_15 : decode prog_9_method_58_code 15 = .ok (.istore_n 2, 1) := by decide +kernel
theorem d_Mod_against_16 : decode prog_9_method_58_code 16 = .ok (.iconst 0, 1) := by decide +kernel
theorem d_Mod_against_17 : decode prog_9_method_58_code 17 = .ok (.istore_n 3, 1) := by decide +kernel
theorem d_Mod_against_18 : decode prog_9_method_58_code 18 = .ok (.iload_n 3, 1) := by decide +kernel
theorem d_Mod_against_19 : decode prog_9_method_58_code 19 = .ok (.aload_n 0, 1) := by decide +kernel
theorem d_Mod_against_20 : decode prog_9_method_58_code 20 = .ok (.getfield 42, 3) := by decide +kernel
theorem d_Mod_against_23 : decode prog_9_method_58_code 23 = .ok (.iconst 0, 1) := by decide +kernel
theorem d_Mod_against_24 : decode prog_9_method_58_code 24 = .ok (.iaload, 1) := by decide +kernel
theorem d_Mod_against_25 : decode prog_9_method_58_code 25 = .ok (.if_icmp .ge 60, 3) := by decide +kernel
theorem d_Mod_against_28 : decode prog_9_method_58_code 28 = .ok (.iload_n 3, 1) := by decide +kernel
theorem d_Mod_against_29 : decode prog_9_method_58_code 29 = .ok (.iload_n 2, 1) := by decide +kernel
theorem d_Mod_against_30 : decode prog_9_method_58_code 30 = .ok (.if_icmp .ge 55, 3) := by decide +kernel
theorem d_Mod_against_33 : decode prog_9_method_58_code 33 = .ok (.iload_n 1, 1) := by decide +kernel
theorem d_Mod_against_34 : decode prog_9_method_58_code 34 = .ok (.ifCond .eq 12, 3) := by decide +kernel
theorem d_Mod_against_37 : decode prog_9_method_58_code 37 = .ok (.aload_n 0, 1) := by decide +kernel
theorem d_Mod_against_38 : decode prog_9_method_58_code 38 = .ok (.getfield 45, 3) := by decide +kernel
theorem d_Mod_against_41 : decode prog_9_method_58_code 41 = .ok (.iload_n 3, 1) := by decide +kernel
theorem d_Mod_against_42 : decode prog_9_method_58_code 42 = .ok (.iaload, 1) := by decide +kernel
theorem d_Mod_against_43 : decode prog_9_method_58_code 43 = .ok (.goto 9, 3) := by decide +kernel
theorem d_Mod_against_46 : decode prog_9_method_58_code 46 = .ok (.aload_n 0, 1) := by decide +kernel
theorem d_Mod_against_47 : decode prog_9_method_58_code 47 = .ok (.getfield 48, 3) := by decide +kernel
theorem d_Mod_against_50 : decode prog_9_method_58_code 50 = .ok (.iload_n 3, 1) := by decide +kernel
theorem d_Mod_against_51 : decode prog_9_method_58_code 51 = .ok (.iaload, 1) := by decide +kernel
theorem d_Mod_against_52 : decode prog_9_method_58_code 52 = .ok (.istore 4, 2) := by decide +kernel
theorem d_Mod_against_54 : decode prog_9_method_58_code 54 = .ok (.aload_n 0, 1) := by decide +kernel
theorem d_Mod_against_55 : decode prog_9_method_58_code 55 = .ok (.getfield 36, 3) := by decide +kernel
theorem d_Mod_against_58 : decode prog_9_method_58_code 58 = .ok (.iload_n 3, 1) := by decide +kernel
theorem d_Mod_against_59 : decode prog_9_method_58_code 59 = .ok (.iaload, 1) := by decide +kernel
theorem d_Mod_against_60 : decode prog_9_method_58_code 60 = .ok (.iload 4, 2) := by decide +kernel
theorem d_Mod_against_62 : decode prog_9_method_58_code 62 = .ok (.if_icmp .eq 17, 3) := by decide +kernel
theorem d_Mod_against_65 : decode prog_9_method_58_code 65 = .ok (.aload_n 0, 1) := by decide +kernel
theorem d_Mod_against_66 : decode prog_9_method_58_code 66 = .ok (.getfield 36, 3) := by decide +kernel
theorem d_Mod_against_69 : decode prog_9_method_58_code 69 = .ok (.iload_n 3, 1) := by decide +kernel
theorem d_Mod_against_70 : decode prog_9_method_58_code 70 = .ok (.iaload, 1) := by decide +kernel
theorem d_Mod_against_71 : decode prog_9_method_58_code 71 = .ok (.i2l, 1) := by decide +kernel
theorem d_Mod_against_72 : decode prog_9_method_58_code 72 = .ok (.iload 4, 2) := by decide +kernel
theorem d_Mod_against_74 : decode prog_9_method_58_code 74 = .ok (.i2l, 1) := by decide +kernel
theorem d_Mod_against_75 : decode prog_9_method_58_code 75 = .ok (.invokestatic 184, 3) := by decide +kernel
theorem d_Mod_against_78 : decode prog_9_method_58_code 78 = .ok (.ireturn, 1) := by decide +kernel
theorem d_Mod_against_79 : decode prog_9_method_58_code 79 = .ok (.iinc 3 1, 3) := by decide +kernel
theorem d_Mod_against_82 : decode prog_9_method_58_code 82 = .ok (.goto (-64), 3) := by decide +kernel
theorem d_Mod_against_85 : decode prog_9_method_58_code 85 = .ok (.aload_n 0, 1) := by decide +kernel
theorem d_Mod_against_86 : decode prog_9_method_58_code 86 = .ok (.getfield 42, 3) := by decide +kernel
theorem d_Mod_against_89 : decode prog_9_method_58_code 89 = .ok (.iconst 0, 1) := by decide +kernel
theorem d_Mod_against_90 : decode prog_9_method_58_code 90 = .ok (.iaload, 1) := by decide +kernel
theorem d_Mod_against_91 : decode prog_9_method_58_code 91 = .ok (.i2l, 1) := by decide +kernel
theorem d_Mod_against_92 : decode prog_9_method_58_code 92 = .ok (.iload_n 2, 1) := by decide +kernel
theorem d_Mod_against_93 : decode prog_9_method_58_code 93 = .ok (.i2l, 1) := by decide +kernel
theorem d_Mod_against_94 : decode prog_9_method_58_code 94 = .ok (.invokestatic 184, 3) := by decide +kernel
theorem d_Mod_against_97 : decode prog_9_method_58_code 97 = .ok (.ireturn, 1) := by decide +kernel
abbrev M_Mod_within : MethodName × ByteArray × Nat × Option FieldType := (⟨"KeyCodecModel", "within", "(I)Z"⟩, prog_9_method_59_code, 2, some .boolean)
theorem d_Mod_within_0 : decode prog_9_method_59_code 0 = .ok (.aload_n 0, 1) := by decide +kernel
theorem d_Mod_within_1 : decode prog_9_method_59_code 1 = .ok (.iconst 0, 1) := by decide +kernel
theorem d_Mod_within_2 : decode prog_9_method_59_code 2 = .ok (.putfield 55, 3) := by decide +kernel
theorem d_Mod_within_5 : decode prog_9_method_59_code 5 = .ok (.aload_n 0, 1) := by decide +kernel
theorem d_Mod_within_6 : decode prog_9_method_59_code 6 = .ok (.iload_n 1, 1) := by decide +kernel
theorem d_Mod_within_7 : decode prog_9_method_59_code 7 = .ok (.invokevirtual 177, 3) := by decide +kernel
theorem d_Mod_within_10 : decode prog_9_method_59_code 10 = .ok (.ifCond .ne 5, 3) := by decide +kernel
theorem d_Mod_within_13 : decode prog_9_method_59_code 13 = .ok (.iconst 0, 1) := by decide +kernel
theorem d_Mod_within_14 : decode prog_9_method_59_code 14 = .ok (.ireturn, 1) := by decide +kernel
theorem d_Mod_within_15 : decode prog_9_method_59_code 15 = .ok (.aload_n 0, 1) := by decide +kernel
theorem d_Mod_within_16 : decode prog_9_method_59_code 16 = .ok (.iconst 0, 1) := by decide +kernel
theorem d_Mod_within_17 : decode prog_9_method_59_code 17 = .ok (.iload_n 1, 1) := by decide +kernel
theorem d_Mod_within_18 : decode prog_9_method_59_code 18 = .ok (.iconst 1, 1) := by decide +kernel
theorem d_Mod_within_19 : decode prog_9_method_59_code 19 = .ok (.iadd, 1) := by decide +kernel
theorem d_Mod_within_20 : decode prog_9_method_59_code 20 = .ok (.invokevirtual 136, 3) := by decide +kernel
theorem d_Mod_within_23 : decode prog_9_method_59_code 23 = .ok (.aload_n 0, 1) := by decide +kernel
theorem d_Mod_within_24 : decode prog_9_method_59_code 24 = .ok (.iconst 1, 1) := by decide +kernel
theorem d_Mod_within_25 : decode prog_9_method_59_code 25 = .ok (.invokevirtual 218, 3) := by decide +kernel
theorem d_Mod_within_28 : decode prog_9_method_59_code 28 = .ok (.ifCond .lt 23, 3) := by decide +kernel
theorem d_Mod_within_31 : decode prog_9_method_59_code 31 = .ok (.aload_n 0, 1) := by decide +kernel
theorem d_Mod_within_32 : decode prog_9_method_59_code 32 = .ok (.getfield 51, 3) := by decide +kernel
theorem d_Mod_within_35 : decode prog_9_method_59_code 35 = .ok (.iconst (-1), 1) := by decide +kernel
theorem d_Mod_within_36 : decode prog_9_method_59_code 36 = .ok (.if_icmp .eq 11, 3) := by decide +kernel
theorem d_Mod_within_39 : decode prog_9_method_59_code 39 = .ok (.aload_n 0, 1) := by decide +kernel
theorem d_Mod_within_40 : decode prog_9_method_59_code 40 = .ok (.iconst 0, 1) := by decide +kernel
theorem d_Mod_within_41 : decode prog_9_method_59_code 41 = .ok (.invokevirtual 218, 3) := by decide +kernel
theorem d_Mod_within_44 : decode prog_9_method_59_code 44 = .ok (.ifCond .ge 7, 3) := by decide +kernel
theorem d_Mod_within_47 : decode prog_9_method_59_code 47 = .ok (.iconst 1, 1) := by decide +kernel
theorem d_Mod_within_48 : decode prog_9_method_59_code 48 = .ok (.goto 4, 3) := by decide +kernel
theorem d_Mod_within_51 : decode prog_9_method_59_code 51 = .ok (.iconst 0, 1) := by decide +kernel
theorem d_Mod_within_52 : decode prog_9_method_59_code 52 = .ok (.ireturn, 1) := by decide +kernel
theorem lo_Mod_1 : Cond.methodLink "KeyCodecModel" 1 Lib.objectInit ∈ kTs := km 587 (by decide +kernel) (by decide +kernel)
theorem lf_Mod_7 : Cond.fieldLink "KeyCodecModel" (7 : Nat) "KeyCodecModel" "kinds" "[I" ∈ kTs := km 591 (by decide +kernel) (by decide +kernel)
theorem lf_Mod_13 : Cond.fieldLink "KeyCodecModel" (13 : Nat) "KeyCodecModel" "flags" "[I" ∈ kTs := km 592 (by decide +kernel) (by decide +kernel)
theorem lf_Mod_16 : Cond.fieldLink "KeyCodecModel" (16 : Nat) "KeyCodecModel" "values" "[J" ∈ kTs := km 593 (by decide +kernel) (by decide +kernel)
theorem lf_Mod_20 : Cond.fieldLink "KeyCodecModel" (20 : Nat) "KeyCodecModel" "forms" "[I" ∈ kTs := km 594 (by decide +kernel) (by decide +kernel)
theorem lf_Mod_23 : Cond.fieldLink "KeyCodecModel" (23 : Nat) "KeyCodecModel" "gone" "[Z" ∈ kTs := km 595 (by decide +kernel) (by decide +kernel)
theorem lf_Mod_27 : Cond.fieldLink "KeyCodecModel" (27 : Nat) "KeyCodecModel" "sizes" "[I" ∈ kTs := km 596 (by decide +kernel) (by decide +kernel)
theorem lf_Mod_30 : Cond.fieldLink "KeyCodecModel" (30 : Nat) "KeyCodecModel" "texts" "[I" ∈ kTs := km 597 (by decide +kernel) (by decide +kernel)
theorem lf_Mod_33 : Cond.fieldLink "KeyCodecModel" (33 : Nat) "KeyCodecModel" "row" "[I" ∈ kTs := km 599 (by decide +kernel) (by decide +kernel)
theorem lf_Mod_36 : Cond.fieldLink "KeyCodecModel" (36 : Nat) "KeyCodecModel" "made" "[I" ∈ kTs := km 601 (by decide +kernel) (by decide +kernel)
theorem lf_Mod_39 : Cond.fieldLink "KeyCodecModel" (39 : Nat) "KeyCodecModel" "ends" "[I" ∈ kTs := km 603 (by decide +kernel) (by decide +kernel)
theorem lf_Mod_42 : Cond.fieldLink "KeyCodecModel" (42 : Nat) "KeyCodecModel" "madeSize" "[I" ∈ kTs := km 604 (by decide +kernel) (by decide +kernel)
theorem lf_Mod_45 : Cond.fieldLink "KeyCodecModel" (45 : Nat) "KeyCodecModel" "low" "[I" ∈ kTs := km 605 (by decide +kernel) (by decide +kernel)
theorem lf_Mod_48 : Cond.fieldLink "KeyCodecModel" (48 : Nat) "KeyCodecModel" "high" "[I" ∈ kTs := km 606 (by decide +kernel) (by decide +kernel)
theorem lf_Mod_51 : Cond.fieldLink "KeyCodecModel" (51 : Nat) "KeyCodecModel" "highSize" "I" ∈ kTs := km 608 (by decide +kernel) (by decide +kernel)
theorem lf_Mod_55 : Cond.fieldLink "KeyCodecModel" (55 : Nat) "KeyCodecModel" "thrown" "I" ∈ kTs := km 588 (by decide +kernel) (by decide +kernel)
theorem lf_Mod_58 : Cond.fieldLink "KeyCodecModel" (58 : Nat) "KeyCodecModel" "sealed" "Z" ∈ kTs := km 590 (by decide +kernel) (by decide +kernel)
theorem lf_Mod_62 : Cond.fieldLink "KeyCodecModel" (62 : Nat) "KeyCodecModel" "fields" "I" ∈ kTs := km 589 (by decide +kernel) (by decide +kernel)
theorem kb_Mod_empty : kCB M_Mod_empty 1 := ⟨km 6 (by decide +kernel) (by decide +kernel), km 675 (by decide +kernel) (by decide +kernel), by decide +kernel, by decide +kernel⟩
theorem lg_Mod_65 : kCV "KeyCodecModel" 65 M_Mod_empty 1 6 := ⟨kb_Mod_empty, km 672 (by decide +kernel) (by decide +kernel), km 674 (by decide +kernel) (by decide +kernel), kms 14 (by decide +kernel) (by decide +kernel), (F_Mod, 23), rfl⟩
theorem lf_Mod_69 : Cond.fieldLink "KeyCodecModel" (69 : Nat) "KeyCodecModel" "kept" "I" ∈ kTs := km 598 (by decide +kernel) (by decide +kernel)
theorem lf_Mod_72 : Cond.fieldLink "KeyCodecModel" (72 : Nat) "KeyCodecModel" "rowSize" "I" ∈ kTs := km 600 (by decide +kernel) (by decide +kernel)
theorem lK_Mod_75 : Cond.constantLong "KeyCodecModel" (75 : Nat) (-1000000000000000 : Int64) ∈ kTs := km 691 (by decide +kernel) (by decide +kernel)
theorem lK_Mod_77 : Cond.constantLong "KeyCodecModel" (77 : Nat) (1000000000000000 : Int64) ∈ kTs := km 692 (by decide +kernel) (by decide +kernel)
theorem lK_Mod_79 : Cond.constantLong "KeyCodecModel" (79 : Nat) (-1099511627776 : Int64) ∈ kTs := km 693 (by decide +kernel) (by decide +kernel)
theorem lK_Mod_81 : Cond.constantLong "KeyCodecModel" (81 : Nat) (1099511627776 : Int64) ∈ kTs := km 694 (by decide +kernel) (by decide +kernel)
theorem kb_Mod_isField : kCB M_Mod_isField 1 := ⟨km 6 (by decide +kernel) (by decide +kernel), km 687 (by decide +kernel) (by decide +kernel), by decide +kernel, by decide +kernel⟩
theorem lg_Mod_83 : kCV "KeyCodecModel" 83 M_Mod_isField 1 6 := ⟨kb_Mod_isField, km 684 (by decide +kernel) (by decide +kernel), km 686 (by decide +kernel) (by decide +kernel), kms 15 (by decide +kernel) (by decide +kernel), (F_Mod, 23), rfl⟩
theorem kb_Mod_isValue : kCB M_Mod_isValue 3 := ⟨km 6 (by decide +kernel) (by decide +kernel), km 690 (by decide +kernel) (by decide +kernel), by decide +kernel, by decide +kernel⟩
theorem lg_Mod_87 : kCS "KeyCodecModel" 87 M_Mod_isValue 3 := ⟨kb_Mod_isValue, km 688 (by decide +kernel) (by decide +kernel), km 689 (by decide +kernel) (by decide +kernel)⟩
theorem kb_Mod_set : kCB M_Mod_set 3 := ⟨km 6 (by decide +kernel) (by decide +kernel), km 698 (by decide +kernel) (by decide +kernel), by decide +kernel, by decide +kernel⟩
theorem lg_Mod_91 : kCV "KeyCodecModel" 91 M_Mod_set 3 6 := ⟨kb_Mod_set, km 695 (by decide +kernel) (by decide +kernel), km 697 (by decide +kernel) (by decide +kernel), kms 16 (by decide +kernel) (by decide +kernel), (F_Mod, 23), rfl⟩
theorem kb_Mod_isOptional : kCB M_Mod_isOptional 1 := ⟨km 6 (by decide +kernel) (by decide +kernel), km 710 (by decide +kernel) (by decide +kernel), by decide +kernel, by decide +kernel⟩
theorem lg_Mod_95 : kCV "KeyCodecModel" 95 M_Mod_isOptional 1 6 := ⟨kb_Mod_isOptional, km 707 (by decide +kernel) (by decide +kernel), km 709 (by decide +kernel) (by decide +kernel), kms 17 (by decide +kernel) (by decide +kernel), (F_Mod, 23), rfl⟩
theorem lK_Mod_98 : Cond.constantLong "KeyCodecModel" (98 : Nat) (-1 : Int64) ∈ kTs := km 715 (by decide +kernel) (by decide +kernel)
theorem lf_Mod_100 : Cond.fieldLink "KeyCodecModel" (100 : Nat) "KeyCodecModel" "size" "I" ∈ kTs := km 602 (by decide +kernel) (by decide +kernel)
theorem lK_Mod_103 : Cond.constantLong "KeyCodecModel" (103 : Nat) (256 : Int64) ∈ kTs := km 753 (by decide +kernel) (by decide +kernel)
theorem kb_Mod_say : kCB M_Mod_say 2 := ⟨km 6 (by decide +kernel) (by decide +kernel), km 735 (by decide +kernel) (by decide +kernel), by decide +kernel, by decide +kernel⟩
theorem lg_Mod_105 : kCV "KeyCodecModel" 105 M_Mod_say 2 6 := ⟨kb_Mod_say, km 732 (by decide +kernel) (by decide +kernel), km 734 (by decide +kernel) (by decide +kernel), kms 21 (by decide +kernel) (by decide +kernel), (F_Mod, 23), rfl⟩
theorem lK_Mod_109 : Cond.constantLong "KeyCodecModel" (109 : Nat) (255 : Int64) ∈ kTs := km 754 (by decide +kernel) (by decide +kernel)
theorem lK_Mod_111 : Cond.constantLong "KeyCodecModel" (111 : Nat) (10 : Int64) ∈ kTs := km 744 (by decide +kernel) (by decide +kernel)
theorem kb_Mod_isLast : kCB M_Mod_isLast 1 := ⟨km 6 (by decide +kernel) (by decide +kernel), km 731 (by decide +kernel) (by decide +kernel), by decide +kernel, by decide +kernel⟩
theorem lg_Mod_113 : kCV "KeyCodecModel" 113 M_Mod_isLast 1 6 := ⟨kb_Mod_isLast, km 728 (by decide +kernel) (by decide +kernel), km 730 (by decide +kernel) (by decide +kernel), kms 20 (by decide +kernel) (by decide +kernel), (F_Mod, 23), rfl⟩
theorem kb_Mod_isDown : kCB M_Mod_isDown 1 := ⟨km 6 (by decide +kernel) (by decide +kernel), km 739 (by decide +kernel) (by decide +kernel), by decide +kernel, by decide +kernel⟩
theorem lg_Mod_116 : kCV "KeyCodecModel" 116 M_Mod_isDown 1 6 := ⟨kb_Mod_isDown, km 736 (by decide +kernel) (by decide +kernel), km 738 (by decide +kernel) (by decide +kernel), kms 22 (by decide +kernel) (by decide +kernel), (F_Mod, 23), rfl⟩
theorem kb_Mod_sayDecimal : kCB M_Mod_sayDecimal 4 := ⟨km 6 (by decide +kernel) (by decide +kernel), km 743 (by decide +kernel) (by decide +kernel), by decide +kernel, by decide +kernel⟩
theorem lg_Mod_119 : kCV "KeyCodecModel" 119 M_Mod_sayDecimal 4 6 := ⟨kb_Mod_sayDecimal, km 740 (by decide +kernel) (by decide +kernel), km 742 (by decide +kernel) (by decide +kernel), kms 23 (by decide +kernel) (by decide +kernel), (F_Mod, 23), rfl⟩
theorem kb_Mod_sayText : kCB M_Mod_sayText 3 := ⟨km 6 (by decide +kernel) (by decide +kernel), km 748 (by decide +kernel) (by decide +kernel), by decide +kernel, by decide +kernel⟩
theorem lg_Mod_123 : kCV "KeyCodecModel" 123 M_Mod_sayText 3 6 := ⟨kb_Mod_sayText, km 745 (by decide +kernel) (by decide +kernel), km 747 (by decide +kernel) (by decide +kernel), kms 24 (by decide +kernel) (by decide +kernel), (F_Mod, 23), rfl⟩
theorem kb_Mod_sayInt : kCB M_Mod_sayInt 3 := ⟨km 6 (by decide +kernel) (by decide +kernel), km 752 (by decide +kernel) (by decide +kernel), by decide +kernel, by decide +kernel⟩
theorem lg_Mod_127 : kCV "KeyCodecModel" 127 M_Mod_sayInt 3 6 := ⟨kb_Mod_sayInt, km 749 (by decide +kernel) (by decide +kernel), km 751 (by decide +kernel) (by decide +kernel), kms 25 (by decide +kernel) (by decide +kernel), (F_Mod, 23), rfl⟩
theorem kb_Mod_sayField : kCB M_Mod_sayField 3 := ⟨km 6 (by decide +kernel) (by decide +kernel), km 727 (by decide +kernel) (by decide +kernel), by decide +kernel, by decide +kernel⟩
theorem lg_Mod_130 : kCV "KeyCodecModel" 130 M_Mod_sayField 3 6 := ⟨kb_Mod_sayField, km 724 (by decide +kernel) (by decide +kernel), km 726 (by decide +kernel) (by decide +kernel), kms 19 (by decide +kernel) (by decide +kernel), (F_Mod, 23), rfl⟩
theorem kb_Mod_sayTail : kCB M_Mod_sayTail 2 := ⟨km 6 (by decide +kernel) (by decide +kernel), km 758 (by decide +kernel) (by decide +kernel), by decide +kernel, by decide +kernel⟩
theorem lg_Mod_133 : kCV "KeyCodecModel" 133 M_Mod_sayTail 2 6 := ⟨kb_Mod_sayTail, km 755 (by decide +kernel) (by decide +kernel), km 757 (by decide +kernel) (by decide +kernel), kms 26 (by decide +kernel) (by decide +kernel), (F_Mod, 23), rfl⟩
theorem kb_Mod_make : kCB M_Mod_make 2 := ⟨km 6 (by decide +kernel) (by decide +kernel), km 723 (by decide +kernel) (by decide +kernel), by decide +kernel, by decide +kernel⟩
theorem lg_Mod_136 : kCV "KeyCodecModel" 136 M_Mod_make 2 6 := ⟨kb_Mod_make, km 720 (by decide +kernel) (by decide +kernel), km 722 (by decide +kernel) (by decide +kernel), kms 18 (by decide +kernel) (by decide +kernel), (F_Mod, 23), rfl⟩
theorem lf_Mod_139 : Cond.fieldLink "KeyCodecModel" (139 : Nat) "KeyCodecModel" "at" "I" ∈ kTs := km 609 (by decide +kernel) (by decide +kernel)
theorem lf_Mod_142 : Cond.fieldLink "KeyCodecModel" (142 : Nat) "KeyCodecModel" "bad" "Z" ∈ kTs := km 610 (by decide +kernel) (by decide +kernel)
theorem kb_Mod_next : kCB M_Mod_next 1 := ⟨km 6 (by decide +kernel) (by decide +kernel), km 782 (by decide +kernel) (by decide +kernel), by decide +kernel, by decide +kernel⟩
theorem lg_Mod_145 : kCV "KeyCodecModel" 145 M_Mod_next 1 6 := ⟨kb_Mod_next, km 779 (by decide +kernel) (by decide +kernel), km 781 (by decide +kernel) (by decide +kernel), kms 28 (by decide +kernel) (by decide +kernel), (F_Mod, 23), rfl⟩
theorem lK_Mod_149 : Cond.constantLong "KeyCodecModel" (149 : Nat) (2000000000000000 : Int64) ∈ kTs := km 802 (by decide +kernel) (by decide +kernel)
theorem kb_Mod_shifted : kCB M_Mod_shifted 2 := ⟨km 6 (by decide +kernel) (by decide +kernel), km 801 (by decide +kernel) (by decide +kernel), by decide +kernel, by decide +kernel⟩
theorem lg_Mod_151 : kCS "KeyCodecModel" 151 M_Mod_shifted 2 := ⟨kb_Mod_shifted, km 799 (by decide +kernel) (by decide +kernel), km 800 (by decide +kernel) (by decide +kernel)⟩
theorem kb_Mod_readDecimal : kCB M_Mod_readDecimal 2 := ⟨km 6 (by decide +kernel) (by decide +kernel), km 786 (by decide +kernel) (by decide +kernel), by decide +kernel, by decide +kernel⟩
theorem lg_Mod_155 : kCV "KeyCodecModel" 155 M_Mod_readDecimal 2 6 := ⟨kb_Mod_readDecimal, km 783 (by decide +kernel) (by decide +kernel), km 785 (by decide +kernel) (by decide +kernel), kms 29 (by decide +kernel) (by decide +kernel), (F_Mod, 23), rfl⟩
theorem kb_Mod_readText : kCB M_Mod_readText 2 := ⟨km 6 (by decide +kernel) (by decide +kernel), km 790 (by decide +kernel) (by decide +kernel), by decide +kernel, by decide +kernel⟩
theorem lg_Mod_158 : kCV "KeyCodecModel" 158 M_Mod_readText 2 6 := ⟨kb_Mod_readText, km 787 (by decide +kernel) (by decide +kernel), km 789 (by decide +kernel) (by decide +kernel), kms 30 (by decide +kernel) (by decide +kernel), (F_Mod, 23), rfl⟩
theorem kb_Mod_readInt : kCB M_Mod_readInt 1 := ⟨km 6 (by decide +kernel) (by decide +kernel), km 794 (by decide +kernel) (by decide +kernel), by decide +kernel, by decide +kernel⟩
theorem lg_Mod_161 : kCV "KeyCodecModel" 161 M_Mod_readInt 1 6 := ⟨kb_Mod_readInt, km 791 (by decide +kernel) (by decide +kernel), km 793 (by decide +kernel) (by decide +kernel), kms 31 (by decide +kernel) (by decide +kernel), (F_Mod, 23), rfl⟩
theorem kb_Mod_readField : kCB M_Mod_readField 2 := ⟨km 6 (by decide +kernel) (by decide +kernel), km 778 (by decide +kernel) (by decide +kernel), by decide +kernel, by decide +kernel⟩
theorem lg_Mod_165 : kCV "KeyCodecModel" 165 M_Mod_readField 2 6 := ⟨kb_Mod_readField, km 775 (by decide +kernel) (by decide +kernel), km 777 (by decide +kernel) (by decide +kernel), kms 27 (by decide +kernel) (by decide +kernel), (F_Mod, 23), rfl⟩
theorem kb_Mod_readTail : kCB M_Mod_readTail 1 := ⟨km 6 (by decide +kernel) (by decide +kernel), km 798 (by decide +kernel) (by decide +kernel), by decide +kernel, by decide +kernel⟩
theorem lg_Mod_168 : kCV "KeyCodecModel" 168 M_Mod_readTail 1 6 := ⟨kb_Mod_readTail, km 795 (by decide +kernel) (by decide +kernel), km 797 (by decide +kernel) (by decide +kernel), kms 32 (by decide +kernel) (by decide +kernel), (F_Mod, 23), rfl⟩
theorem kb_Mod_isTuple : kCB M_Mod_isTuple 1 := ⟨km 6 (by decide +kernel) (by decide +kernel), km 806 (by decide +kernel) (by decide +kernel), by decide +kernel, by decide +kernel⟩
theorem lg_Mod_171 : kCV "KeyCodecModel" 171 M_Mod_isTuple 1 6 := ⟨kb_Mod_isTuple, km 803 (by decide +kernel) (by decide +kernel), km 805 (by decide +kernel) (by decide +kernel), kms 33 (by decide +kernel) (by decide +kernel), (F_Mod, 23), rfl⟩
theorem kb_Mod_copy : kCB M_Mod_copy 2 := ⟨km 6 (by decide +kernel) (by decide +kernel), km 810 (by decide +kernel) (by decide +kernel), by decide +kernel, by decide +kernel⟩
theorem lg_Mod_174 : kCV "KeyCodecModel" 174 M_Mod_copy 2 6 := ⟨kb_Mod_copy, km 807 (by decide +kernel) (by decide +kernel), km 809 (by decide +kernel) (by decide +kernel), kms 34 (by decide +kernel) (by decide +kernel), (F_Mod, 23), rfl⟩
theorem kb_Mod_isKept : kCB M_Mod_isKept 1 := ⟨km 6 (by decide +kernel) (by decide +kernel), km 822 (by decide +kernel) (by decide +kernel), by decide +kernel, by decide +kernel⟩
theorem lg_Mod_177 : kCV "KeyCodecModel" 177 M_Mod_isKept 1 6 := ⟨kb_Mod_isKept, km 819 (by decide +kernel) (by decide +kernel), km 821 (by decide +kernel) (by decide +kernel), kms 35 (by decide +kernel) (by decide +kernel), (F_Mod, 23), rfl⟩
theorem kb_Mod_floor : kCB M_Mod_floor 2 := ⟨km 6 (by decide +kernel) (by decide +kernel), km 841 (by decide +kernel) (by decide +kernel), by decide +kernel, by decide +kernel⟩
theorem lg_Mod_180 : kCS "KeyCodecModel" 180 M_Mod_floor 2 := ⟨kb_Mod_floor, km 839 (by decide +kernel) (by decide +kernel), km 840 (by decide +kernel) (by decide +kernel)⟩
theorem kb_Mod_order : kCB M_Mod_order 2 := ⟨km 6 (by decide +kernel) (by decide +kernel), km 844 (by decide +kernel) (by decide +kernel), by decide +kernel, by decide +kernel⟩
theorem lg_Mod_184 : kCS "KeyCodecModel" 184 M_Mod_order 2 := ⟨kb_Mod_order, km 842 (by decide +kernel) (by decide +kernel), km 843 (by decide +kernel) (by decide +kernel)⟩
theorem lK_Mod_188 : Cond.constantLong "KeyCodecModel" (188 : Nat) (1000000000 : Int64) ∈ kTs := km 845 (by decide +kernel) (by decide +kernel)
theorem kb_Mod_orderDecimals : kCB M_Mod_orderDecimals 2 := ⟨km 6 (by decide +kernel) (by decide +kernel), km 838 (by decide +kernel) (by decide +kernel), by decide +kernel, by decide +kernel⟩
theorem lg_Mod_190 : kCV "KeyCodecModel" 190 M_Mod_orderDecimals 2 6 := ⟨kb_Mod_orderDecimals, km 835 (by decide +kernel) (by decide +kernel), km 837 (by decide +kernel) (by decide +kernel), kms 37 (by decide +kernel) (by decide +kernel), (F_Mod, 23), rfl⟩
theorem kb_Mod_orderTexts : kCB M_Mod_orderTexts 2 := ⟨km 6 (by decide +kernel) (by decide +kernel), km 849 (by decide +kernel) (by decide +kernel), by decide +kernel, by decide +kernel⟩
theorem lg_Mod_194 : kCV "KeyCodecModel" 194 M_Mod_orderTexts 2 6 := ⟨kb_Mod_orderTexts, km 846 (by decide +kernel) (by decide +kernel), km 848 (by decide +kernel) (by decide +kernel), kms 38 (by decide +kernel) (by decide +kernel), (F_Mod, 23), rfl⟩
theorem kb_Mod_orderField : kCB M_Mod_orderField 3 := ⟨km 6 (by decide +kernel) (by decide +kernel), km 834 (by decide +kernel) (by decide +kernel), by decide +kernel, by decide +kernel⟩
theorem lg_Mod_197 : kCV "KeyCodecModel" 197 M_Mod_orderField 3 6 := ⟨kb_Mod_orderField, km 831 (by decide +kernel) (by decide +kernel), km 833 (by decide +kernel) (by decide +kernel), kms 36 (by decide +kernel) (by decide +kernel), (F_Mod, 23), rfl⟩
theorem kb_Mod_orderMade : kCB M_Mod_orderMade 0 := ⟨km 6 (by decide +kernel) (by decide +kernel), km 857 (by decide +kernel) (by decide +kernel), by decide +kernel, by decide +kernel⟩
theorem lg_Mod_201 : kCV "KeyCodecModel" 201 M_Mod_orderMade 0 6 := ⟨kb_Mod_orderMade, km 854 (by decide +kernel) (by decide +kernel), km 856 (by decide +kernel) (by decide +kernel), kms 39 (by decide +kernel) (by decide +kernel), (F_Mod, 23), rfl⟩
theorem kb_Mod_rankOf : kCB M_Mod_rankOf 1 := ⟨km 6 (by decide +kernel) (by decide +kernel), km 865 (by decide +kernel) (by decide +kernel), by decide +kernel, by decide +kernel⟩
theorem lg_Mod_205 : kCV "KeyCodecModel" 205 M_Mod_rankOf 1 6 := ⟨kb_Mod_rankOf, km 862 (by decide +kernel) (by decide +kernel), km 864 (by decide +kernel) (by decide +kernel), kms 40 (by decide +kernel) (by decide +kernel), (F_Mod, 23), rfl⟩
theorem kb_Mod_ofRank : kCB M_Mod_ofRank 1 := ⟨km 6 (by decide +kernel) (by decide +kernel), km 873 (by decide +kernel) (by decide +kernel), by decide +kernel, by decide +kernel⟩
theorem lg_Mod_208 : kCV "KeyCodecModel" 208 M_Mod_ofRank 1 6 := ⟨kb_Mod_ofRank, km 870 (by decide +kernel) (by decide +kernel), km 872 (by decide +kernel) (by decide +kernel), kms 41 (by decide +kernel) (by decide +kernel), (F_Mod, 23), rfl⟩
theorem lf_Mod_211 : Cond.fieldLink "KeyCodecModel" (211 : Nat) "KeyCodecModel" "lowSize" "I" ∈ kTs := km 607 (by decide +kernel) (by decide +kernel)
theorem kb_Mod_extend : kCB M_Mod_extend 3 := ⟨km 6 (by decide +kernel) (by decide +kernel), km 885 (by decide +kernel) (by decide +kernel), by decide +kernel, by decide +kernel⟩
theorem lg_Mod_214 : kCV "KeyCodecModel" 214 M_Mod_extend 3 6 := ⟨kb_Mod_extend, km 882 (by decide +kernel) (by decide +kernel), km 884 (by decide +kernel) (by decide +kernel), kms 42 (by decide +kernel) (by decide +kernel), (F_Mod, 23), rfl⟩
theorem kb_Mod_against : kCB M_Mod_against 1 := ⟨km 6 (by decide +kernel) (by decide +kernel), km 897 (by decide +kernel) (by decide +kernel), by decide +kernel, by decide +kernel⟩
theorem lg_Mod_218 : kCV "KeyCodecModel" 218 M_Mod_against 1 6 := ⟨kb_Mod_against, km 894 (by decide +kernel) (by decide +kernel), km 896 (by decide +kernel) (by decide +kernel), kms 43 (by decide +kernel) (by decide +kernel), (F_Mod, 23), rfl⟩
