abbrev M_Writer_writeKey : MethodName × ByteArray × Nat × Option FieldType := (⟨"KeyCodec$KeyWriter", "writeKey", "(LKeyCodec$Schema;LKeyCodec$Tuple;LKeyCodec$Row;)V"⟩, prog_3_method_2_code, 3, none)
theorem d_Writer_writeKey_0 : decode prog_3_method_2_code 0 = .ok (.aload_n 2, 1) := by decide +kernel
theorem d_Writer_writeKey_1 : decode prog_3_method_2_code 1 = .ok (.invokevirtual 9, 3) := by decide +kernel
theorem d_Writer_writeKey_4 : decode prog_3_method_2_code 4 = .ok (.aload_n 0, 1) := by decide +kernel
theorem d_Writer_writeKey_5 : decode prog_3_method_2_code 5 = .ok (.aload_n 1, 1) := by decide +kernel
theorem d_Writer_writeKey_6 : decode prog_3_method_2_code 6 = .ok (.aload_n 0, 1) := by decide +kernel
theorem d_Writer_writeKey_7 : decode prog_3_method_2_code 7 = .ok (.getfield 14, 3) := by decide +kernel
theorem d_Writer_writeKey_10 : decode prog_3_method_2_code 10 = .ok (.aload_n 2, 1) := by decide +kernel
theorem d_Writer_writeKey_11 : decode prog_3_method_2_code 11 = .ok (.invokestatic 20, 3) := by decide +kernel
theorem d_Writer_writeKey_14 : decode prog_3_method_2_code 14 = .ok (.aload_n 0, 1) := by decide +kernel
theorem d_Writer_writeKey_15 : decode prog_3_method_2_code 15 = .ok (.aload_n 1, 1) := by decide +kernel
theorem d_Writer_writeKey_16 : decode prog_3_method_2_code 16 = .ok (.aload_n 2, 1) := by decide +kernel
theorem d_Writer_writeKey_17 : decode prog_3_method_2_code 17 = .ok (.invokestatic 26, 3) := by decide +kernel
theorem d_Writer_writeKey_20 : decode prog_3_method_2_code 20 = .ok (.return_, 1) := by decide +kernel
abbrev M_Writer_writeFields : MethodName × ByteArray × Nat × Option FieldType := (⟨"KeyCodec$KeyWriter", "writeFields", "(LKeyCodec$Schema;LKeyCodec$Tuple;ILKeyCodec$Row;)V"⟩, prog_3_method_3_code, 5, none)
theorem d_Writer_writeFields_0 : decode prog_3_method_3_code 0 = .ok (.iconst 0, 1) := by decide +kernel
theorem d_Writer_writeFields_1 : decode prog_3_method_3_code 1 = .ok (.istore 4, 2) := by decide +kernel
theorem d_Writer_writeFields_3 : decode prog_3_method_3_code 3 = .ok (.iload 4, 2) := by decide +kernel
theorem d_Writer_writeFields_5 : decode prog_3_method_3_code 5 = .ok (.iload_n 2, 1) := by decide +kernel
theorem d_Writer_writeFields_6 : decode prog_3_method_3_code 6 = .ok (.if_icmp .ge 26, 3) := by decide +kernel
theorem d_Writer_writeFields_9 : decode prog_3_method_3_code 9 = .ok (.iload 4, 2) := by decide +kernel
theorem d_Writer_writeFields_11 : decode prog_3_method_3_code 11 = .ok (.aload_n 0, 1) := by decide +kernel
theorem d_Writer_writeFields_12 : decode prog_3_method_3_code 12 = .ok (.getfield 14, 3) := by decide +kernel
theorem d_Writer_writeFields_15 : decode prog_3_method_3_code 15 = .ok (.if_icmp .ge 17, 3) := by decide +kernel
theorem d_Writer_writeFields_18 : decode prog_3_method_3_code 18 = .ok (.aload_n 0, 1) := by decide +kernel
theorem d_Writer_writeFields_19 : decode prog_3_method_3_code 19 = .ok (.aload_n 1, 1) := by decide +kernel
theorem d_Writer_writeFields_20 : decode prog_3_method_3_code 20 = .ok (.iload 4, 2) := by decide +kernel
theorem d_Writer_writeFields_22 : decode prog_3_method_3_code 22 = .ok (.aload_n 3, 1) := by decide +kernel
theorem d_Writer_writeFields_23 : decode prog_3_method_3_code 23 = .ok (.invokestatic 30, 3) := by decide +kernel
theorem d_Writer_writeFields_26 : decode prog_3_method_3_code 26 = .ok (.iinc 4 1, 3) := by decide +kernel
theorem d_Writer_writeFields_29 : decode prog_3_method_3_code 29 = .ok (.goto (-26), 3) := by decide +kernel
theorem d_Writer_writeFields_32 : decode prog_3_method_3_code 32 = .ok (.return_, 1) := by decide +kernel
abbrev M_Writer_writeField : MethodName × ByteArray × Nat × Option FieldType := (⟨"KeyCodec$KeyWriter", "writeField", "(LKeyCodec$Schema;LKeyCodec$Tuple;ILKeyCodec$Row;)V"⟩, prog_3_method_4_code, 6, none)
theorem d_Writer_writeField_0 : decode prog_3_method_4_code 0 = .ok (.aload_n 1, 1) := by decide +kernel
theorem d_Writer_writeField_1 : decode prog_3_method_4_code 1 = .ok (.getfield 33, 3) := by decide +kernel
theorem d_Writer_writeField_4 : decode prog_3_method_4_code 4 = .ok (.iload_n 2, 1) := by decide +kernel
theorem d_Writer_writeField_5 : decode prog_3_method_4_code 5 = .ok (.aaload, 1) := by decide +kernel
theorem d_Writer_writeField_6 : decode prog_3_method_4_code 6 = .ok (.astore 4, 2) := by decide +kernel
theorem d_Writer_writeField_8 : decode prog_3_method_4_code 8 = .ok (.aload_n 0, 1) := by decide +kernel
theorem d_Writer_writeField_9 : decode prog_3_method_4_code 9 = .ok (.iload_n 2, 1) := by decide +kernel
theorem d_Writer_writeField_10 : decode prog_3_method_4_code 10 = .ok (.iconst 2, 1) := by decide +kernel
theorem d_Writer_writeField_11 : decode prog_3_method_4_code 11 = .ok (.invokevirtual 39, 3) := by decide +kernel
theorem d_Writer_writeField_14 : decode prog_3_method_4_code 14 = .ok (.ifCond .eq 24, 3) := by decide +kernel
theorem d_Writer_writeField_17 : decode prog_3_method_4_code 17 = .ok (.aload_n 3, 1) := by decide +kernel
theorem d_Writer_writeField_18 : decode prog_3_method_4_code 18 = .ok (.aload 4, 2) := by decide +kernel
theorem d_Writer_writeField_20 : decode prog_3_method_4_code 20 = .ok (.getfield 43, 3) := by decide +kernel
theorem d_Writer_writeField_23 : decode prog_3_method_4_code 23 = .ok (.ifCond .eq 11, 3) := by decide +kernel
theorem d_Writer_writeField_26 : decode prog_3_method_4_code 26 = .ok (.aload_n 0, 1) := by decide +kernel
theorem d_Writer_writeField_27 : decode prog_3_method_4_code 27 = .ok (.iload_n 2, 1) := by decide +kernel
theorem d_Writer_writeField_28 : decode prog_3_method_4_code 28 = .ok (.invokevirtual 49, 3) := by decide +kernel
theorem d_Writer_writeField_31 : decode prog_3_method_4_code 31 = .ok (.goto 4, 3) := by decide +kernel
theorem d_Writer_writeField_34 : decode prog_3_method_4_code 34 = .ok (.iconst 1, 1) := by decide +kernel
theorem d_Writer_writeField_35 : decode prog_3_method_4_code 35 = .ok (.invokevirtual 53, 3) := by decide +kernel
theorem d_Writer_writeField_38 : decode prog_3_method_4_code 38 = .ok (.aload 4, 2) := by decide +kernel
theorem d_Writer_writeField_40 : decode prog_3_method_4_code 40 = .ok (.getfield 43, 3) := by decide +kernel
theorem d_Writer_writeField_43 : decode prog_3_method_4_code 43 = .ok (.ifCond .eq 4, 3) := by decide +kernel
theorem d_Writer_writeField_46 : decode prog_3_method_4_code 46 = .ok (.return_, 1) := by decide +kernel
theorem d_Writer_writeField_47 : decode prog_3_method_4_code 47 = .ok (.aload_n 0, 1) := by decide +kernel
theorem d_Writer_writeField_48 : decode prog_3_method_4_code 48 = .ok (.iload_n 2, 1) := by decide +kernel
theorem d_Writer_writeField_49 : decode prog_3_method_4_code 49 = .ok (.invokevirtual 57, 3) := by decide +kernel
theorem d_Writer_writeField_52 : decode prog_3_method_4_code 52 = .ok (.istore 5, 2) := by decide +kernel
theorem d_Writer_writeField_54 : decode prog_3_method_4_code 54 = .ok (.aload_n 0, 1) := by decide +kernel
theorem d_Writer_writeField_55 : decode prog_3_method_4_code 55 = .ok (.getfield 60, 3) := by decide +kernel
theorem d_Writer_writeField_58 : decode prog_3_method_4_code 58 = .ok (.iload_n 2, 1) := by decide +kernel
theorem d_Writer_writeField_59 : decode prog_3_method_4_code 59 = .ok (.iaload, 1) := by decide +kernel
theorem d_Writer_writeField_60 : decode prog_3_method_4_code 60 = .ok (.lookupswitch 58 #[(1, 28), (2, 47)], 28) := by decide +kernel
theorem d_Writer_writeField_88 : decode prog_3_method_4_code 88 = .ok (.aload 4, 2) := by decide +kernel
theorem d_Writer_writeField_90 : decode prog_3_method_4_code 90 = .ok (.getfield 64, 3) := by decide +kernel
theorem d_Writer_writeField_93 : decode prog_3_method_4_code 93 = .ok (.aload 4, 2) := by decide +kernel
theorem d_Writer_writeField_95 : decode prog_3_method_4_code 95 = .ok (.getfield 68, 3) := by decide +kernel
theorem d_Writer_writeField_98 : decode prog_3_method_4_code 98 = .ok (.iload 5, 2) := by decide +kernel
theorem d_Writer_writeField_100 : decode prog_3_method_4_code 100 = .ok (.aload_n 3, 1) := by decide +kernel
theorem d_Writer_writeField_101 : decode prog_3_method_4_code 101 = .ok (.invokestatic 71, 3) := by decide +kernel
theorem d_Writer_writeField_104 : decode prog_3_method_4_code 104 = .ok (.goto 25, 3) := by decide +kernel
theorem d_Writer_writeField_107 : decode prog_3_method_4_code 107 = .ok (.aload 4, 2) := by decide +kernel
theorem d_Writer_writeField_109 : decode prog_3_method_4_code 109 = .ok (.iload 5, 2) := by decide +kernel
theorem d_Writer_writeField_111 : decode prog_3_method_4_code 111 = .ok (.aload_n 3, 1) := by decide +kernel
theorem d_Writer_writeField_112 : decode prog_3_method_4_code 112 = .ok (.invokestatic 75, 3) := by decide +kernel
theorem d_Writer_writeField_115 : decode prog_3_method_4_code 115 = .ok (.goto 14, 3) := by decide +kernel
theorem d_Writer_writeField_118 : decode prog_3_method_4_code 118 = .ok (.aload 4, 2) := by decide +kernel
theorem d_Writer_writeField_120 : decode prog_3_method_4_code 120 = .ok (.getfield 64, 3) := by decide +kernel
theorem d_Writer_writeField_123 : decode prog_3_method_4_code 123 = .ok (.iload 5, 2) := by decide +kernel
theorem d_Writer_writeField_125 : decode prog_3_method_4_code 125 = .ok (.aload_n 3, 1) := by decide +kernel
theorem d_Writer_writeField_126 : decode prog_3_method_4_code 126 = .ok (.invokestatic 79, 3) := by decide +kernel
theorem d_Writer_writeField_129 : decode prog_3_method_4_code 129 = .ok (.return_, 1) := by decide +kernel
abbrev M_Writer_writeInt : MethodName × ByteArray × Nat × Option FieldType := (⟨"KeyCodec$KeyWriter", "writeInt", "(JILKeyCodec$Row;)V"⟩, prog_3_method_5_code, 5, none)
theorem d_Writer_writeInt_0 : decode prog_3_method_5_code 0 = .ok (.lload_n 0, 1) := by decide +kernel
theorem d_Writer_writeInt_1 : decode prog_3_method_5_code 1 = .ok (.lconst 0, 1) := by decide +kernel
theorem d_Writer_writeInt_2 : decode prog_3_method_5_code 2 = .ok (.lcmp, 1) := by decide +kernel
theorem d_Writer_writeInt_3 : decode prog_3_method_5_code 3 = .ok (.ifCond .ge 11, 3) := by decide +kernel
theorem d_Writer_writeInt_6 : decode prog_3_method_5_code 6 = .ok (.ldc2_w 83, 3) := by decide +kernel
theorem d_Writer_writeInt_9 : decode prog_3_method_5_code 9 = .ok (.lload_n 0, 1) := by decide +kernel
theorem d_Writer_writeInt_10 : decode prog_3_method_5_code 10 = .ok (.lsub, 1) := by decide +kernel
theorem d_Writer_writeInt_11 : decode prog_3_method_5_code 11 = .ok (.goto 4, 3) := by decide +kernel
theorem d_Writer_writeInt_14 : decode prog_3_method_5_code 14 = .ok (.lload_n 0, 1) := by decide +kernel
theorem d_Writer_writeInt_15 : decode prog_3_method_5_code 15 = .ok (.invokestatic 85, 3) := by decide +kernel
theorem d_Writer_writeInt_18 : decode prog_3_method_5_code 18 = .ok (.istore 4, 2) := by decide +kernel
theorem d_Writer_writeInt_20 : decode prog_3_method_5_code 20 = .ok (.aload_n 3, 1) := by decide +kernel
theorem d_Writer_writeInt_21 : decode prog_3_method_5_code 21 = .ok (.lload_n 0, 1) := by decide +kernel
theorem d_Writer_writeInt_22 : decode prog_3_method_5_code 22 = .ok (.lconst 0, 1) := by decide +kernel
theorem d_Writer_writeInt_23 : decode prog_3_method_5_code 23 = .ok (.lcmp, 1) := by decide +kernel
theorem d_Writer_writeInt_24 : decode prog_3_method_5_code 24 = .ok (.ifCond .ge 11, 3) := by decide +kernel
theorem d_Writer_writeInt_27 : decode prog_3_method_5_code 27 = .ok (.bipush 127, 2) := by decide +kernel
theorem d_Writer_writeInt_29 : decode prog_3_method_5_code 29 = .ok (.iload 4, 2) := by decide +kernel
theorem d_Writer_writeInt_31 : decode prog_3_method_5_code 31 = .ok (.isub, 1) := by decide +kernel
theorem d_Writer_writeInt_32 : decode prog_3_method_5_code 32 = .ok (.goto 9, 3) := by decide +kernel
theorem d_Writer_writeInt_35 : decode prog_3_method_5_code 35 = .ok (.sipush 128, 3) := by decide +kernel
theorem d_Writer_writeInt_38 : decode prog_3_method_5_code 38 = .ok (.iload 4, 2) := by decide +kernel
theorem d_Writer_writeInt_40 : decode prog_3_method_5_code 40 = .ok (.iadd, 1) := by decide +kernel
theorem d_Writer_writeInt_41 : decode prog_3_method_5_code 41 = .ok (.iload_n 2, 1) := by decide +kernel
theorem d_Writer_writeInt_42 : decode prog_3_method_5_code 42 = .ok (.ixor, 1) := by decide +kernel
theorem d_Writer_writeInt_43 : decode prog_3_method_5_code 43 = .ok (.invokevirtual 53, 3) := by decide +kernel
theorem d_Writer_writeInt_46 : decode prog_3_method_5_code 46 = .ok (.aload_n 3, 1) := by decide +kernel
theorem d_Writer_writeInt_47 : decode prog_3_method_5_code 47 = .ok (.iload 4, 2) := by decide +kernel
theorem d_Writer_writeInt_49 : decode prog_3_method_5_code 49 = .ok (.lload_n 0, 1) := by decide +kernel
theorem d_Writer_writeInt_50 : decode prog_3_method_5_code 50 = .ok (.iload_n 2, 1) := by decide +kernel
theorem d_Writer_writeInt_51 : decode prog_3_method_5_code 51 = .ok (.invokevirtual 89, 3) := by decide +kernel
theorem d_Writer_writeInt_54 : decode prog_3_method_5_code 54 = .ok (.return_, 1) := by decide +kernel
abbrev M_Writer_bytesNeeded : MethodName × ByteArray × Nat × Option FieldType := (⟨"KeyCodec$KeyWriter", "bytesNeeded", "(J)I"⟩, prog_3_method_6_code, 3, some .int)
theorem d_Writer_bytesNeeded_0 : decode prog_3_method_6_code 0 = .ok (.iconst 0, 1) := by decide +kernel
theorem d_Writer_bytesNeeded_1 : decode prog_3_method_6_code 1 = .ok (.istore_n 2, 1) := by decide +kernel
theorem d_Writer_bytesNeeded_2 : decode prog_3_method_6_code 2 = .ok (.iload_n 2, 1) := by decide +kernel
theorem d_Writer_bytesNeeded_3 : decode prog_3_method_6_code 3 = .ok (.bipush 8, 2) := by decide +kernel
theorem d_Writer_bytesNeeded_5 : decode prog_3_method_6_code 5 = .ok (.if_icmp .ge 20, 3) := by decide +kernel
theorem d_Writer_bytesNeeded_8 : decode prog_3_method_6_code 8 = .ok (.lload_n 0, 1) := by decide +kernel
theorem d_Writer_bytesNeeded_9 : decode prog_3_method_6_code 9 = .ok (.bipush 8, 2) := by decide +kernel
theorem d_Writer_bytesNeeded_11 : decode prog_3_method_6_code 11 = .ok (.iload_n 2, 1) := by decide +kernel
theorem d_Writer_bytesNeeded_12 : decode prog_3_method_6_code 12 = .ok (.imul, 1) := by decide +kernel
theorem d_Writer_bytesNeeded_13 : decode prog_3_method_6_code 13 = .ok (.lushr, 1) := by decide +kernel
theorem d_Writer_bytesNeeded_14 : decode prog_3_method_6_code 14 = .ok (.lconst 0, 1) := by decide +kernel
theorem d_Writer_bytesNeeded_15 : decode prog_3_method_6_code 15 = .ok (.lcmp, 1) := by decide +kernel
theorem d_Writer_bytesNeeded_16 : decode prog_3_method_6_code 16 = .ok (.ifCond .eq 9, 3) := by decide +kernel
theorem d_Writer_bytesNeeded_19 : decode prog_3_method_6_code 19 = .ok (.iinc 2 1, 3) := by decide +kernel
theorem d_Writer_bytesNeeded_22 : decode prog_3_method_6_code 22 = .ok (.goto (-20), 3) := by decide +kernel
theorem d_Writer_bytesNeeded_25 : decode prog_3_method_6_code 25 = .ok (.iload_n 2, 1) := by decide +kernel
theorem d_Writer_bytesNeeded_26 : decode prog_3_method_6_code 26 = .ok (.ireturn, 1) := by decide +kernel
abbrev M_Writer_writeText : MethodName × ByteArray × Nat × Option FieldType := (⟨"KeyCodec$KeyWriter", "writeText", "(LKeyCodec$Value;ILKeyCodec$Row;)V"⟩, prog_3_method_7_code, 4, none)
theorem d_Writer_writeText_0 : decode prog_3_method_7_code 0 = .ok (.iconst 0, 1) := by decide +kernel
theorem d_Writer_writeText_1 : decode prog_3_method_7_code 1 = .ok (.istore_n 3, 1) := by decide +kernel
theorem d_Writer_writeText_2 : decode prog_3_method_7_code 2 = .ok (.iload_n 3, 1) := by decide +kernel
theorem d_Writer_writeText_3 : decode prog_3_method_7_code 3 = .ok (.aload_n 0, 1) := by decide +kernel
theorem d_Writer_writeText_4 : decode prog_3_method_7_code 4 = .ok (.getfield 93, 3) := by decide +kernel
theorem d_Writer_writeText_7 : decode prog_3_method_7_code 7 = .ok (.if_icmp .ge 45, 3) := by decide +kernel
theorem d_Writer_writeText_10 : decode prog_3_method_7_code 10 = .ok (.iload_n 3, 1) := by decide +kernel
theorem d_Writer_writeText_11 : decode prog_3_method_7_code 11 = .ok (.bipush 10, 2) := by decide +kernel
theorem d_Writer_writeText_13 : decode prog_3_method_7_code 13 = .ok (.if_icmp .ge 39, 3) := by decide +kernel
theorem d_Writer_writeText_16 : decode prog_3_method_7_code 16 = .ok (.aload_n 2, 1) := by decide +kernel
theorem d_Writer_writeText_17 : decode prog_3_method_7_code 17 = .ok (.aload_n 0, 1) := by decide +kernel
theorem d_Writer_writeText_18 : decode prog_3_method_7_code 18 = .ok (.getfield 96, 3) := by decide +kernel
theorem d_Writer_writeText_21 : decode prog_3_method_7_code 21 = .ok (.iload_n 3, 1) := by decide +kernel
theorem d_Writer_writeText_22 : decode prog_3_method_7_code 22 = .ok (.iaload, 1) := by decide +kernel
theorem d_Writer_writeText_23 : decode prog_3_method_7_code 23 = .ok (.iload_n 1, 1) := by decide +kernel
theorem d_Writer_writeText_24 : decode prog_3_method_7_code 24 = .ok (.ixor, 1) := by decide +kernel
theorem d_Writer_writeText_25 : decode prog_3_method_7_code 25 = .ok (.invokevirtual 53, 3) := by decide +kernel
theorem d_Writer_writeText_28 : decode prog_3_method_7_code 28 = .ok (.aload_n 0, 1) := by decide +kernel
theorem d_Writer_writeText_29 : decode prog_3_method_7_code 29 = .ok (.getfield 96, 3) := by decide +kernel
theorem d_Writer_writeText_32 : decode prog_3_method_7_code 32 = .ok (.iload_n 3, 1) := by decide +kernel
theorem d_Writer_writeText_33 : decode prog_3_method_7_code 33 = .ok (.iaload, 1) := by decide +kernel
theorem d_Writer_writeText_34 : decode prog_3_method_7_code 34 = .ok (.ifCond .ne 12, 3) := by decide +kernel
theorem d_Writer_writeText_37 : decode prog_3_method_7_code 37 = .ok (.aload_n 2, 1) := by decide +kernel
theorem d_Writer_writeText_38 : decode prog_3_method_7_code 38 = .ok (.sipush 255, 3) := by decide +kernel
theorem d_Writer_writeText_41 : decode prog_3_method_7_code 41 = .ok (.iload_n 1, 1) := by decide +kernel
theorem d_Writer_writeText_42 : decode prog_3_method_7_code 42 = .ok (.ixor, 1) := by decide +kernel
theorem d_Writer_writeText_43 : decode prog_3_method_7_code 43 = .ok (.invokevirtual 53, 3) := by decide +kernel
theorem d_Writer_writeText_46 : decode prog_3_method_7_code 46 = .ok (.iinc 3 1, 3) := by decide +kernel
theorem d_Writer_writeText_49 : decode prog_3_method_7_code 49 = .ok (.goto (-47), 3) := by decide +kernel
theorem d_Writer_writeText_52 : decode prog_3_method_7_code 52 = .ok (.aload_n 2, 1) := by decide +kernel
theorem d_Writer_writeText_53 : decode prog_3_method_7_code 53 = .ok (.iconst 0, 1) := by decide +kernel
theorem d_Writer_writeText_54 : decode prog_3_method_7_code 54 = .ok (.iload_n 1, 1) := by decide +kernel
theorem d_Writer_writeText_55 : decode prog_3_method_7_code 55 = .ok (.ixor, 1) := by decide +kernel
theorem d_Writer_writeText_56 : decode prog_3_method_7_code 56 = .ok (.invokevirtual 53, 3) := by decide +kernel
theorem d_Writer_writeText_59 : decode prog_3_method_7_code 59 = .ok (.aload_n 2, 1) := by decide +kernel
theorem d_Writer_writeText_60 : decode prog_3_method_7_code 60 = .ok (.iconst 1, 1) := by decide +kernel
theorem d_Writer_writeText_61 : decode prog_3_method_7_code 61 = .ok (.iload_n 1, 1) := by decide +kernel
theorem d_Writer_writeText_62 : decode prog_3_method_7_code 62 = .ok (.ixor, 1) := by decide +kernel
theorem d_Writer_writeText_63 : decode prog_3_method_7_code 63 = .ok (.invokevirtual 53, 3) := by decide +kernel
theorem d_Writer_writeText_66 : decode prog_3_method_7_code 66 = .ok (.return_, 1) := by decide +kernel
abbrev M_Writer_writeDecimal : MethodName × ByteArray × Nat × Option FieldType := (⟨"KeyCodec$KeyWriter", "writeDecimal", "(JIILKeyCodec$Row;)V"⟩, prog_3_method_8_code, 5, none)
theorem d_Writer_writeDecimal_0 : decode prog_3_method_8_code 0 = .ok (.lload_n 0, 1) := by decide +kernel
theorem d_Writer_writeDecimal_1 : decode prog_3_method_8_code 1 = .ok (.lconst 0, 1) := by decide +kernel
theorem d_Writer_writeDecimal_2 : decode prog_3_method_8_code 2 = .ok (.lcmp, 1) := by decide +kernel
theorem d_Writer_writeDecimal_3 : decode prog_3_method_8_code 3 = .ok (.ifCond .ne 12, 3) := by decide +kernel
theorem d_Writer_writeDecimal_6 : decode prog_3_method_8_code 6 = .ok (.aload 4, 2) := by decide +kernel
theorem d_Writer_writeDecimal_8 : decode prog_3_method_8_code 8 = .ok (.iconst 2, 1) := by decide +kernel
theorem d_Writer_writeDecimal_9 : decode prog_3_method_8_code 9 = .ok (.iload_n 3, 1) := by decide +kernel
theorem d_Writer_writeDecimal_10 : decode prog_3_method_8_code 10 = .ok (.ixor, 1) := by decide +kernel
theorem d_Writer_writeDecimal_11 : decode prog_3_method_8_code 11 = .ok (.invokevirtual 53, 3) := by decide +kernel
theorem d_Writer_writeDecimal_14 : decode prog_3_method_8_code 14 = .ok (.return_, 1) := by decide +kernel
theorem d_Writer_writeDecimal_15 : decode prog_3_method_8_code 15 = .ok (.aload 4, 2) := by decide +kernel
theorem d_Writer_writeDecimal_17 : decode prog_3_method_8_code 17 = .ok (.lload_n 0, 1) := by decide +kernel
theorem d_Writer_writeDecimal_18 : decode prog_3_method_8_code 18 = .ok (.lconst 0, 1) := by decide +kernel
theorem d_Writer_writeDecimal_19 : decode prog_3_method_8_code 19 = .ok (.lcmp, 1) := by decide +kernel
theorem d_Writer_writeDecimal_20 : decode prog_3_method_8_code 20 = .ok (.ifCond .ge 7, 3) := by decide +kernel
theorem d_Writer_writeDecimal_23 : decode prog_3_method_8_code 23 = .ok (.iconst 1, 1) := by decide +kernel
theorem d_Writer_writeDecimal_24 : decode prog_3_method_8_code 24 = .ok (.goto 4, 3) := by decide +kernel
theorem d_Writer_writeDecimal_27 : decode prog_3_method_8_code 27 = .ok (.iconst 3, 1) := by decide +kernel
theorem d_Writer_writeDecimal_28 : decode prog_3_method_8_code 28 = .ok (.iload_n 3, 1) := by decide +kernel
theorem d_Writer_writeDecimal_29 : decode prog_3_method_8_code 29 = .ok (.ixor, 1) := by decide +kernel
theorem d_Writer_writeDecimal_30 : decode prog_3_method_8_code 30 = .ok (.invokevirtual 53, 3) := by decide +kernel
theorem d_Writer_writeDecimal_33 : decode prog_3_method_8_code 33 = .ok (.lload_n 0, 1) := by decide +kernel
theorem d_Writer_writeDecimal_34 : decode prog_3_method_8_code 34 = .ok (.invokestatic 99, 3) := by decide +kernel
theorem d_Writer_writeDecimal_37 : decode prog_3_method_8_code 37 = .ok (.iload_n 2, 1) := by decide +kernel
theorem d_Writer_writeDecimal_38 : decode prog_3_method_8_code 38 = .ok (.lload_n 0, 1) := by decide +kernel
theorem d_Writer_writeDecimal_39 : decode prog_3_method_8_code 39 = .ok (.lconst 0, 1) := by decide +kernel
theorem d_Writer_writeDecimal_40 : decode prog_3_method_8_code 40 = .ok (.lcmp, 1) := by decide +kernel
theorem d_Writer_writeDecimal_41 : decode prog_3_method_8_code 41 = .ok (.ifCond .ge 11, 3) := by decide +kernel
theorem d_Writer_writeDecimal_44 : decode prog_3_method_8_code 44 = .ok (.iload_n 3, 1) := by decide +kernel
theorem d_Writer_writeDecimal_45 : decode prog_3_method_8_code 45 = .ok (.sipush 255, 3) := by decide +kernel
theorem d_Writer_writeDecimal_48 : decode prog_3_method_8_code 48 = .ok (.ixor, 1) := by decide +kernel
theorem d_Writer_writeDecimal_49 : decode prog_3_method_8_code 49 = .ok (.goto 4, 3) := by decide +kernel
theorem d_Writer_writeDecimal_52 : decode prog_3_method_8_code 52 = .ok (.iload_n 3, 1) := by decide +kernel
theorem d_Writer_writeDecimal_53 : decode prog_3_method_8_code 53 = .ok (.aload 4, 2) := by decide +kernel
theorem d_Writer_writeDecimal_55 : decode prog_3_method_8_code 55 = .ok (.invokestatic 105, 3) := by decide +kernel
theorem d_Writer_writeDecimal_58 : decode prog_3_method_8_code 58 = .ok (.return_, 1) := by decide +kernel
abbrev M_Writer_writeFraction : MethodName × ByteArray × Nat × Option FieldType := (⟨"KeyCodec$KeyWriter", "writeFraction", "(JIILKeyCodec$Row;)V"⟩, prog_3_method_9_code, 12, none)
theorem d_Writer_writeFraction_0 : decode prog_3_method_9_code 0 = .ok (.iconst 1, 1) := by decide +kernel
theorem d_Writer_writeFraction_1 : decode prog_3_method_9_code 1 = .ok (.istore 5, 2) := by decide +kernel
theorem d_Writer_writeFraction_3 : decode prog_3_method_9_code 3 = .ok (.lconst 1, 1) := by decide +kernel
theorem d_Writer_writeFraction_4 : decode prog_3_method_9_code 4 = .ok (.lstore 6, 2) := by decide +kernel
theorem d_Writer_writeFraction_6 : decode prog_3_method_9_code 6 = .ok (.iload 5, 2) := by decide +kernel
theorem d_Writer_writeFraction_8 : decode prog_3_method_9_code 8 = .ok (.bipush 16, 2) := by decide +kernel
theorem d_Writer_writeFraction_10 : decode prog_3_method_9_code 10 = .ok (.if_icmp .ge 28, 3) := by decide +kernel
theorem d_Writer_writeFraction_13 : decode prog_3_method_9_code 13 = .ok (.lload_n 0, 1) := by decide +kernel
theorem d_Writer_writeFraction_14 : decode prog_3_method_9_code 14 = .ok (.lload 6, 2) := by decide +kernel
theorem d_Writer_writeFraction_16 : decode prog_3_method_9_code 16 = .ok (.ldiv, 1) := by decide +kernel
theorem d_Writer_writeFraction_17 : decode prog_3_method_9_code 17 = .ok (.ldc2_w 108, 3) := by decide +kernel
theorem d_Writer_writeFraction_20 : decode prog_3_method_9_code 20 = .ok (.lcmp, 1) := by decide +kernel
theorem d_Writer_writeFraction_21 : decode prog_3_method_9_code 21 = .ok (.ifCond .lt 17, 3) := by decide +kernel
theorem d_Writer_writeFraction_24 : decode prog_3_method_9_code 24 = .ok (.lload 6, 2) := by decide +kernel
theorem d_Writer_writeFraction_26 : decode prog_3_method_9_code 26 = .ok (.ldc2_w 108, 3) := by decide +kernel
theorem d_Writer_writeFraction_29 : decode prog_3_method_9_code 29 = .ok (.lmul, 1) := by decide +kernel
theorem d_Writer_writeFraction_30 : decode prog_3_method_9_code 30 = .ok (.lstore 6, 2) := by decide +kernel
theorem d_Writer_writeFraction_32 : decode prog_3_method_9_code 32 = .ok (.iinc 5 1, 3) := by decide +kernel
theorem d_Writer_writeFraction_35 : decode prog_3_method_9_code 35 = .ok (.goto (-29), 3) := by decide +kernel
theorem d_Writer_writeFraction_38 : decode prog_3_method_9_code 38 = .ok (.aload 4, 2) := by decide +kernel
theorem d_Writer_writeFraction_40 : decode prog_3_method_9_code 40 = .ok (.iload 5, 2) := by decide +kernel
theorem d_Writer_writeFraction_42 : decode prog_3_method_9_code 42 = .ok (.iload_n 2, 1) := by decide +kernel
theorem d_Writer_writeFraction_43 : decode prog_3_method_9_code 43 = .ok (.isub, 1) := by decide +kernel
theorem d_Writer_writeFraction_44 : decode prog_3_method_9_code 44 = .ok (.bipush 64, 2) := by decide +kernel
theorem d_Writer_writeFraction_46 : decode prog_3_method_9_code 46 = .ok (.iadd, 1) := by decide +kernel
theorem d_Writer_writeFraction_47 : decode prog_3_method_9_code 47 = .ok (.iload_n 3, 1) := by decide +kernel
theorem d_Writer_writeFraction_48 : decode prog_3_method_9_code 48 = .ok (.ixor, 1) := by decide +kernel
theorem d_Writer_writeFraction_49 : decode prog_3_method_9_code 49 = .ok (.invokevirtual 53, 3) := by decide +kernel
theorem d_Writer_writeFraction_52 : decode prog_3_method_9_code 52 = .ok (.lload_n 0, 1) := by decide +kernel
theorem d_Writer_writeFraction_53 : decode prog_3_method_9_code 53 = .ok (.lstore 8, 2) := by decide +kernel
theorem d_Writer_writeFraction_55 : decode prog_3_method_9_code 55 = .ok (.lload 6, 2) := by decide +kernel
theorem d_Writer_writeFraction_57 : decode prog_3_method_9_code 57 = .ok (.lstore 10, 2) := by decide +kernel
theorem d_Writer_writeFraction_59 : decode prog_3_method_9_code 59 = .ok (.lload 10, 2) := by decide +kernel
theorem d_Writer_writeFraction_61 : decode prog_3_method_9_code 61 = .ok (.lconst 0, 1) := by decide +kernel
theorem d_Writer_writeFraction_62 : decode prog_3_method_9_code 62 = .ok (.lcmp, 1) := by decide +kernel
theorem d_Writer_writeFraction_63 : decode prog_3_method_9_code 63 = .ok (.ifCond .le 43, 3) := by decide +kernel
theorem d_Writer_writeFraction_66 : decode prog_3_method_9_code 66 = .ok (.lload 8, 2) := by decide +kernel
theorem d_Writer_writeFraction_68 : decode prog_3_method_9_code 68 = .ok (.lconst 0, 1) := by decide +kernel
theorem d_Writer_writeFraction_69 : decode prog_3_method_9_code 69 = .ok (.lcmp, 1) := by decide +kernel
theorem d_Writer_writeFraction_70 : decode prog_3_method_9_code 70 = .ok (.ifCond .le 36, 3) := by decide +kernel
theorem d_Writer_writeFraction_73 : decode prog_3_method_9_code 73 = .ok (.aload 4, 2) := by decide +kernel
theorem d_Writer_writeFraction_75 : decode prog_3_method_9_code 75 = .ok (.lload 8, 2) := by decide +kernel
theorem d_Writer_writeFraction_77 : decode prog_3_method_9_code 77 = .ok (.lload 10, 2) := by decide +kernel
theorem d_Writer_writeFraction_79 : decode prog_3_method_9_code 79 = .ok (.ldiv, 1) := by decide +kernel
theorem d_Writer_writeFraction_80 : decode prog_3_method_9_code 80 = .ok (.lconst 1, 1) := by decide +kernel
theorem d_Writer_writeFraction_81 : decode prog_3_method_9_code 81 = .ok (.ladd, 1) := by decide +kernel
theorem d_Writer_writeFraction_82 : decode prog_3_method_9_code 82 = .ok (.l2i, 1) := by decide +kernel
theorem d_Writer_writeFraction_83 : decode prog_3_method_9_code 83 = .ok (.iload_n 3, 1) := by decide +kernel
theorem d_Writer_writeFraction_84 : decode prog_3_method_9_code 84 = .ok (.ixor, 1) := by decide +kernel
theorem d_Writer_writeFraction_85 : decode prog_3_method_9_code 85 = .ok (.invokevirtual 53, 3) := by decide +kernel
theorem d_Writer_writeFraction_88 : decode prog_3_method_9_code 88 = .ok (.lload 8, 2) := by decide +kernel
theorem d_Writer_writeFraction_90 : decode prog_3_method_9_code 90 = .ok (.lload 10, 2) := by decide +kernel
theorem d_Writer_writeFraction_92 : decode prog_3_method_9_code 92 = .ok (.lrem, 1) := by decide +kernel
theorem d_Writer_writeFraction_93 : decode prog_3_method_9_code 93 = .ok (.lstore 8, 2) := by decide +kernel
theorem d_Writer_writeFraction_95 : decode prog_3_method_9_code 95 = .ok (.lload 10, 2) := by decide +kernel
theorem d_Writer_writeFraction_97 : decode prog_3_method_9_code 97 = .ok (.ldc2_w 108, 3) := by decide +kernel
theorem d_Writer_writeFraction_100 : decode prog_3_method_9_code 100 = .ok (.ldiv, 1) := by decide +kernel
theorem d_Writer_writeFraction_101 : decode prog_3_method_9_code 101 = .ok (.lstore 10, 2) := by decide +kernel
theorem d_Writer_writeFraction_103 : decode prog_3_method_9_code 103 = .ok (.goto (-44), 3) := by decide +kernel
theorem d_Writer_writeFraction_106 : decode prog_3_method_9_code 106 = .ok (.aload 4, 2) := by decide +kernel
theorem d_Writer_writeFraction_108 : decode prog_3_method_9_code 108 = .ok (.iconst 0, 1) := by decide +kernel
theorem d_Writer_writeFraction_109 : decode prog_3_method_9_code 109 = .ok (.iload_n 3, 1) := by decide +kernel
theorem d_Writer_writeFraction_110 : decode prog_3_method_9_code 110 = .ok (.ixor, 1) := by decide +kernel
theorem d_Writer_writeFraction_111 : decode prog_3_method_9_code 111 = .ok (.invokevirtual 53, 3) := by decide +kernel
theorem d_Writer_writeFraction_114 : decode prog_3_method_9_code 114 = .ok (.return_, 1) := by decide +kernel
abbrev M_Writer_writeTail : MethodName × ByteArray × Nat × Option FieldType := (⟨"KeyCodec$KeyWriter", "writeTail", "(LKeyCodec$Schema;LKeyCodec$Tuple;LKeyCodec$Row;)V"⟩, prog_3_method_10_code, 5, none)
theorem d_Writer_writeTail_0 : decode prog_3_method_10_code 0 = .ok (.iconst 0, 1) := by decide +kernel
theorem d_Writer_writeTail_1 : decode prog_3_method_10_code 1 = .ok (.istore_n 3, 1) := by decide +kernel
theorem d_Writer_writeTail_2 : decode prog_3_method_10_code 2 = .ok (.iload_n 3, 1) := by decide +kernel
theorem d_Writer_writeTail_3 : decode prog_3_method_10_code 3 = .ok (.aload_n 0, 1) := by decide +kernel
theorem d_Writer_writeTail_4 : decode prog_3_method_10_code 4 = .ok (.getfield 14, 3) := by decide +kernel
theorem d_Writer_writeTail_7 : decode prog_3_method_10_code 7 = .ok (.if_icmp .ge 76, 3) := by decide +kernel
theorem d_Writer_writeTail_10 : decode prog_3_method_10_code 10 = .ok (.aload_n 1, 1) := by decide +kernel
theorem d_Writer_writeTail_11 : decode prog_3_method_10_code 11 = .ok (.getfield 33, 3) := by decide +kernel
theorem d_Writer_writeTail_14 : decode prog_3_method_10_code 14 = .ok (.iload_n 3, 1) := by decide +kernel
theorem d_Writer_writeTail_15 : decode prog_3_method_10_code 15 = .ok (.aaload, 1) := by decide +kernel
theorem d_Writer_writeTail_16 : decode prog_3_method_10_code 16 = .ok (.astore 4, 2) := by decide +kernel
theorem d_Writer_writeTail_18 : decode prog_3_method_10_code 18 = .ok (.aload 4, 2) := by decide +kernel
theorem d_Writer_writeTail_20 : decode prog_3_method_10_code 20 = .ok (.getfield 43, 3) := by decide +kernel
theorem d_Writer_writeTail_23 : decode prog_3_method_10_code 23 = .ok (.ifCond .eq 6, 3) := by decide +kernel
theorem d_Writer_writeTail_26 : decode prog_3_method_10_code 26 = .ok (.goto 51, 3) := by decide +kernel
theorem d_Writer_writeTail_29 : decode prog_3_method_10_code 29 = .ok (.aload_n 0, 1) := by decide +kernel
theorem d_Writer_writeTail_30 : decode prog_3_method_10_code 30 = .ok (.getfield 60, 3) := by decide +kernel
theorem d_Writer_writeTail_33 : decode prog_3_method_10_code 33 = .ok (.iload_n 3, 1) := by decide +kernel
theorem d_Writer_writeTail_34 : decode prog_3_method_10_code 34 = .ok (.iaload, 1) := by decide +kernel
theorem d_Writer_writeTail_35 : decode prog_3_method_10_code 35 = .ok (.iconst 1, 1) := by decide +kernel
theorem d_Writer_writeTail_36 : decode prog_3_method_10_code 36 = .ok (.if_icmp .ne 15, 3) := by decide +kernel
theorem d_Writer_writeTail_39 : decode prog_3_method_10_code 39 = .ok (.aload_n 2, 1) := by decide +kernel
theorem d_Writer_writeTail_40 : decode prog_3_method_10_code 40 = .ok (.aload 4, 2) := by decide +kernel
theorem d_Writer_writeTail_42 : decode prog_3_method_10_code 42 = .ok (.getfield 68, 3) := by decide +kernel
theorem d_Writer_writeTail_45 : decode prog_3_method_10_code 45 = .ok (.invokevirtual 53, 3) := by decide +kernel
theorem d_Writer_writeTail_48 : decode prog_3_method_10_code 48 = .ok (.goto 29, 3) := by decide +kernel
theorem d_Writer_writeTail_51 : decode prog_3_method_10_code 51 = .ok (.aload_n 0, 1) := by decide +kernel
theorem d_Writer_writeTail_52 : decode prog_3_method_10_code 52 = .ok (.getfield 60, 3) := by decide +kernel
theorem d_Writer_writeTail_55 : decode prog_3_method_10_code 55 = .ok (.iload_n 3, 1) := by decide +kernel
theorem d_Writer_writeTail_56 : decode prog_3_method_10_code 56 = .ok (.iaload, 1) := by decide +kernel
theorem d_Writer_writeTail_57 : decode prog_3_method_10_code 57 = .ok (.iconst 3, 1) := by decide +kernel
theorem d_Writer_writeTail_58 : decode prog_3_method_10_code 58 = .ok (.if_icmp .ne 19, 3) := by decide +kernel
theorem d_Writer_writeTail_61 : decode prog_3_method_10_code 61 = .ok (.aload_n 2, 1) := by decide +kernel
theorem d_Writer_writeTail_62 : decode prog_3_method_10_code 62 = .ok (.iconst 2, 1) := by decide +kernel
theorem d_Writer_writeTail_63 : decode prog_3_method_10_code 63 = .ok (.aload 4, 2) := by decide +kernel
theorem d_Writer_writeTail_65 : decode prog_3_method_10_code 65 = .ok (.getfield 68, 3) := by decide +kernel
theorem d_Writer_writeTail_68 : decode prog_3_method_10_code 68 = .ok (.sipush 1000, 3) := by decide +kernel
theorem d_Writer_writeTail_71 : decode prog_3_method_10_code 71 = .ok (.iadd, 1) := by decide +kernel
theorem d_Writer_writeTail_72 : decode prog_3_method_10_code 72 = .ok (.i2l, 1) := by decide +kernel
theorem d_Writer_writeTail_73 : decode prog_3_method_10_code 73 = .ok (.iconst 0, 1) := by decide +kernel
theorem d_Writer_writeTail_74 : decode prog_3_method_10_code 74 = .ok (.invokevirtual 89, 3) := by decide +kernel
theorem d_Writer_writeTail_77 : decode prog_3_method_10_code 77 = .ok (.iinc 3 1, 3) := by decide +kernel
theorem d_Writer_writeTail_80 : decode prog_3_method_10_code 80 = .ok (.goto (-78), 3) := by decide +kernel
theorem d_Writer_writeTail_83 : decode prog_3_method_10_code 83 = .ok (.return_, 1) := by decide +kernel
theorem kb_Row_empty : kCB M_Row_empty 0 := ⟨km 5 (by decide +kernel) (by decide +kernel), km 176 (by decide +kernel) (by decide +kernel), by decide +kernel, by decide +kernel⟩
theorem lg_Writer_9 : kCV "KeyCodec$KeyWriter" 9 M_Row_empty 0 1 := ⟨kb_Row_empty, km 486 (by decide +kernel) (by decide +kernel), km 174 (by decide +kernel) (by decide +kernel), km 175 (by decide +kernel) (by decide +kernel), (F_Row, 2), rfl⟩
theorem lf_Writer_14 : Cond.fieldLink "KeyCodec$KeyWriter" (14 : Nat) "KeyCodec$Schema" "count" "I" ∈ kTs := km 37 (by decide +kernel) (by decide +kernel)
theorem kb_Writer_writeFields : kCB M_Writer_writeFields 4 := ⟨km 12 (by decide +kernel) (by decide +kernel), km 285 (by decide +kernel) (by decide +kernel), by decide +kernel, by decide +kernel⟩
theorem lg_Writer_20 : kCS "KeyCodec$KeyWriter" 20 M_Writer_writeFields 4 := ⟨kb_Writer_writeFields, km 487 (by decide +kernel) (by decide +kernel), km 284 (by decide +kernel) (by decide +kernel)⟩
theorem kb_Writer_writeTail : kCB M_Writer_writeTail 3 := ⟨km 12 (by decide +kernel) (by decide +kernel), km 490 (by decide +kernel) (by decide +kernel), by decide +kernel, by decide +kernel⟩
theorem lg_Writer_26 : kCS "KeyCodec$KeyWriter" 26 M_Writer_writeTail 3 := ⟨kb_Writer_writeTail, km 488 (by decide +kernel) (by decide +kernel), km 489 (by decide +kernel) (by decide +kernel)⟩
theorem kb_Writer_writeField : kCB M_Writer_writeField 4 := ⟨km 12 (by decide +kernel) (by decide +kernel), km 288 (by decide +kernel) (by decide +kernel), by decide +kernel, by decide +kernel⟩
theorem lg_Writer_30 : kCS "KeyCodec$KeyWriter" 30 M_Writer_writeField 4 := ⟨kb_Writer_writeField, km 286 (by decide +kernel) (by decide +kernel), km 287 (by decide +kernel) (by decide +kernel)⟩
theorem lf_Writer_33 : Cond.fieldLink "KeyCodec$KeyWriter" (33 : Nat) "KeyCodec$Tuple" "values" "[LKeyCodec$Value;" ∈ kTs := km 95 (by decide +kernel) (by decide +kernel)
theorem lg_Writer_39 : kCV "KeyCodec$KeyWriter" 39 M_Schema_has 2 4 := ⟨kb_Schema_has, km 289 (by decide +kernel) (by decide +kernel), km 207 (by decide +kernel) (by decide +kernel), km 208 (by decide +kernel) (by decide +kernel), (F_Schema, 4), rfl⟩
theorem lf_Writer_43 : Cond.fieldLink "KeyCodec$KeyWriter" (43 : Nat) "KeyCodec$Value" "missing" "Z" ∈ kTs := km 67 (by decide +kernel) (by decide +kernel)
theorem kb_Schema_absentMark : kCB M_Schema_absentMark 1 := ⟨km 2 (by decide +kernel) (by decide +kernel), km 293 (by decide +kernel) (by decide +kernel), by decide +kernel, by decide +kernel⟩
theorem lg_Writer_49 : kCV "KeyCodec$KeyWriter" 49 M_Schema_absentMark 1 4 := ⟨kb_Schema_absentMark, km 290 (by decide +kernel) (by decide +kernel), km 291 (by decide +kernel) (by decide +kernel), km 292 (by decide +kernel) (by decide +kernel), (F_Schema, 4), rfl⟩
theorem lg_Writer_53 : kCV "KeyCodec$KeyWriter" 53 M_Row_append 1 1 := ⟨kb_Row_append, km 295 (by decide +kernel) (by decide +kernel), km 237 (by decide +kernel) (by decide +kernel), km 238 (by decide +kernel) (by decide +kernel), (F_Row, 2), rfl⟩
theorem kb_Schema_turnOf : kCB M_Schema_turnOf 1 := ⟨km 2 (by decide +kernel) (by decide +kernel), km 299 (by decide +kernel) (by decide +kernel), by decide +kernel, by decide +kernel⟩
theorem lg_Writer_57 : kCV "KeyCodec$KeyWriter" 57 M_Schema_turnOf 1 4 := ⟨kb_Schema_turnOf, km 296 (by decide +kernel) (by decide +kernel), km 297 (by decide +kernel) (by decide +kernel), km 298 (by decide +kernel) (by decide +kernel), (F_Schema, 4), rfl⟩
theorem lf_Writer_60 : Cond.fieldLink "KeyCodec$KeyWriter" (60 : Nat) "KeyCodec$Schema" "kinds" "[I" ∈ kTs := km 32 (by decide +kernel) (by decide +kernel)
theorem lf_Writer_64 : Cond.fieldLink "KeyCodec$KeyWriter" (64 : Nat) "KeyCodec$Value" "number" "J" ∈ kTs := km 70 (by decide +kernel) (by decide +kernel)
theorem lf_Writer_68 : Cond.fieldLink "KeyCodec$KeyWriter" (68 : Nat) "KeyCodec$Value" "form" "I" ∈ kTs := km 74 (by decide +kernel) (by decide +kernel)
theorem kb_Writer_writeDecimal : kCB M_Writer_writeDecimal 4 := ⟨km 12 (by decide +kernel) (by decide +kernel), km 302 (by decide +kernel) (by decide +kernel), by decide +kernel, by decide +kernel⟩
theorem lg_Writer_71 : kCS "KeyCodec$KeyWriter" 71 M_Writer_writeDecimal 4 := ⟨kb_Writer_writeDecimal, km 300 (by decide +kernel) (by decide +kernel), km 301 (by decide +kernel) (by decide +kernel)⟩
theorem kb_Writer_writeText : kCB M_Writer_writeText 3 := ⟨km 12 (by decide +kernel) (by decide +kernel), km 312 (by decide +kernel) (by decide +kernel), by decide +kernel, by decide +kernel⟩
theorem lg_Writer_75 : kCS "KeyCodec$KeyWriter" 75 M_Writer_writeText 3 := ⟨kb_Writer_writeText, km 310 (by decide +kernel) (by decide +kernel), km 311 (by decide +kernel) (by decide +kernel)⟩
theorem kb_Writer_writeInt : kCB M_Writer_writeInt 3 := ⟨km 12 (by decide +kernel) (by decide +kernel), km 315 (by decide +kernel) (by decide +kernel), by decide +kernel, by decide +kernel⟩
theorem lg_Writer_79 : kCS "KeyCodec$KeyWriter" 79 M_Writer_writeInt 3 := ⟨kb_Writer_writeInt, km 313 (by decide +kernel) (by decide +kernel), km 314 (by decide +kernel) (by decide +kernel)⟩
theorem lK_Writer_83 : Cond.constantLong "KeyCodec$KeyWriter" (83 : Nat) (-1 : Int64) ∈ kTs := km 316 (by decide +kernel) (by decide +kernel)
theorem kb_Writer_bytesNeeded : kCB M_Writer_bytesNeeded 1 := ⟨km 12 (by decide +kernel) (by decide +kernel), km 319 (by decide +kernel) (by decide +kernel), by decide +kernel, by decide +kernel⟩
theorem lg_Writer_85 : kCS "KeyCodec$KeyWriter" 85 M_Writer_bytesNeeded 1 := ⟨kb_Writer_bytesNeeded, km 317 (by decide +kernel) (by decide +kernel), km 318 (by decide +kernel) (by decide +kernel)⟩
theorem kb_Row_appendLowest : kCB M_Row_appendLowest 3 := ⟨km 5 (by decide +kernel) (by decide +kernel), km 235 (by decide +kernel) (by decide +kernel), by decide +kernel, by decide +kernel⟩
theorem lg_Writer_89 : kCV "KeyCodec$KeyWriter" 89 M_Row_appendLowest 3 1 := ⟨kb_Row_appendLowest, km 320 (by decide +kernel) (by decide +kernel), km 233 (by decide +kernel) (by decide +kernel), km 234 (by decide +kernel) (by decide +kernel), (F_Row, 2), rfl⟩
theorem lf_Writer_93 : Cond.fieldLink "KeyCodec$KeyWriter" (93 : Nat) "KeyCodec$Value" "size" "I" ∈ kTs := km 80 (by decide +kernel) (by decide +kernel)
theorem lf_Writer_96 : Cond.fieldLink "KeyCodec$KeyWriter" (96 : Nat) "KeyCodec$Value" "bytes" "[I" ∈ kTs := km 78 (by decide +kernel) (by decide +kernel)
theorem lm_Writer_99 : Cond.methodLink "KeyCodec$KeyWriter" 99 Lib.MathLoose.abs_long.x ∈ kTs := km 303 (by decide +kernel) (by decide +kernel)
theorem ts_abs1 : Cond.static Lib.MathLoose.abs_long.x ∈ kTs := km 304 (by decide +kernel) (by decide +kernel)
theorem ts_abs2 : Cond.code Lib.MathLoose.abs_long.x Lib.MathLoose.abs_long.code 2 (some .long) ∈ kTs := km 305 (by decide +kernel) (by decide +kernel)
theorem kb_Writer_writeFraction : kCB M_Writer_writeFraction 4 := ⟨km 12 (by decide +kernel) (by decide +kernel), km 308 (by decide +kernel) (by decide +kernel), by decide +kernel, by decide +kernel⟩
theorem lg_Writer_105 : kCS "KeyCodec$KeyWriter" 105 M_Writer_writeFraction 4 := ⟨kb_Writer_writeFraction, km 306 (by decide +kernel) (by decide +kernel), km 307 (by decide +kernel) (by decide +kernel)⟩
theorem lK_Writer_108 : Cond.constantLong "KeyCodec$KeyWriter" (108 : Nat) (10 : Int64) ∈ kTs := km 309 (by decide +kernel) (by decide +kernel)
