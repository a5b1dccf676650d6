abbrev M_Reader_init : MethodName × ByteArray × Nat × Option FieldType := (⟨"KeyCodec$KeyReader", "<init>", "(LKeyCodec$Schema;LKeyCodec$Row;)V"⟩, prog_2_method_1_code, 3, none)
theorem d_Reader_init_0 : decode prog_2_method_1_code 0 = .ok (.aload_n 0, 1) := by decide +kernel
theorem d_Reader_init_1 : decode prog_2_method_1_code 1 = .ok (.invokespecial 3, 3) := by decide +kernel
theorem d_Reader_init_4 : decode prog_2_method_1_code 4 = .ok (.aload_n 0, 1) := by decide +kernel
theorem d_Reader_init_5 : decode prog_2_method_1_code 5 = .ok (.iconst 0, 1) := by decide +kernel
theorem d_Reader_init_6 : decode prog_2_method_1_code 6 = .ok (.putfield 9, 3) := by decide +kernel
theorem d_Reader_init_9 : decode prog_2_method_1_code 9 = .ok (.aload_n 0, 1) := by decide +kernel
theorem d_Reader_init_10 : decode prog_2_method_1_code 10 = .ok (.iconst 0, 1) := by decide +kernel
theorem d_Reader_init_11 : decode prog_2_method_1_code 11 = .ok (.putfield 15, 3) := by decide +kernel
theorem d_Reader_init_14 : decode prog_2_method_1_code 14 = .ok (.aload_n 0, 1) := by decide +kernel
theorem d_Reader_init_15 : decode prog_2_method_1_code 15 = .ok (.iconst 5, 1) := by decide +kernel
theorem d_Reader_init_16 : decode prog_2_method_1_code 16 = .ok (.newarray .int, 2) := by decide +kernel
theorem d_Reader_init_18 : decode prog_2_method_1_code 18 = .ok (.putfield 18, 3) := by decide +kernel
theorem d_Reader_init_21 : decode prog_2_method_1_code 21 = .ok (.aload_n 0, 1) := by decide +kernel
theorem d_Reader_init_22 : decode prog_2_method_1_code 22 = .ok (.aload_n 1, 1) := by decide +kernel
theorem d_Reader_init_23 : decode prog_2_method_1_code 23 = .ok (.putfield 22, 3) := by decide +kernel
theorem d_Reader_init_26 : decode prog_2_method_1_code 26 = .ok (.aload_n 0, 1) := by decide +kernel
theorem d_Reader_init_27 : decode prog_2_method_1_code 27 = .ok (.aload_n 2, 1) := by decide +kernel
theorem d_Reader_init_28 : decode prog_2_method_1_code 28 = .ok (.putfield 26, 3) := by decide +kernel
theorem d_Reader_init_31 : decode prog_2_method_1_code 31 = .ok (.return_, 1) := by decide +kernel
abbrev M_Reader_readTuple : MethodName × ByteArray × Nat × Option FieldType := (⟨"KeyCodec$KeyReader", "readTuple", "(LKeyCodec$Tuple;)Z"⟩, prog_2_method_2_code, 3, some .boolean)
theorem d_Reader_readTuple_0 : decode prog_2_method_2_code 0 = .ok (.aload_n 1, 1) := by decide +kernel
theorem d_Reader_readTuple_1 : decode prog_2_method_2_code 1 = .ok (.invokevirtual 30, 3) := by decide +kernel
theorem d_Reader_readTuple_4 : decode prog_2_method_2_code 4 = .ok (.iconst 0, 1) := by decide +kernel
theorem d_Reader_readTuple_5 : decode prog_2_method_2_code 5 = .ok (.istore_n 2, 1) := by decide +kernel
theorem d_Reader_readTuple_6 : decode prog_2_method_2_code 6 = .ok (.iload_n 2, 1) := by decide +kernel
theorem d_Reader_readTuple_7 : decode prog_2_method_2_code 7 = .ok (.aload_n 0, 1) := by decide +kernel
theorem d_Reader_readTuple_8 : decode prog_2_method_2_code 8 = .ok (.getfield 22, 3) := by decide +kernel
theorem d_Reader_readTuple_11 : decode prog_2_method_2_code 11 = .ok (.getfield 35, 3) := by decide +kernel
theorem d_Reader_readTuple_14 : decode prog_2_method_2_code 14 = .ok (.if_icmp .ge 25, 3) := by decide +kernel
theorem d_Reader_readTuple_17 : decode prog_2_method_2_code 17 = .ok (.aload_n 0, 1) := by decide +kernel
theorem d_Reader_readTuple_18 : decode prog_2_method_2_code 18 = .ok (.iload_n 2, 1) := by decide +kernel
theorem d_Reader_readTuple_19 : decode prog_2_method_2_code 19 = .ok (.aload_n 1, 1) := by decide +kernel
theorem d_Reader_readTuple_20 : decode prog_2_method_2_code 20 = .ok (.getfield 40, 3) := by decide +kernel
theorem d_Reader_readTuple_23 : decode prog_2_method_2_code 23 = .ok (.iload_n 2, 1) := by decide +kernel
theorem d_Reader_readTuple_24 : decode prog_2_method_2_code 24 = .ok (.aaload, 1) := by decide +kernel
theorem d_Reader_readTuple_25 : decode prog_2_method_2_code 25 = .ok (.invokevirtual 44, 3) := by decide +kernel
theorem d_Reader_readTuple_28 : decode prog_2_method_2_code 28 = .ok (.ifCond .ne 5, 3) := by decide +kernel
theorem d_Reader_readTuple_31 : decode prog_2_method_2_code 31 = .ok (.iconst 0, 1) := by decide +kernel
theorem d_Reader_readTuple_32 : decode prog_2_method_2_code 32 = .ok (.ireturn, 1) := by decide +kernel
theorem d_Reader_readTuple_33 : decode prog_2_method_2_code 33 = .ok (.iinc 2 1, 3) := by decide +kernel
theorem d_Reader_readTuple_36 : decode prog_2_method_2_code 36 = .ok (.goto (-30), 3) := by decide +kernel
theorem d_Reader_readTuple_39 : decode prog_2_method_2_code 39 = .ok (.aload_n 0, 1) := by decide +kernel
theorem d_Reader_readTuple_40 : decode prog_2_method_2_code 40 = .ok (.iconst 0, 1) := by decide +kernel
theorem d_Reader_readTuple_41 : decode prog_2_method_2_code 41 = .ok (.putfield 15, 3) := by decide +kernel
theorem d_Reader_readTuple_44 : decode prog_2_method_2_code 44 = .ok (.iconst 0, 1) := by decide +kernel
theorem d_Reader_readTuple_45 : decode prog_2_method_2_code 45 = .ok (.istore_n 2, 1) := by decide +kernel
theorem d_Reader_readTuple_46 : decode prog_2_method_2_code 46 = .ok (.iload_n 2, 1) := by decide +kernel
theorem d_Reader_readTuple_47 : decode prog_2_method_2_code 47 = .ok (.aload_n 0, 1) := by decide +kernel
theorem d_Reader_readTuple_48 : decode prog_2_method_2_code 48 = .ok (.getfield 22, 3) := by decide +kernel
theorem d_Reader_readTuple_51 : decode prog_2_method_2_code 51 = .ok (.getfield 35, 3) := by decide +kernel
theorem d_Reader_readTuple_54 : decode prog_2_method_2_code 54 = .ok (.if_icmp .ge 37, 3) := by decide +kernel
theorem d_Reader_readTuple_57 : decode prog_2_method_2_code 57 = .ok (.aload_n 1, 1) := by decide +kernel
theorem d_Reader_readTuple_58 : decode prog_2_method_2_code 58 = .ok (.getfield 40, 3) := by decide +kernel
theorem d_Reader_readTuple_61 : decode prog_2_method_2_code 61 = .ok (.iload_n 2, 1) := by decide +kernel
theorem d_Reader_readTuple_62 : decode prog_2_method_2_code 62 = .ok (.aaload, 1) := by decide +kernel
theorem d_Reader_readTuple_63 : decode prog_2_method_2_code 63 = .ok (.getfield 48, 3) := by decide +kernel
theorem d_Reader_readTuple_66 : decode prog_2_method_2_code 66 = .ok (.ifCond .ne 19, 3) := by decide +kernel
theorem d_Reader_readTuple_69 : decode prog_2_method_2_code 69 = .ok (.aload_n 0, 1) := by decide +kernel
theorem d_Reader_readTuple_70 : decode prog_2_method_2_code 70 = .ok (.iload_n 2, 1) := by decide +kernel
theorem d_Reader_readTuple_71 : decode prog_2_method_2_code 71 = .ok (.aload_n 1, 1) := by decide +kernel
theorem d_Reader_readTuple_72 : decode prog_2_method_2_code 72 = .ok (.getfield 40, 3) := by decide +kernel
theorem d_Reader_readTuple_75 : decode prog_2_method_2_code 75 = .ok (.iload_n 2, 1) := by decide +kernel
theorem d_Reader_readTuple_76 : decode prog_2_method_2_code 76 = .ok (.aaload, 1) := by decide +kernel
theorem d_Reader_readTuple_77 : decode prog_2_method_2_code 77 = .ok (.invokevirtual 54, 3) := by decide +kernel
theorem d_Reader_readTuple_80 : decode prog_2_method_2_code 80 = .ok (.ifCond .ne 5, 3) := by decide +kernel
theorem d_Reader_readTuple_83 : decode prog_2_method_2_code 83 = .ok (.iconst 0, 1) := by decide +kernel
theorem d_Reader_readTuple_84 : decode prog_2_method_2_code 84 = .ok (.ireturn, 1) := by decide +kernel
theorem d_Reader_readTuple_85 : decode prog_2_method_2_code 85 = .ok (.iinc 2 1, 3) := by decide +kernel
theorem d_Reader_readTuple_88 : decode prog_2_method_2_code 88 = .ok (.goto (-42), 3) := by decide +kernel
theorem d_Reader_readTuple_91 : decode prog_2_method_2_code 91 = .ok (.iconst 1, 1) := by decide +kernel
theorem d_Reader_readTuple_92 : decode prog_2_method_2_code 92 = .ok (.ireturn, 1) := by decide +kernel
abbrev M_Reader_next : MethodName × ByteArray × Nat × Option FieldType := (⟨"KeyCodec$KeyReader", "next", "()I"⟩, prog_2_method_3_code, 2, some .int)
theorem d_Reader_next_0 : decode prog_2_method_3_code 0 = .ok (.aload_n 0, 1) := by decide +kernel
theorem d_Reader_next_1 : decode prog_2_method_3_code 1 = .ok (.getfield 26, 3) := by decide +kernel
theorem d_Reader_next_4 : decode prog_2_method_3_code 4 = .ok (.aload_n 0, 1) := by decide +kernel
theorem d_Reader_next_5 : decode prog_2_method_3_code 5 = .ok (.getfield 9, 3) := by decide +kernel
theorem d_Reader_next_8 : decode prog_2_method_3_code 8 = .ok (.invokevirtual 57, 3) := by decide +kernel
theorem d_Reader_next_11 : decode prog_2_method_3_code 11 = .ok (.istore_n 1, 1) := by decide +kernel
theorem d_Reader_next_12 : decode prog_2_method_3_code 12 = .ok (.iload_n 1, 1) := by decide +kernel
theorem d_Reader_next_13 : decode prog_2_method_3_code 13 = .ok (.iconst (-1), 1) := by decide +kernel
theorem d_Reader_next_14 : decode prog_2_method_3_code 14 = .ok (.if_icmp .ne 5, 3) := by decide +kernel
theorem d_Reader_next_17 : decode prog_2_method_3_code 17 = .ok (.iconst (-1), 1) := by decide +kernel
theorem d_Reader_next_18 : decode prog_2_method_3_code 18 = .ok (.ireturn, 1) := by decide +kernel
theorem d_Reader_next_19 : decode prog_2_method_3_code 19 = .ok (.aload_n 0, 1) := by decide +kernel
theorem d_Reader_next_20 : decode prog_2_method_3_code 20 = .ok (.dup, 1) := by decide +kernel
theorem d_Reader_next_21 : decode prog_2_method_3_code 21 = .ok (.getfield 9, 3) := by decide +kernel
theorem d_Reader_next_24 : decode prog_2_method_3_code 24 = .ok (.iconst 1, 1) := by decide +kernel
theorem d_Reader_next_25 : decode prog_2_method_3_code 25 = .ok (.iadd, 1) := by decide +kernel
theorem d_Reader_next_26 : decode prog_2_method_3_code 26 = .ok (.putfield 9, 3) := by decide +kernel
theorem d_Reader_next_29 : decode prog_2_method_3_code 29 = .ok (.iload_n 1, 1) := by decide +kernel
theorem d_Reader_next_30 : decode prog_2_method_3_code 30 = .ok (.aload_n 0, 1) := by decide +kernel
theorem d_Reader_next_31 : decode prog_2_method_3_code 31 = .ok (.getfield 15, 3) := by decide +kernel
theorem d_Reader_next_34 : decode prog_2_method_3_code 34 = .ok (.ixor, 1) := by decide +kernel
theorem d_Reader_next_35 : decode prog_2_method_3_code 35 = .ok (.ireturn, 1) := by decide +kernel
abbrev M_Reader_readField : MethodName × ByteArray × Nat × Option FieldType := (⟨"KeyCodec$KeyReader", "readField", "(ILKeyCodec$Value;)Z"⟩, prog_2_method_4_code, 4, some .boolean)
theorem d_Reader_readField_0 : decode prog_2_method_4_code 0 = .ok (.aload_n 0, 1) := by decide +kernel
theorem d_Reader_readField_1 : decode prog_2_method_4_code 1 = .ok (.getfield 22, 3) := by decide +kernel
theorem d_Reader_readField_4 : decode prog_2_method_4_code 4 = .ok (.iload_n 1, 1) := by decide +kernel
theorem d_Reader_readField_5 : decode prog_2_method_4_code 5 = .ok (.iconst 2, 1) := by decide +kernel
theorem d_Reader_readField_6 : decode prog_2_method_4_code 6 = .ok (.invokevirtual 63, 3) := by decide +kernel
theorem d_Reader_readField_9 : decode prog_2_method_4_code 9 = .ok (.ifCond .eq 38, 3) := by decide +kernel
theorem d_Reader_readField_12 : decode prog_2_method_4_code 12 = .ok (.aload_n 0, 1) := by decide +kernel
theorem d_Reader_readField_13 : decode prog_2_method_4_code 13 = .ok (.iconst 0, 1) := by decide +kernel
theorem d_Reader_readField_14 : decode prog_2_method_4_code 14 = .ok (.putfield 15, 3) := by decide +kernel
theorem d_Reader_readField_17 : decode prog_2_method_4_code 17 = .ok (.aload_n 0, 1) := by decide +kernel
theorem d_Reader_readField_18 : decode prog_2_method_4_code 18 = .ok (.invokevirtual 67, 3) := by decide +kernel
theorem d_Reader_readField_21 : decode prog_2_method_4_code 21 = .ok (.istore_n 3, 1) := by decide +kernel
theorem d_Reader_readField_22 : decode prog_2_method_4_code 22 = .ok (.iload_n 3, 1) := by decide +kernel
theorem d_Reader_readField_23 : decode prog_2_method_4_code 23 = .ok (.aload_n 0, 1) := by decide +kernel
theorem d_Reader_readField_24 : decode prog_2_method_4_code 24 = .ok (.getfield 22, 3) := by decide +kernel
theorem d_Reader_readField_27 : decode prog_2_method_4_code 27 = .ok (.iload_n 1, 1) := by decide +kernel
theorem d_Reader_readField_28 : decode prog_2_method_4_code 28 = .ok (.invokevirtual 71, 3) := by decide +kernel
theorem d_Reader_readField_31 : decode prog_2_method_4_code 31 = .ok (.if_icmp .ne 9, 3) := by decide +kernel
theorem d_Reader_readField_34 : decode prog_2_method_4_code 34 = .ok (.aload_n 2, 1) := by decide +kernel
theorem d_Reader_readField_35 : decode prog_2_method_4_code 35 = .ok (.invokevirtual 74, 3) := by decide +kernel
theorem d_Reader_readField_38 : decode prog_2_method_4_code 38 = .ok (.iconst 1, 1) := by decide +kernel
theorem d_Reader_readField_39 : decode prog_2_method_4_code 39 = .ok (.ireturn, 1) := by decide +kernel
theorem d_Reader_readField_40 : decode prog_2_method_4_code 40 = .ok (.iload_n 3, 1) := by decide +kernel
theorem d_Reader_readField_41 : decode prog_2_method_4_code 41 = .ok (.iconst 1, 1) := by decide +kernel
theorem d_Reader_readField_42 : decode prog_2_method_4_code 42 = .ok (.if_icmp .eq 5, 3) := by decide +kernel
theorem d_Reader_readField_45 : decode prog_2_method_4_code 45 = .ok (.iconst 0, 1) := by decide +kernel
theorem d_Reader_readField_46 : decode prog_2_method_4_code 46 = .ok (.ireturn, 1) := by decide +kernel
theorem d_Reader_readField_47 : decode prog_2_method_4_code 47 = .ok (.aload_n 0, 1) := by decide +kernel
theorem d_Reader_readField_48 : decode prog_2_method_4_code 48 = .ok (.aload_n 0, 1) := by decide +kernel
theorem d_Reader_readField_49 : decode prog_2_method_4_code 49 = .ok (.getfield 22, 3) := by decide +kernel
theorem d_Reader_readField_52 : decode prog_2_method_4_code 52 = .ok (.iload_n 1, 1) := by decide +kernel
theorem d_Reader_readField_53 : decode prog_2_method_4_code 53 = .ok (.invokevirtual 77, 3) := by decide +kernel
theorem d_Reader_readField_56 : decode prog_2_method_4_code 56 = .ok (.putfield 15, 3) := by decide +kernel
theorem d_Reader_readField_59 : decode prog_2_method_4_code 59 = .ok (.aload_n 0, 1) := by decide +kernel
theorem d_Reader_readField_60 : decode prog_2_method_4_code 60 = .ok (.getfield 22, 3) := by decide +kernel
theorem d_Reader_readField_63 : decode prog_2_method_4_code 63 = .ok (.getfield 80, 3) := by decide +kernel
theorem d_Reader_readField_66 : decode prog_2_method_4_code 66 = .ok (.iload_n 1, 1) := by decide +kernel
theorem d_Reader_readField_67 : decode prog_2_method_4_code 67 = .ok (.iaload, 1) := by decide +kernel
theorem d_Reader_readField_68 : decode prog_2_method_4_code 68 = .ok (.lookupswitch 41 #[(1, 28), (2, 35)], 28) := by decide +kernel
theorem d_Reader_readField_96 : decode prog_2_method_4_code 96 = .ok (.aload_n 0, 1) := by decide +kernel
theorem d_Reader_readField_97 : decode prog_2_method_4_code 97 = .ok (.iload_n 1, 1) := by decide +kernel
theorem d_Reader_readField_98 : decode prog_2_method_4_code 98 = .ok (.aload_n 2, 1) := by decide +kernel
theorem d_Reader_readField_99 : decode prog_2_method_4_code 99 = .ok (.invokevirtual 83, 3) := by decide +kernel
theorem d_Reader_readField_102 : decode prog_2_method_4_code 102 = .ok (.ireturn, 1) := by decide +kernel
theorem d_Reader_readField_103 : decode prog_2_method_4_code 103 = .ok (.aload_n 0, 1) := by decide +kernel
theorem d_Reader_readField_104 : decode prog_2_method_4_code 104 = .ok (.aload_n 2, 1) := by decide +kernel
theorem d_Reader_readField_105 : decode prog_2_method_4_code 105 = .ok (.invokevirtual 86, 3) := by decide +kernel
theorem d_Reader_readField_108 : decode prog_2_method_4_code 108 = .ok (.ireturn, 1) := by decide +kernel
theorem d_Reader_readField_109 : decode prog_2_method_4_code 109 = .ok (.aload_n 0, 1) := by decide +kernel
theorem d_Reader_readField_110 : decode prog_2_method_4_code 110 = .ok (.aload_n 2, 1) := by decide +kernel
theorem d_Reader_readField_111 : decode prog_2_method_4_code 111 = .ok (.invokevirtual 90, 3) := by decide +kernel
theorem d_Reader_readField_114 : decode prog_2_method_4_code 114 = .ok (.ireturn, 1) := by decide +kernel
abbrev M_Reader_readInt : MethodName × ByteArray × Nat × Option FieldType := (⟨"KeyCodec$KeyReader", "readInt", "(LKeyCodec$Value;)Z"⟩, prog_2_method_5_code, 9, some .boolean)
theorem d_Reader_readInt_0 : decode prog_2_method_5_code 0 = .ok (.aload_n 0, 1) := by decide +kernel
theorem d_Reader_readInt_1 : decode prog_2_method_5_code 1 = .ok (.invokevirtual 67, 3) := by decide +kernel
theorem d_Reader_readInt_4 : decode prog_2_method_5_code 4 = .ok (.istore_n 2, 1) := by decide +kernel
theorem d_Reader_readInt_5 : decode prog_2_method_5_code 5 = .ok (.iload_n 2, 1) := by decide +kernel
theorem d_Reader_readInt_6 : decode prog_2_method_5_code 6 = .ok (.bipush 127, 2) := by decide +kernel
theorem d_Reader_readInt_8 : decode prog_2_method_5_code 8 = .ok (.if_icmp .gt 7, 3) := by decide +kernel
theorem d_Reader_readInt_11 : decode prog_2_method_5_code 11 = .ok (.iconst 1, 1) := by decide +kernel
theorem d_Reader_readInt_12 : decode prog_2_method_5_code 12 = .ok (.goto 4, 3) := by decide +kernel
theorem d_Reader_readInt_15 : decode prog_2_method_5_code 15 = .ok (.iconst 0, 1) := by decide +kernel
theorem d_Reader_readInt_16 : decode prog_2_method_5_code 16 = .ok (.istore_n 3, 1) := by decide +kernel
theorem d_Reader_readInt_17 : decode prog_2_method_5_code 17 = .ok (.iload_n 3, 1) := by decide +kernel
theorem d_Reader_readInt_18 : decode prog_2_method_5_code 18 = .ok (.ifCond .eq 10, 3) := by decide +kernel
theorem d_Reader_readInt_21 : decode prog_2_method_5_code 21 = .ok (.bipush 127, 2) := by decide +kernel
theorem d_Reader_readInt_23 : decode prog_2_method_5_code 23 = .ok (.iload_n 2, 1) := by decide +kernel
theorem d_Reader_readInt_24 : decode prog_2_method_5_code 24 = .ok (.isub, 1) := by decide +kernel
theorem d_Reader_readInt_25 : decode prog_2_method_5_code 25 = .ok (.goto 8, 3) := by decide +kernel
theorem d_Reader_readInt_28 : decode prog_2_method_5_code 28 = .ok (.iload_n 2, 1) := by decide +kernel
theorem d_Reader_readInt_29 : decode prog_2_method_5_code 29 = .ok (.sipush 128, 3) := by decide +kernel
theorem d_Reader_readInt_32 : decode prog_2_method_5_code 32 = .ok (.isub, 1) := by decide +kernel
theorem d_Reader_readInt_33 : decode prog_2_method_5_code 33 = .ok (.istore 4, 2) := by decide +kernel
theorem d_Reader_readInt_35 : decode prog_2_method_5_code 35 = .ok (.iload_n 2, 1) := by decide +kernel
theorem d_Reader_readInt_36 : decode prog_2_method_5_code 36 = .ok (.iconst (-1), 1) := by decide +kernel
theorem d_Reader_readInt_37 : decode prog_2_method_5_code 37 = .ok (.if_icmp .eq 10, 3) := by decide +kernel
theorem d_Reader_readInt_40 : decode prog_2_method_5_code 40 = .ok (.iload 4, 2) := by decide +kernel
theorem d_Reader_readInt_42 : decode prog_2_method_5_code 42 = .ok (.bipush 8, 2) := by decide +kernel
theorem d_Reader_readInt_44 : decode prog_2_method_5_code 44 = .ok (.if_icmp .le 5, 3) := by decide +kernel
theorem d_Reader_readInt_47 : decode prog_2_method_5_code 47 = .ok (.iconst 0, 1) := by decide +kernel
theorem d_Reader_readInt_48 : decode prog_2_method_5_code 48 = .ok (.ireturn, 1) := by decide +kernel
theorem d_Reader_readInt_49 : decode prog_2_method_5_code 49 = .ok (.iload_n 3, 1) := by decide +kernel
theorem d_Reader_readInt_50 : decode prog_2_method_5_code 50 = .ok (.ifCond .eq 9, 3) := by decide +kernel
theorem d_Reader_readInt_53 : decode prog_2_method_5_code 53 = .ok (.ldc2_w 93, 3) := by decide +kernel
theorem d_Reader_readInt_56 : decode prog_2_method_5_code 56 = .ok (.goto 4, 3) := by decide +kernel
theorem d_Reader_readInt_59 : decode prog_2_method_5_code 59 = .ok (.lconst 0, 1) := by decide +kernel
theorem d_Reader_readInt_60 : decode prog_2_method_5_code 60 = .ok (.lstore 5, 2) := by decide +kernel
theorem d_Reader_readInt_62 : decode prog_2_method_5_code 62 = .ok (.iconst 0, 1) := by decide +kernel
theorem d_Reader_readInt_63 : decode prog_2_method_5_code 63 = .ok (.istore 7, 2) := by decide +kernel
theorem d_Reader_readInt_65 : decode prog_2_method_5_code 65 = .ok (.iload 7, 2) := by decide +kernel
theorem d_Reader_readInt_67 : decode prog_2_method_5_code 67 = .ok (.iload 4, 2) := by decide +kernel
theorem d_Reader_readInt_69 : decode prog_2_method_5_code 69 = .ok (.if_icmp .ge 34, 3) := by decide +kernel
theorem d_Reader_readInt_72 : decode prog_2_method_5_code 72 = .ok (.aload_n 0, 1) := by decide +kernel
theorem d_Reader_readInt_73 : decode prog_2_method_5_code 73 = .ok (.invokevirtual 67, 3) := by decide +kernel
theorem d_Reader_readInt_76 : decode prog_2_method_5_code 76 = .ok (.istore 8, 2) := by decide +kernel
theorem d_Reader_readInt_78 : decode prog_2_method_5_code 78 = .ok (.iload 8, 2) := by decide +kernel
theorem d_Reader_readInt_80 : decode prog_2_method_5_code 80 = .ok (.iconst (-1), 1) := by decide +kernel
theorem d_Reader_readInt_81 : decode prog_2_method_5_code 81 = .ok (.if_icmp .ne 5, 3) := by decide +kernel
theorem d_Reader_readInt_84 : decode prog_2_method_5_code 84 = .ok (.iconst 0, 1) := by decide +kernel
theorem d_Reader_readInt_85 : decode prog_2_method_5_code 85 = .ok (.ireturn, 1) := by decide +kernel
theorem d_Reader_readInt_86 : decode prog_2_method_5_code 86 = .ok (.lload 5, 2) := by decide +kernel
theorem d_Reader_readInt_88 : decode prog_2_method_5_code 88 = .ok (.bipush 8, 2) := by decide +kernel
theorem d_Reader_readInt_90 : decode prog_2_method_5_code 90 = .ok (.lshl, 1) := by decide +kernel
theorem d_Reader_readInt_91 : decode prog_2_method_5_code 91 = .ok (.iload 8, 2) := by decide +kernel
theorem d_Reader_readInt_93 : decode prog_2_method_5_code 93 = .ok (.i2l, 1) := by decide +kernel
theorem d_Reader_readInt_94 : decode prog_2_method_5_code 94 = .ok (.lor, 1) := by decide +kernel
theorem d_Reader_readInt_95 : decode prog_2_method_5_code 95 = .ok (.lstore 5, 2) := by decide +kernel
theorem d_Reader_readInt_97 : decode prog_2_method_5_code 97 = .ok (.iinc 7 1, 3) := by decide +kernel
theorem d_Reader_readInt_100 : decode prog_2_method_5_code 100 = .ok (.goto (-35), 3) := by decide +kernel
theorem d_Reader_readInt_103 : decode prog_2_method_5_code 103 = .ok (.aload_n 1, 1) := by decide +kernel
theorem d_Reader_readInt_104 : decode prog_2_method_5_code 104 = .ok (.lload 5, 2) := by decide +kernel
theorem d_Reader_readInt_106 : decode prog_2_method_5_code 106 = .ok (.iconst 0, 1) := by decide +kernel
theorem d_Reader_readInt_107 : decode prog_2_method_5_code 107 = .ok (.invokevirtual 95, 3) := by decide +kernel
theorem d_Reader_readInt_110 : decode prog_2_method_5_code 110 = .ok (.iconst 1, 1) := by decide +kernel
theorem d_Reader_readInt_111 : decode prog_2_method_5_code 111 = .ok (.ireturn, 1) := by decide +kernel
abbrev M_Reader_readText : MethodName × ByteArray × Nat × Option FieldType := (⟨"KeyCodec$KeyReader", "readText", "(LKeyCodec$Value;)Z"⟩, prog_2_method_6_code, 5, some .boolean)
theorem d_Reader_readText_0 : decode prog_2_method_6_code 0 = .ok (.aload_n 1, 1) := by decide +kernel
theorem d_Reader_readText_1 : decode prog_2_method_6_code 1 = .ok (.lconst 0, 1) := by decide +kernel
theorem d_Reader_readText_2 : decode prog_2_method_6_code 2 = .ok (.iconst 0, 1) := by decide +kernel
theorem d_Reader_readText_3 : decode prog_2_method_6_code 3 = .ok (.invokevirtual 95, 3) := by decide +kernel
theorem d_Reader_readText_6 : decode prog_2_method_6_code 6 = .ok (.iconst 0, 1) := by decide +kernel
theorem d_Reader_readText_7 : decode prog_2_method_6_code 7 = .ok (.istore_n 2, 1) := by decide +kernel
theorem d_Reader_readText_8 : decode prog_2_method_6_code 8 = .ok (.iload_n 2, 1) := by decide +kernel
theorem d_Reader_readText_9 : decode prog_2_method_6_code 9 = .ok (.bipush 10, 2) := by decide +kernel
theorem d_Reader_readText_11 : decode prog_2_method_6_code 11 = .ok (.if_icmp .gt 61, 3) := by decide +kernel
theorem d_Reader_readText_14 : decode prog_2_method_6_code 14 = .ok (.aload_n 0, 1) := by decide +kernel
theorem d_Reader_readText_15 : decode prog_2_method_6_code 15 = .ok (.invokevirtual 67, 3) := by decide +kernel
theorem d_Reader_readText_18 : decode prog_2_method_6_code 18 = .ok (.istore_n 3, 1) := by decide +kernel
theorem d_Reader_readText_19 : decode prog_2_method_6_code 19 = .ok (.iload_n 3, 1) := by decide +kernel
theorem d_Reader_readText_20 : decode prog_2_method_6_code 20 = .ok (.iconst (-1), 1) := by decide +kernel
theorem d_Reader_readText_21 : decode prog_2_method_6_code 21 = .ok (.if_icmp .ne 5, 3) := by decide +kernel
theorem d_Reader_readText_24 : decode prog_2_method_6_code 24 = .ok (.iconst 0, 1) := by decide +kernel
theorem d_Reader_readText_25 : decode prog_2_method_6_code 25 = .ok (.ireturn, 1) := by decide +kernel
theorem d_Reader_readText_26 : decode prog_2_method_6_code 26 = .ok (.iload_n 3, 1) := by decide +kernel
theorem d_Reader_readText_27 : decode prog_2_method_6_code 27 = .ok (.ifCond .ne 29, 3) := by decide +kernel
theorem d_Reader_readText_30 : decode prog_2_method_6_code 30 = .ok (.aload_n 0, 1) := by decide +kernel
theorem d_Reader_readText_31 : decode prog_2_method_6_code 31 = .ok (.invokevirtual 67, 3) := by decide +kernel
theorem d_Reader_readText_34 : decode prog_2_method_6_code 34 = .ok (.istore 4, 2) := by decide +kernel
theorem d_Reader_readText_36 : decode prog_2_method_6_code 36 = .ok (.iload 4, 2) := by decide +kernel
theorem d_Reader_readText_38 : decode prog_2_method_6_code 38 = .ok (.sipush 255, 3) := by decide +kernel
theorem d_Reader_readText_41 : decode prog_2_method_6_code 41 = .ok (.if_icmp .eq 15, 3) := by decide +kernel
theorem d_Reader_readText_44 : decode prog_2_method_6_code 44 = .ok (.iload 4, 2) := by decide +kernel
theorem d_Reader_readText_46 : decode prog_2_method_6_code 46 = .ok (.iconst 1, 1) := by decide +kernel
theorem d_Reader_readText_47 : decode prog_2_method_6_code 47 = .ok (.if_icmp .ne 7, 3) := by decide +kernel
theorem d_Reader_readText_50 : decode prog_2_method_6_code 50 = .ok (.iconst 1, 1) := by decide +kernel
theorem d_Reader_readText_51 : decode prog_2_method_6_code 51 = .ok (.goto 4, 3) := by decide +kernel
theorem d_Reader_readText_54 : decode prog_2_method_6_code 54 = .ok (.iconst 0, 1) := by decide +kernel
theorem d_Reader_readText_55 : decode prog_2_method_6_code 55 = .ok (.ireturn, 1) := by decide +kernel
theorem d_Reader_readText_56 : decode prog_2_method_6_code 56 = .ok (.aload_n 1, 1) := by decide +kernel
theorem d_Reader_readText_57 : decode prog_2_method_6_code 57 = .ok (.iload_n 3, 1) := by decide +kernel
theorem d_Reader_readText_58 : decode prog_2_method_6_code 58 = .ok (.invokevirtual 99, 3) := by decide +kernel
theorem d_Reader_readText_61 : decode prog_2_method_6_code 61 = .ok (.ifCond .ne 5, 3) := by decide +kernel
theorem d_Reader_readText_64 : decode prog_2_method_6_code 64 = .ok (.iconst 0, 1) := by decide +kernel
theorem d_Reader_readText_65 : decode prog_2_method_6_code 65 = .ok (.ireturn, 1) := by decide +kernel
theorem d_Reader_readText_66 : decode prog_2_method_6_code 66 = .ok (.iinc 2 1, 3) := by decide +kernel
theorem d_Reader_readText_69 : decode prog_2_method_6_code 69 = .ok (.goto (-61), 3) := by decide +kernel
theorem d_Reader_readText_72 : decode prog_2_method_6_code 72 = .ok (.iconst 0, 1) := by decide +kernel
theorem d_Reader_readText_73 : decode prog_2_method_6_code 73 = .ok (.ireturn, 1) := by decide +kernel
abbrev M_Reader_readDecimal : MethodName × ByteArray × Nat × Option FieldType := (⟨"KeyCodec$KeyReader", "readDecimal", "(ILKeyCodec$Value;)Z"⟩, prog_2_method_7_code, 4, some .boolean)
theorem d_Reader_readDecimal_0 : decode prog_2_method_7_code 0 = .ok (.aload_n 0, 1) := by decide +kernel
theorem d_Reader_readDecimal_1 : decode prog_2_method_7_code 1 = .ok (.getfield 18, 3) := by decide +kernel
theorem d_Reader_readDecimal_4 : decode prog_2_method_7_code 4 = .ok (.iload_n 1, 1) := by decide +kernel
theorem d_Reader_readDecimal_5 : decode prog_2_method_7_code 5 = .ok (.iconst 0, 1) := by decide +kernel
theorem d_Reader_readDecimal_6 : decode prog_2_method_7_code 6 = .ok (.iastore, 1) := by decide +kernel
theorem d_Reader_readDecimal_7 : decode prog_2_method_7_code 7 = .ok (.aload_n 2, 1) := by decide +kernel
theorem d_Reader_readDecimal_8 : decode prog_2_method_7_code 8 = .ok (.lconst 0, 1) := by decide +kernel
theorem d_Reader_readDecimal_9 : decode prog_2_method_7_code 9 = .ok (.iconst 0, 1) := by decide +kernel
theorem d_Reader_readDecimal_10 : decode prog_2_method_7_code 10 = .ok (.invokevirtual 95, 3) := by decide +kernel
theorem d_Reader_readDecimal_13 : decode prog_2_method_7_code 13 = .ok (.aload_n 0, 1) := by decide +kernel
theorem d_Reader_readDecimal_14 : decode prog_2_method_7_code 14 = .ok (.invokevirtual 67, 3) := by decide +kernel
theorem d_Reader_readDecimal_17 : decode prog_2_method_7_code 17 = .ok (.istore_n 3, 1) := by decide +kernel
theorem d_Reader_readDecimal_18 : decode prog_2_method_7_code 18 = .ok (.iload_n 3, 1) := by decide +kernel
theorem d_Reader_readDecimal_19 : decode prog_2_method_7_code 19 = .ok (.iconst 2, 1) := by decide +kernel
theorem d_Reader_readDecimal_20 : decode prog_2_method_7_code 20 = .ok (.if_icmp .ne 5, 3) := by decide +kernel
theorem d_Reader_readDecimal_23 : decode prog_2_method_7_code 23 = .ok (.iconst 1, 1) := by decide +kernel
theorem d_Reader_readDecimal_24 : decode prog_2_method_7_code 24 = .ok (.ireturn, 1) := by decide +kernel
theorem d_Reader_readDecimal_25 : decode prog_2_method_7_code 25 = .ok (.iload_n 3, 1) := by decide +kernel
theorem d_Reader_readDecimal_26 : decode prog_2_method_7_code 26 = .ok (.iconst 1, 1) := by decide +kernel
theorem d_Reader_readDecimal_27 : decode prog_2_method_7_code 27 = .ok (.if_icmp .eq 10, 3) := by decide +kernel
theorem d_Reader_readDecimal_30 : decode prog_2_method_7_code 30 = .ok (.iload_n 3, 1) := by decide +kernel
theorem d_Reader_readDecimal_31 : decode prog_2_method_7_code 31 = .ok (.iconst 3, 1) := by decide +kernel
theorem d_Reader_readDecimal_32 : decode prog_2_method_7_code 32 = .ok (.if_icmp .eq 5, 3) := by decide +kernel
theorem d_Reader_readDecimal_35 : decode prog_2_method_7_code 35 = .ok (.iconst 0, 1) := by decide +kernel
theorem d_Reader_readDecimal_36 : decode prog_2_method_7_code 36 = .ok (.ireturn, 1) := by decide +kernel
theorem d_Reader_readDecimal_37 : decode prog_2_method_7_code 37 = .ok (.iload_n 3, 1) := by decide +kernel
theorem d_Reader_readDecimal_38 : decode prog_2_method_7_code 38 = .ok (.iconst 3, 1) := by decide +kernel
theorem d_Reader_readDecimal_39 : decode prog_2_method_7_code 39 = .ok (.if_icmp .ne 11, 3) := by decide +kernel
theorem d_Reader_readDecimal_42 : decode prog_2_method_7_code 42 = .ok (.aload_n 0, 1) := by decide +kernel
theorem d_Reader_readDecimal_43 : decode prog_2_method_7_code 43 = .ok (.iload_n 1, 1) := by decide +kernel
theorem d_Reader_readDecimal_44 : decode prog_2_method_7_code 44 = .ok (.iconst 1, 1) := by decide +kernel
theorem d_Reader_readDecimal_45 : decode prog_2_method_7_code 45 = .ok (.aload_n 2, 1) := by decide +kernel
theorem d_Reader_readDecimal_46 : decode prog_2_method_7_code 46 = .ok (.invokevirtual 103, 3) := by decide +kernel
theorem d_Reader_readDecimal_49 : decode prog_2_method_7_code 49 = .ok (.ireturn, 1) := by decide +kernel
theorem d_Reader_readDecimal_50 : decode prog_2_method_7_code 50 = .ok (.aload_n 0, 1) := by decide +kernel
theorem d_Reader_readDecimal_51 : decode prog_2_method_7_code 51 = .ok (.dup, 1) := by decide +kernel
theorem d_Reader_readDecimal_52 : decode prog_2_method_7_code 52 = .ok (.getfield 15, 3) := by decide +kernel
theorem d_Reader_readDecimal_55 : decode prog_2_method_7_code 55 = .ok (.sipush 255, 3) := by decide +kernel
theorem d_Reader_readDecimal_58 : decode prog_2_method_7_code 58 = .ok (.ixor, 1) := by decide +kernel
theorem d_Reader_readDecimal_59 : decode prog_2_method_7_code 59 = .ok (.putfield 15, 3) := by decide +kernel
theorem d_Reader_readDecimal_62 : decode prog_2_method_7_code 62 = .ok (.aload_n 0, 1) := by decide +kernel
theorem d_Reader_readDecimal_63 : decode prog_2_method_7_code 63 = .ok (.iload_n 1, 1) := by decide +kernel
theorem d_Reader_readDecimal_64 : decode prog_2_method_7_code 64 = .ok (.iconst (-1), 1) := by decide +kernel
theorem d_Reader_readDecimal_65 : decode prog_2_method_7_code 65 = .ok (.aload_n 2, 1) := by decide +kernel
theorem d_Reader_readDecimal_66 : decode prog_2_method_7_code 66 = .ok (.invokevirtual 103, 3) := by decide +kernel
theorem d_Reader_readDecimal_69 : decode prog_2_method_7_code 69 = .ok (.ireturn, 1) := by decide +kernel
abbrev M_Reader_readFraction : MethodName × ByteArray × Nat × Option FieldType := (⟨"KeyCodec$KeyReader", "readFraction", "(IILKeyCodec$Value;)Z"⟩, prog_2_method_8_code, 9, some .boolean)
theorem d_Reader_readFraction_0 : decode prog_2_method_8_code 0 = .ok (.aload_n 0, 1) := by decide +kernel
theorem d_Reader_readFraction_1 : decode prog_2_method_8_code 1 = .ok (.invokevirtual 67, 3) := by decide +kernel
theorem d_Reader_readFraction_4 : decode prog_2_method_8_code 4 = .ok (.istore 4, 2) := by decide +kernel
theorem d_Reader_readFraction_6 : decode prog_2_method_8_code 6 = .ok (.iload 4, 2) := by decide +kernel
theorem d_Reader_readFraction_8 : decode prog_2_method_8_code 8 = .ok (.iconst (-1), 1) := by decide +kernel
theorem d_Reader_readFraction_9 : decode prog_2_method_8_code 9 = .ok (.if_icmp .ne 5, 3) := by decide +kernel
theorem d_Reader_readFraction_12 : decode prog_2_method_8_code 12 = .ok (.iconst 0, 1) := by decide +kernel
theorem d_Reader_readFraction_13 : decode prog_2_method_8_code 13 = .ok (.ireturn, 1) := by decide +kernel
theorem d_Reader_readFraction_14 : decode prog_2_method_8_code 14 = .ok (.lconst 0, 1) := by decide +kernel
theorem d_Reader_readFraction_15 : decode prog_2_method_8_code 15 = .ok (.lstore 5, 2) := by decide +kernel
theorem d_Reader_readFraction_17 : decode prog_2_method_8_code 17 = .ok (.iconst 0, 1) := by decide +kernel
theorem d_Reader_readFraction_18 : decode prog_2_method_8_code 18 = .ok (.istore 7, 2) := by decide +kernel
theorem d_Reader_readFraction_20 : decode prog_2_method_8_code 20 = .ok (.iload 7, 2) := by decide +kernel
theorem d_Reader_readFraction_22 : decode prog_2_method_8_code 22 = .ok (.bipush 16, 2) := by decide +kernel
theorem d_Reader_readFraction_24 : decode prog_2_method_8_code 24 = .ok (.if_icmp .gt 74, 3) := by decide +kernel
theorem d_Reader_readFraction_27 : decode prog_2_method_8_code 27 = .ok (.aload_n 0, 1) := by decide +kernel
theorem d_Reader_readFraction_28 : decode prog_2_method_8_code 28 = .ok (.invokevirtual 67, 3) := by decide +kernel
theorem d_Reader_readFraction_31 : decode prog_2_method_8_code 31 = .ok (.istore 8, 2) := by decide +kernel
theorem d_Reader_readFraction_33 : decode prog_2_method_8_code 33 = .ok (.iload 8, 2) := by decide +kernel
theorem d_Reader_readFraction_35 : decode prog_2_method_8_code 35 = .ok (.ifCond .lt 10, 3) := by decide +kernel
theorem d_Reader_readFraction_38 : decode prog_2_method_8_code 38 = .ok (.iload 8, 2) := by decide +kernel
theorem d_Reader_readFraction_40 : decode prog_2_method_8_code 40 = .ok (.bipush 10, 2) := by decide +kernel
theorem d_Reader_readFraction_42 : decode prog_2_method_8_code 42 = .ok (.if_icmp .le 5, 3) := by decide +kernel
theorem d_Reader_readFraction_45 : decode prog_2_method_8_code 45 = .ok (.iconst 0, 1) := by decide +kernel
theorem d_Reader_readFraction_46 : decode prog_2_method_8_code 46 = .ok (.ireturn, 1) := by decide +kernel
theorem d_Reader_readFraction_47 : decode prog_2_method_8_code 47 = .ok (.iload 8, 2) := by decide +kernel
theorem d_Reader_readFraction_49 : decode prog_2_method_8_code 49 = .ok (.ifCond .ne 29, 3) := by decide +kernel
theorem d_Reader_readFraction_52 : decode prog_2_method_8_code 52 = .ok (.aload_n 0, 1) := by decide +kernel
theorem d_Reader_readFraction_53 : decode prog_2_method_8_code 53 = .ok (.getfield 18, 3) := by decide +kernel
theorem d_Reader_readFraction_56 : decode prog_2_method_8_code 56 = .ok (.iload_n 1, 1) := by decide +kernel
theorem d_Reader_readFraction_57 : decode prog_2_method_8_code 57 = .ok (.iload 4, 2) := by decide +kernel
theorem d_Reader_readFraction_59 : decode prog_2_method_8_code 59 = .ok (.bipush 64, 2) := by decide +kernel
theorem d_Reader_readFraction_61 : decode prog_2_method_8_code 61 = .ok (.isub, 1) := by decide +kernel
theorem d_Reader_readFraction_62 : decode prog_2_method_8_code 62 = .ok (.iload 7, 2) := by decide +kernel
theorem d_Reader_readFraction_64 : decode prog_2_method_8_code 64 = .ok (.isub, 1) := by decide +kernel
theorem d_Reader_readFraction_65 : decode prog_2_method_8_code 65 = .ok (.iastore, 1) := by decide +kernel
theorem d_Reader_readFraction_66 : decode prog_2_method_8_code 66 = .ok (.aload_n 3, 1) := by decide +kernel
theorem d_Reader_readFraction_67 : decode prog_2_method_8_code 67 = .ok (.iload_n 2, 1) := by decide +kernel
theorem d_Reader_readFraction_68 : decode prog_2_method_8_code 68 = .ok (.i2l, 1) := by decide +kernel
theorem d_Reader_readFraction_69 : decode prog_2_method_8_code 69 = .ok (.lload 5, 2) := by decide +kernel
theorem d_Reader_readFraction_71 : decode prog_2_method_8_code 71 = .ok (.lmul, 1) := by decide +kernel
theorem d_Reader_readFraction_72 : decode prog_2_method_8_code 72 = .ok (.iconst 0, 1) := by decide +kernel
theorem d_Reader_readFraction_73 : decode prog_2_method_8_code 73 = .ok (.invokevirtual 95, 3) := by decide +kernel
theorem d_Reader_readFraction_76 : decode prog_2_method_8_code 76 = .ok (.iconst 1, 1) := by decide +kernel
theorem d_Reader_readFraction_77 : decode prog_2_method_8_code 77 = .ok (.ireturn, 1) := by decide +kernel
theorem d_Reader_readFraction_78 : decode prog_2_method_8_code 78 = .ok (.lload 5, 2) := by decide +kernel
theorem d_Reader_readFraction_80 : decode prog_2_method_8_code 80 = .ok (.ldc2_w 107, 3) := by decide +kernel
theorem d_Reader_readFraction_83 : decode prog_2_method_8_code 83 = .ok (.lmul, 1) := by decide +kernel
theorem d_Reader_readFraction_84 : decode prog_2_method_8_code 84 = .ok (.iload 8, 2) := by decide +kernel
theorem d_Reader_readFraction_86 : decode prog_2_method_8_code 86 = .ok (.i2l, 1) := by decide +kernel
theorem d_Reader_readFraction_87 : decode prog_2_method_8_code 87 = .ok (.ladd, 1) := by decide +kernel
theorem d_Reader_readFraction_88 : decode prog_2_method_8_code 88 = .ok (.lconst 1, 1) := by decide +kernel
theorem d_Reader_readFraction_89 : decode prog_2_method_8_code 89 = .ok (.lsub, 1) := by decide +kernel
theorem d_Reader_readFraction_90 : decode prog_2_method_8_code 90 = .ok (.lstore 5, 2) := by decide +kernel
theorem d_Reader_readFraction_92 : decode prog_2_method_8_code 92 = .ok (.iinc 7 1, 3) := by decide +kernel
theorem d_Reader_readFraction_95 : decode prog_2_method_8_code 95 = .ok (.goto (-75), 3) := by decide +kernel
theorem d_Reader_readFraction_98 : decode prog_2_method_8_code 98 = .ok (.iconst 0, 1) := by decide +kernel
theorem d_Reader_readFraction_99 : decode prog_2_method_8_code 99 = .ok (.ireturn, 1) := by decide +kernel
abbrev M_Reader_readForm : MethodName × ByteArray × Nat × Option FieldType := (⟨"KeyCodec$KeyReader", "readForm", "(ILKeyCodec$Value;)Z"⟩, prog_2_method_9_code, 3, some .boolean)
theorem d_Reader_readForm_0 : decode prog_2_method_9_code 0 = .ok (.aload_n 0, 1) := by decide +kernel
theorem d_Reader_readForm_1 : decode prog_2_method_9_code 1 = .ok (.getfield 22, 3) := by decide +kernel
theorem d_Reader_readForm_4 : decode prog_2_method_9_code 4 = .ok (.getfield 80, 3) := by decide +kernel
theorem d_Reader_readForm_7 : decode prog_2_method_9_code 7 = .ok (.iload_n 1, 1) := by decide +kernel
theorem d_Reader_readForm_8 : decode prog_2_method_9_code 8 = .ok (.iaload, 1) := by decide +kernel
theorem d_Reader_readForm_9 : decode prog_2_method_9_code 9 = .ok (.iconst 1, 1) := by decide +kernel
theorem d_Reader_readForm_10 : decode prog_2_method_9_code 10 = .ok (.if_icmp .ne 10, 3) := by decide +kernel
theorem d_Reader_readForm_13 : decode prog_2_method_9_code 13 = .ok (.aload_n 0, 1) := by decide +kernel
theorem d_Reader_readForm_14 : decode prog_2_method_9_code 14 = .ok (.iload_n 1, 1) := by decide +kernel
theorem d_Reader_readForm_15 : decode prog_2_method_9_code 15 = .ok (.aload_n 2, 1) := by decide +kernel
theorem d_Reader_readForm_16 : decode prog_2_method_9_code 16 = .ok (.invokevirtual 109, 3) := by decide +kernel
theorem d_Reader_readForm_19 : decode prog_2_method_9_code 19 = .ok (.ireturn, 1) := by decide +kernel
theorem d_Reader_readForm_20 : decode prog_2_method_9_code 20 = .ok (.aload_n 0, 1) := by decide +kernel
theorem d_Reader_readForm_21 : decode prog_2_method_9_code 21 = .ok (.getfield 22, 3) := by decide +kernel
theorem d_Reader_readForm_24 : decode prog_2_method_9_code 24 = .ok (.getfield 80, 3) := by decide +kernel
theorem d_Reader_readForm_27 : decode prog_2_method_9_code 27 = .ok (.iload_n 1, 1) := by decide +kernel
theorem d_Reader_readForm_28 : decode prog_2_method_9_code 28 = .ok (.iaload, 1) := by decide +kernel
theorem d_Reader_readForm_29 : decode prog_2_method_9_code 29 = .ok (.iconst 3, 1) := by decide +kernel
theorem d_Reader_readForm_30 : decode prog_2_method_9_code 30 = .ok (.if_icmp .ne 10, 3) := by decide +kernel
theorem d_Reader_readForm_33 : decode prog_2_method_9_code 33 = .ok (.aload_n 0, 1) := by decide +kernel
theorem d_Reader_readForm_34 : decode prog_2_method_9_code 34 = .ok (.iload_n 1, 1) := by decide +kernel
theorem d_Reader_readForm_35 : decode prog_2_method_9_code 35 = .ok (.aload_n 2, 1) := by decide +kernel
theorem d_Reader_readForm_36 : decode prog_2_method_9_code 36 = .ok (.invokevirtual 112, 3) := by decide +kernel
theorem d_Reader_readForm_39 : decode prog_2_method_9_code 39 = .ok (.ireturn, 1) := by decide +kernel
theorem d_Reader_readForm_40 : decode prog_2_method_9_code 40 = .ok (.iconst 1, 1) := by decide +kernel
theorem d_Reader_readForm_41 : decode prog_2_method_9_code 41 = .ok (.ireturn, 1) := by decide +kernel
abbrev M_Reader_readScale : MethodName × ByteArray × Nat × Option FieldType := (⟨"KeyCodec$KeyReader", "readScale", "(ILKeyCodec$Value;)Z"⟩, prog_2_method_10_code, 8, some .boolean)
theorem d_Reader_readScale_0 : decode prog_2_method_10_code 0 = .ok (.aload_n 0, 1) := by decide +kernel
theorem d_Reader_readScale_1 : decode prog_2_method_10_code 1 = .ok (.invokevirtual 67, 3) := by decide +kernel
theorem d_Reader_readScale_4 : decode prog_2_method_10_code 4 = .ok (.istore_n 3, 1) := by decide +kernel
theorem d_Reader_readScale_5 : decode prog_2_method_10_code 5 = .ok (.aload_n 0, 1) := by decide +kernel
theorem d_Reader_readScale_6 : decode prog_2_method_10_code 6 = .ok (.getfield 18, 3) := by decide +kernel
theorem d_Reader_readScale_9 : decode prog_2_method_10_code 9 = .ok (.iload_n 1, 1) := by decide +kernel
theorem d_Reader_readScale_10 : decode prog_2_method_10_code 10 = .ok (.iaload, 1) := by decide +kernel
theorem d_Reader_readScale_11 : decode prog_2_method_10_code 11 = .ok (.iload_n 3, 1) := by decide +kernel
theorem d_Reader_readScale_12 : decode prog_2_method_10_code 12 = .ok (.iadd, 1) := by decide +kernel
theorem d_Reader_readScale_13 : decode prog_2_method_10_code 13 = .ok (.istore 4, 2) := by decide +kernel
theorem d_Reader_readScale_15 : decode prog_2_method_10_code 15 = .ok (.iload_n 3, 1) := by decide +kernel
theorem d_Reader_readScale_16 : decode prog_2_method_10_code 16 = .ok (.iconst (-1), 1) := by decide +kernel
theorem d_Reader_readScale_17 : decode prog_2_method_10_code 17 = .ok (.if_icmp .eq 8, 3) := by decide +kernel
theorem d_Reader_readScale_20 : decode prog_2_method_10_code 20 = .ok (.iload 4, 2) := by decide +kernel
theorem d_Reader_readScale_22 : decode prog_2_method_10_code 22 = .ok (.ifCond .ge 5, 3) := by decide +kernel
theorem d_Reader_readScale_25 : decode prog_2_method_10_code 25 = .ok (.iconst 0, 1) := by decide +kernel
theorem d_Reader_readScale_26 : decode prog_2_method_10_code 26 = .ok (.ireturn, 1) := by decide +kernel
theorem d_Reader_readScale_27 : decode prog_2_method_10_code 27 = .ok (.aload_n 2, 1) := by decide +kernel
theorem d_Reader_readScale_28 : decode prog_2_method_10_code 28 = .ok (.getfield 115, 3) := by decide +kernel
theorem d_Reader_readScale_31 : decode prog_2_method_10_code 31 = .ok (.lstore 5, 2) := by decide +kernel
theorem d_Reader_readScale_33 : decode prog_2_method_10_code 33 = .ok (.iconst 0, 1) := by decide +kernel
theorem d_Reader_readScale_34 : decode prog_2_method_10_code 34 = .ok (.istore 7, 2) := by decide +kernel
theorem d_Reader_readScale_36 : decode prog_2_method_10_code 36 = .ok (.iload 7, 2) := by decide +kernel
theorem d_Reader_readScale_38 : decode prog_2_method_10_code 38 = .ok (.iload 4, 2) := by decide +kernel
theorem d_Reader_readScale_40 : decode prog_2_method_10_code 40 = .ok (.if_icmp .ge 31, 3) := by decide +kernel
theorem d_Reader_readScale_43 : decode prog_2_method_10_code 43 = .ok (.lload 5, 2) := by decide +kernel
theorem d_Reader_readScale_45 : decode prog_2_method_10_code 45 = .ok (.invokestatic 119, 3) := by decide +kernel
theorem d_Reader_readScale_48 : decode prog_2_method_10_code 48 = .ok (.ldc2_w 125, 3) := by decide +kernel
theorem d_Reader_readScale_51 : decode prog_2_method_10_code 51 = .ok (.lcmp, 1) := by decide +kernel
theorem d_Reader_readScale_52 : decode prog_2_method_10_code 52 = .ok (.ifCond .le 5, 3) := by decide +kernel
theorem d_Reader_readScale_55 : decode prog_2_method_10_code 55 = .ok (.iconst 0, 1) := by decide +kernel
theorem d_Reader_readScale_56 : decode prog_2_method_10_code 56 = .ok (.ireturn, 1) := by decide +kernel
theorem d_Reader_readScale_57 : decode prog_2_method_10_code 57 = .ok (.lload 5, 2) := by decide +kernel
theorem d_Reader_readScale_59 : decode prog_2_method_10_code 59 = .ok (.ldc2_w 107, 3) := by decide +kernel
theorem d_Reader_readScale_62 : decode prog_2_method_10_code 62 = .ok (.lmul, 1) := by decide +kernel
theorem d_Reader_readScale_63 : decode prog_2_method_10_code 63 = .ok (.lstore 5, 2) := by decide +kernel
theorem d_Reader_readScale_65 : decode prog_2_method_10_code 65 = .ok (.iinc 7 1, 3) := by decide +kernel
theorem d_Reader_readScale_68 : decode prog_2_method_10_code 68 = .ok (.goto (-32), 3) := by decide +kernel
theorem d_Reader_readScale_71 : decode prog_2_method_10_code 71 = .ok (.aload_n 2, 1) := by decide +kernel
theorem d_Reader_readScale_72 : decode prog_2_method_10_code 72 = .ok (.lload 5, 2) := by decide +kernel
theorem d_Reader_readScale_74 : decode prog_2_method_10_code 74 = .ok (.iload_n 3, 1) := by decide +kernel
theorem d_Reader_readScale_75 : decode prog_2_method_10_code 75 = .ok (.invokevirtual 95, 3) := by decide +kernel
theorem d_Reader_readScale_78 : decode prog_2_method_10_code 78 = .ok (.aload_n 0, 1) := by decide +kernel
theorem d_Reader_readScale_79 : decode prog_2_method_10_code 79 = .ok (.getfield 22, 3) := by decide +kernel
theorem d_Reader_readScale_82 : decode prog_2_method_10_code 82 = .ok (.iload_n 1, 1) := by decide +kernel
theorem d_Reader_readScale_83 : decode prog_2_method_10_code 83 = .ok (.lload 5, 2) := by decide +kernel
theorem d_Reader_readScale_85 : decode prog_2_method_10_code 85 = .ok (.iload_n 3, 1) := by decide +kernel
theorem d_Reader_readScale_86 : decode prog_2_method_10_code 86 = .ok (.invokevirtual 127, 3) := by decide +kernel
theorem d_Reader_readScale_89 : decode prog_2_method_10_code 89 = .ok (.ireturn, 1) := by decide +kernel
abbrev M_Reader_readOffset : MethodName × ByteArray × Nat × Option FieldType := (⟨"KeyCodec$KeyReader", "readOffset", "(ILKeyCodec$Value;)Z"⟩, prog_2_method_11_code, 5, some .boolean)
theorem d_Reader_readOffset_0 : decode prog_2_method_11_code 0 = .ok (.aload_n 0, 1) := by decide +kernel
theorem d_Reader_readOffset_1 : decode prog_2_method_11_code 1 = .ok (.invokevirtual 67, 3) := by decide +kernel
theorem d_Reader_readOffset_4 : decode prog_2_method_11_code 4 = .ok (.istore_n 3, 1) := by decide +kernel
theorem d_Reader_readOffset_5 : decode prog_2_method_11_code 5 = .ok (.aload_n 0, 1) := by decide +kernel
theorem d_Reader_readOffset_6 : decode prog_2_method_11_code 6 = .ok (.invokevirtual 67, 3) := by decide +kernel
theorem d_Reader_readOffset_9 : decode prog_2_method_11_code 9 = .ok (.istore 4, 2) := by decide +kernel
theorem d_Reader_readOffset_11 : decode prog_2_method_11_code 11 = .ok (.iload_n 3, 1) := by decide +kernel
theorem d_Reader_readOffset_12 : decode prog_2_method_11_code 12 = .ok (.iconst (-1), 1) := by decide +kernel
theorem d_Reader_readOffset_13 : decode prog_2_method_11_code 13 = .ok (.if_icmp .eq 9, 3) := by decide +kernel
theorem d_Reader_readOffset_16 : decode prog_2_method_11_code 16 = .ok (.iload 4, 2) := by decide +kernel
theorem d_Reader_readOffset_18 : decode prog_2_method_11_code 18 = .ok (.iconst (-1), 1) := by decide +kernel
theorem d_Reader_readOffset_19 : decode prog_2_method_11_code 19 = .ok (.if_icmp .ne 5, 3) := by decide +kernel
theorem d_Reader_readOffset_22 : decode prog_2_method_11_code 22 = .ok (.iconst 0, 1) := by decide +kernel
theorem d_Reader_readOffset_23 : decode prog_2_method_11_code 23 = .ok (.ireturn, 1) := by decide +kernel
theorem d_Reader_readOffset_24 : decode prog_2_method_11_code 24 = .ok (.aload_n 2, 1) := by decide +kernel
theorem d_Reader_readOffset_25 : decode prog_2_method_11_code 25 = .ok (.aload_n 2, 1) := by decide +kernel
theorem d_Reader_readOffset_26 : decode prog_2_method_11_code 26 = .ok (.getfield 115, 3) := by decide +kernel
theorem d_Reader_readOffset_29 : decode prog_2_method_11_code 29 = .ok (.iload_n 3, 1) := by decide +kernel
theorem d_Reader_readOffset_30 : decode prog_2_method_11_code 30 = .ok (.sipush 256, 3) := by decide +kernel
theorem d_Reader_readOffset_33 : decode prog_2_method_11_code 33 = .ok (.imul, 1) := by decide +kernel
theorem d_Reader_readOffset_34 : decode prog_2_method_11_code 34 = .ok (.iload 4, 2) := by decide +kernel
theorem d_Reader_readOffset_36 : decode prog_2_method_11_code 36 = .ok (.iadd, 1) := by decide +kernel
theorem d_Reader_readOffset_37 : decode prog_2_method_11_code 37 = .ok (.sipush 1000, 3) := by decide +kernel
theorem d_Reader_readOffset_40 : decode prog_2_method_11_code 40 = .ok (.isub, 1) := by decide +kernel
theorem d_Reader_readOffset_41 : decode prog_2_method_11_code 41 = .ok (.invokevirtual 95, 3) := by decide +kernel
theorem d_Reader_readOffset_44 : decode prog_2_method_11_code 44 = .ok (.aload_n 0, 1) := by decide +kernel
theorem d_Reader_readOffset_45 : decode prog_2_method_11_code 45 = .ok (.getfield 22, 3) := by decide +kernel
theorem d_Reader_readOffset_48 : decode prog_2_method_11_code 48 = .ok (.iload_n 1, 1) := by decide +kernel
theorem d_Reader_readOffset_49 : decode prog_2_method_11_code 49 = .ok (.aload_n 2, 1) := by decide +kernel
theorem d_Reader_readOffset_50 : decode prog_2_method_11_code 50 = .ok (.getfield 115, 3) := by decide +kernel
theorem d_Reader_readOffset_53 : decode prog_2_method_11_code 53 = .ok (.aload_n 2, 1) := by decide +kernel
theorem d_Reader_readOffset_54 : decode prog_2_method_11_code 54 = .ok (.getfield 131, 3) := by decide +kernel
theorem d_Reader_readOffset_57 : decode prog_2_method_11_code 57 = .ok (.invokevirtual 127, 3) := by decide +kernel
theorem d_Reader_readOffset_60 : decode prog_2_method_11_code 60 = .ok (.ireturn, 1) := by decide +kernel
theorem lo_Reader_3 : Cond.methodLink "KeyCodec$KeyReader" 3 Lib.objectInit ∈ kTs := km 503 (by decide +kernel) (by decide +kernel)
theorem lf_Reader_9 : Cond.fieldLink "KeyCodec$KeyReader" (9 : Nat) "KeyCodec$KeyReader" "position" "I" ∈ kTs := km 506 (by decide +kernel) (by decide +kernel)
theorem lf_Reader_15 : Cond.fieldLink "KeyCodec$KeyReader" (15 : Nat) "KeyCodec$KeyReader" "turn" "I" ∈ kTs := km 507 (by decide +kernel) (by decide +kernel)
theorem lf_Reader_18 : Cond.fieldLink "KeyCodec$KeyReader" (18 : Nat) "KeyCodec$KeyReader" "powers" "[I" ∈ kTs := km 508 (by decide +kernel) (by decide +kernel)
theorem lf_Reader_22 : Cond.fieldLink "KeyCodec$KeyReader" (22 : Nat) "KeyCodec$KeyReader" "schema" "LKeyCodec$Schema;" ∈ kTs := km 504 (by decide +kernel) (by decide +kernel)
theorem lf_Reader_26 : Cond.fieldLink "KeyCodec$KeyReader" (26 : Nat) "KeyCodec$KeyReader" "row" "LKeyCodec$Row;" ∈ kTs := km 505 (by decide +kernel) (by decide +kernel)
theorem kb_Tuple_reset : kCB M_Tuple_reset 0 := ⟨km 3 (by decide +kernel) (by decide +kernel), km 160 (by decide +kernel) (by decide +kernel), by decide +kernel, by decide +kernel⟩
theorem lg_Reader_30 : kCV "KeyCodec$KeyReader" 30 M_Tuple_reset 0 3 := ⟨kb_Tuple_reset, km 524 (by decide +kernel) (by decide +kernel), km 158 (by decide +kernel) (by decide +kernel), km 159 (by decide +kernel) (by decide +kernel), (F_Tuple, 1), rfl⟩
theorem lf_Reader_35 : Cond.fieldLink "KeyCodec$KeyReader" (35 : Nat) "KeyCodec$Schema" "count" "I" ∈ kTs := km 38 (by decide +kernel) (by decide +kernel)
theorem lf_Reader_40 : Cond.fieldLink "KeyCodec$KeyReader" (40 : Nat) "KeyCodec$Tuple" "values" "[LKeyCodec$Value;" ∈ kTs := km 94 (by decide +kernel) (by decide +kernel)
theorem kb_Reader_readField : kCB M_Reader_readField 2 := ⟨km 14 (by decide +kernel) (by decide +kernel), km 528 (by decide +kernel) (by decide +kernel), by decide +kernel, by decide +kernel⟩
theorem lg_Reader_44 : kCV "KeyCodec$KeyReader" 44 M_Reader_readField 2 5 := ⟨kb_Reader_readField, km 525 (by decide +kernel) (by decide +kernel), km 527 (by decide +kernel) (by decide +kernel), kms 5 (by decide +kernel) (by decide +kernel), (F_Reader, 5), rfl⟩
theorem lf_Reader_48 : Cond.fieldLink "KeyCodec$KeyReader" (48 : Nat) "KeyCodec$Value" "missing" "Z" ∈ kTs := km 66 (by decide +kernel) (by decide +kernel)
theorem kb_Reader_readForm : kCB M_Reader_readForm 2 := ⟨km 14 (by decide +kernel) (by decide +kernel), km 561 (by decide +kernel) (by decide +kernel), by decide +kernel, by decide +kernel⟩
theorem lg_Reader_54 : kCV "KeyCodec$KeyReader" 54 M_Reader_readForm 2 5 := ⟨kb_Reader_readForm, km 558 (by decide +kernel) (by decide +kernel), km 560 (by decide +kernel) (by decide +kernel), kms 11 (by decide +kernel) (by decide +kernel), (F_Reader, 5), rfl⟩
theorem lg_Reader_57 : kCV "KeyCodec$KeyReader" 57 M_Row_byteAt 1 1 := ⟨kb_Row_byteAt, km 534 (by decide +kernel) (by decide +kernel), km 249 (by decide +kernel) (by decide +kernel), km 250 (by decide +kernel) (by decide +kernel), (F_Row, 2), rfl⟩
theorem lg_Reader_63 : kCV "KeyCodec$KeyReader" 63 M_Schema_has 2 4 := ⟨kb_Schema_has, km 529 (by decide +kernel) (by decide +kernel), km 207 (by decide +kernel) (by decide +kernel), km 208 (by decide +kernel) (by decide +kernel), (F_Schema, 4), rfl⟩
theorem kb_Reader_next : kCB M_Reader_next 0 := ⟨km 14 (by decide +kernel) (by decide +kernel), km 533 (by decide +kernel) (by decide +kernel), by decide +kernel, by decide +kernel⟩
theorem lg_Reader_67 : kCV "KeyCodec$KeyReader" 67 M_Reader_next 0 5 := ⟨kb_Reader_next, km 530 (by decide +kernel) (by decide +kernel), km 532 (by decide +kernel) (by decide +kernel), kms 6 (by decide +kernel) (by decide +kernel), (F_Reader, 5), rfl⟩
theorem lg_Reader_71 : kCV "KeyCodec$KeyReader" 71 M_Schema_absentMark 1 4 := ⟨kb_Schema_absentMark, km 535 (by decide +kernel) (by decide +kernel), km 291 (by decide +kernel) (by decide +kernel), km 292 (by decide +kernel) (by decide +kernel), (F_Schema, 4), rfl⟩
theorem kb_Value_vanish : kCB M_Value_vanish 0 := ⟨km 4 (by decide +kernel) (by decide +kernel), km 213 (by decide +kernel) (by decide +kernel), by decide +kernel, by decide +kernel⟩
theorem lg_Reader_74 : kCV "KeyCodec$KeyReader" 74 M_Value_vanish 0 2 := ⟨kb_Value_vanish, km 536 (by decide +kernel) (by decide +kernel), km 211 (by decide +kernel) (by decide +kernel), km 212 (by decide +kernel) (by decide +kernel), (F_Value, 5), rfl⟩
theorem lg_Reader_77 : kCV "KeyCodec$KeyReader" 77 M_Schema_turnOf 1 4 := ⟨kb_Schema_turnOf, km 537 (by decide +kernel) (by decide +kernel), km 297 (by decide +kernel) (by decide +kernel), km 298 (by decide +kernel) (by decide +kernel), (F_Schema, 4), rfl⟩
theorem lf_Reader_80 : Cond.fieldLink "KeyCodec$KeyReader" (80 : Nat) "KeyCodec$Schema" "kinds" "[I" ∈ kTs := km 33 (by decide +kernel) (by decide +kernel)
theorem kb_Reader_readDecimal : kCB M_Reader_readDecimal 2 := ⟨km 14 (by decide +kernel) (by decide +kernel), km 541 (by decide +kernel) (by decide +kernel), by decide +kernel, by decide +kernel⟩
theorem lg_Reader_83 : kCV "KeyCodec$KeyReader" 83 M_Reader_readDecimal 2 5 := ⟨kb_Reader_readDecimal, km 538 (by decide +kernel) (by decide +kernel), km 540 (by decide +kernel) (by decide +kernel), kms 7 (by decide +kernel) (by decide +kernel), (F_Reader, 5), rfl⟩
theorem kb_Reader_readText : kCB M_Reader_readText 1 := ⟨km 14 (by decide +kernel) (by decide +kernel), km 551 (by decide +kernel) (by decide +kernel), by decide +kernel, by decide +kernel⟩
theorem lg_Reader_86 : kCV "KeyCodec$KeyReader" 86 M_Reader_readText 1 5 := ⟨kb_Reader_readText, km 548 (by decide +kernel) (by decide +kernel), km 550 (by decide +kernel) (by decide +kernel), kms 9 (by decide +kernel) (by decide +kernel), (F_Reader, 5), rfl⟩
theorem kb_Reader_readInt : kCB M_Reader_readInt 1 := ⟨km 14 (by decide +kernel) (by decide +kernel), km 556 (by decide +kernel) (by decide +kernel), by decide +kernel, by decide +kernel⟩
theorem lg_Reader_90 : kCV "KeyCodec$KeyReader" 90 M_Reader_readInt 1 5 := ⟨kb_Reader_readInt, km 553 (by decide +kernel) (by decide +kernel), km 555 (by decide +kernel) (by decide +kernel), kms 10 (by decide +kernel) (by decide +kernel), (F_Reader, 5), rfl⟩
theorem lK_Reader_93 : Cond.constantLong "KeyCodec$KeyReader" (93 : Nat) (-1 : Int64) ∈ kTs := km 557 (by decide +kernel) (by decide +kernel)
theorem lg_Reader_95 : kCV "KeyCodec$KeyReader" 95 M_Value_become 2 2 := ⟨kb_Value_become, km 542 (by decide +kernel) (by decide +kernel), km 162 (by decide +kernel) (by decide +kernel), km 163 (by decide +kernel) (by decide +kernel), (F_Value, 5), rfl⟩
theorem kb_Value_append : kCB M_Value_append 1 := ⟨km 4 (by decide +kernel) (by decide +kernel), km 201 (by decide +kernel) (by decide +kernel), by decide +kernel, by decide +kernel⟩
theorem lg_Reader_99 : kCV "KeyCodec$KeyReader" 99 M_Value_append 1 2 := ⟨kb_Value_append, km 552 (by decide +kernel) (by decide +kernel), km 199 (by decide +kernel) (by decide +kernel), km 200 (by decide +kernel) (by decide +kernel), (F_Value, 5), rfl⟩
theorem kb_Reader_readFraction : kCB M_Reader_readFraction 3 := ⟨km 14 (by decide +kernel) (by decide +kernel), km 546 (by decide +kernel) (by decide +kernel), by decide +kernel, by decide +kernel⟩
theorem lg_Reader_103 : kCV "KeyCodec$KeyReader" 103 M_Reader_readFraction 3 5 := ⟨kb_Reader_readFraction, km 543 (by decide +kernel) (by decide +kernel), km 545 (by decide +kernel) (by decide +kernel), kms 8 (by decide +kernel) (by decide +kernel), (F_Reader, 5), rfl⟩
theorem lK_Reader_107 : Cond.constantLong "KeyCodec$KeyReader" (107 : Nat) (10 : Int64) ∈ kTs := km 547 (by decide +kernel) (by decide +kernel)
theorem kb_Reader_readScale : kCB M_Reader_readScale 2 := ⟨km 14 (by decide +kernel) (by decide +kernel), km 565 (by decide +kernel) (by decide +kernel), by decide +kernel, by decide +kernel⟩
theorem lg_Reader_109 : kCV "KeyCodec$KeyReader" 109 M_Reader_readScale 2 5 := ⟨kb_Reader_readScale, km 562 (by decide +kernel) (by decide +kernel), km 564 (by decide +kernel) (by decide +kernel), kms 12 (by decide +kernel) (by decide +kernel), (F_Reader, 5), rfl⟩
theorem kb_Reader_readOffset : kCB M_Reader_readOffset 2 := ⟨km 14 (by decide +kernel) (by decide +kernel), km 572 (by decide +kernel) (by decide +kernel), by decide +kernel, by decide +kernel⟩
theorem lg_Reader_112 : kCV "KeyCodec$KeyReader" 112 M_Reader_readOffset 2 5 := ⟨kb_Reader_readOffset, km 569 (by decide +kernel) (by decide +kernel), km 571 (by decide +kernel) (by decide +kernel), kms 13 (by decide +kernel) (by decide +kernel), (F_Reader, 5), rfl⟩
theorem lf_Reader_115 : Cond.fieldLink "KeyCodec$KeyReader" (115 : Nat) "KeyCodec$Value" "number" "J" ∈ kTs := km 72 (by decide +kernel) (by decide +kernel)
theorem lm_Reader_119 : Cond.methodLink "KeyCodec$KeyReader" 119 Lib.MathLoose.abs_long.x ∈ kTs := km 566 (by decide +kernel) (by decide +kernel)
theorem lK_Reader_125 : Cond.constantLong "KeyCodec$KeyReader" (125 : Nat) (1000000000000000 : Int64) ∈ kTs := km 567 (by decide +kernel) (by decide +kernel)
theorem kb_Schema_allows : kCB M_Schema_allows 3 := ⟨km 2 (by decide +kernel) (by decide +kernel), km 188 (by decide +kernel) (by decide +kernel), by decide +kernel, by decide +kernel⟩
theorem lg_Reader_127 : kCV "KeyCodec$KeyReader" 127 M_Schema_allows 3 4 := ⟨kb_Schema_allows, km 568 (by decide +kernel) (by decide +kernel), km 186 (by decide +kernel) (by decide +kernel), km 187 (by decide +kernel) (by decide +kernel), (F_Schema, 4), rfl⟩
theorem lf_Reader_131 : Cond.fieldLink "KeyCodec$KeyReader" (131 : Nat) "KeyCodec$Value" "form" "I" ∈ kTs := km 76 (by decide +kernel) (by decide +kernel)
