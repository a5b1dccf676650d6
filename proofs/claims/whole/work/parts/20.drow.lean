abbrev M_Row_init : MethodName × ByteArray × Nat × Option FieldType := (⟨"KeyCodec$Row", "<init>", "()V"⟩, prog_4_method_1_code, 1, none)
theorem d_Row_init_0 : decode prog_4_method_1_code 0 = .ok (.aload_n 0, 1) := by decide +kernel
theorem d_Row_init_1 : decode prog_4_method_1_code 1 = .ok (.invokespecial 3, 3) := by decide +kernel
theorem d_Row_init_4 : decode prog_4_method_1_code 4 = .ok (.aload_n 0, 1) := by decide +kernel
theorem d_Row_init_5 : decode prog_4_method_1_code 5 = .ok (.bipush 120, 2) := by decide +kernel
theorem d_Row_init_7 : decode prog_4_method_1_code 7 = .ok (.newarray .int, 2) := by decide +kernel
theorem d_Row_init_9 : decode prog_4_method_1_code 9 = .ok (.putfield 9, 3) := by decide +kernel
theorem d_Row_init_12 : decode prog_4_method_1_code 12 = .ok (.aload_n 0, 1) := by decide +kernel
theorem d_Row_init_13 : decode prog_4_method_1_code 13 = .ok (.iconst 0, 1) := by decide +kernel
theorem d_Row_init_14 : decode prog_4_method_1_code 14 = .ok (.putfield 15, 3) := by decide +kernel
theorem d_Row_init_17 : decode prog_4_method_1_code 17 = .ok (.return_, 1) := by decide +kernel
abbrev M_Row_empty : MethodName × ByteArray × Nat × Option FieldType := (⟨"KeyCodec$Row", "empty", "()V"⟩, prog_4_method_2_code, 1, none)
theorem d_Row_empty_0 : decode prog_4_method_2_code 0 = .ok (.aload_n 0, 1) := by decide +kernel
theorem d_Row_empty_1 : decode prog_4_method_2_code 1 = .ok (.iconst 0, 1) := by decide +kernel
theorem d_Row_empty_2 : decode prog_4_method_2_code 2 = .ok (.putfield 15, 3) := by decide +kernel
theorem d_Row_empty_5 : decode prog_4_method_2_code 5 = .ok (.return_, 1) := by decide +kernel
abbrev M_Row_hasRoomFor : MethodName × ByteArray × Nat × Option FieldType := (⟨"KeyCodec$Row", "hasRoomFor", "(I)Z"⟩, prog_4_method_3_code, 2, some .boolean)
theorem d_Row_hasRoomFor_0 : decode prog_4_method_3_code 0 = .ok (.iload_n 1, 1) := by decide +kernel
theorem d_Row_hasRoomFor_1 : decode prog_4_method_3_code 1 = .ok (.bipush 120, 2) := by decide +kernel
theorem d_Row_hasRoomFor_3 : decode prog_4_method_3_code 3 = .ok (.aload_n 0, 1) := by decide +kernel
theorem d_Row_hasRoomFor_4 : decode prog_4_method_3_code 4 = .ok (.getfield 15, 3) := by decide +kernel
theorem d_Row_hasRoomFor_7 : decode prog_4_method_3_code 7 = .ok (.isub, 1) := by decide +kernel
theorem d_Row_hasRoomFor_8 : decode prog_4_method_3_code 8 = .ok (.if_icmp .gt 7, 3) := by decide +kernel
theorem d_Row_hasRoomFor_11 : decode prog_4_method_3_code 11 = .ok (.iconst 1, 1) := by decide +kernel
theorem d_Row_hasRoomFor_12 : decode prog_4_method_3_code 12 = .ok (.goto 4, 3) := by decide +kernel
theorem d_Row_hasRoomFor_15 : decode prog_4_method_3_code 15 = .ok (.iconst 0, 1) := by decide +kernel
theorem d_Row_hasRoomFor_16 : decode prog_4_method_3_code 16 = .ok (.ireturn, 1) := by decide +kernel
abbrev M_Row_append : MethodName × ByteArray × Nat × Option FieldType := (⟨"KeyCodec$Row", "append", "(I)V"⟩, prog_4_method_4_code, 2, none)
theorem d_Row_append_0 : decode prog_4_method_4_code 0 = .ok (.aload_n 0, 1) := by decide +kernel
theorem d_Row_append_1 : decode prog_4_method_4_code 1 = .ok (.getfield 15, 3) := by decide +kernel
theorem d_Row_append_4 : decode prog_4_method_4_code 4 = .ok (.bipush 120, 2) := by decide +kernel
theorem d_Row_append_6 : decode prog_4_method_4_code 6 = .ok (.if_icmp .ge 27, 3) := by decide +kernel
theorem d_Row_append_9 : decode prog_4_method_4_code 9 = .ok (.aload_n 0, 1) := by decide +kernel
theorem d_Row_append_10 : decode prog_4_method_4_code 10 = .ok (.getfield 9, 3) := by decide +kernel
theorem d_Row_append_13 : decode prog_4_method_4_code 13 = .ok (.aload_n 0, 1) := by decide +kernel
theorem d_Row_append_14 : decode prog_4_method_4_code 14 = .ok (.getfield 15, 3) := by decide +kernel
theorem d_Row_append_17 : decode prog_4_method_4_code 17 = .ok (.iload_n 1, 1) := by decide +kernel
theorem d_Row_append_18 : decode prog_4_method_4_code 18 = .ok (.sipush 255, 3) := by decide +kernel
theorem d_Row_append_21 : decode prog_4_method_4_code 21 = .ok (.iand, 1) := by decide +kernel
theorem d_Row_append_22 : decode prog_4_method_4_code 22 = .ok (.iastore, 1) := by decide +kernel
theorem d_Row_append_23 : decode prog_4_method_4_code 23 = .ok (.aload_n 0, 1) := by decide +kernel
theorem d_Row_append_24 : decode prog_4_method_4_code 24 = .ok (.dup, 1) := by decide +kernel
theorem d_Row_append_25 : decode prog_4_method_4_code 25 = .ok (.getfield 15, 3) := by decide +kernel
theorem d_Row_append_28 : decode prog_4_method_4_code 28 = .ok (.iconst 1, 1) := by decide +kernel
theorem d_Row_append_29 : decode prog_4_method_4_code 29 = .ok (.iadd, 1) := by decide +kernel
theorem d_Row_append_30 : decode prog_4_method_4_code 30 = .ok (.putfield 15, 3) := by decide +kernel
theorem d_Row_append_33 : decode prog_4_method_4_code 33 = .ok (.return_, 1) := by decide +kernel
abbrev M_Row_appendLowest : MethodName × ByteArray × Nat × Option FieldType := (⟨"KeyCodec$Row", "appendLowest", "(IJI)V"⟩, prog_4_method_5_code, 6, none)
theorem d_Row_appendLowest_0 : decode prog_4_method_5_code 0 = .ok (.iload_n 1, 1) := by decide +kernel
theorem d_Row_appendLowest_1 : decode prog_4_method_5_code 1 = .ok (.iconst 1, 1) := by decide +kernel
theorem d_Row_appendLowest_2 : decode prog_4_method_5_code 2 = .ok (.isub, 1) := by decide +kernel
theorem d_Row_appendLowest_3 : decode prog_4_method_5_code 3 = .ok (.istore 5, 2) := by decide +kernel
theorem d_Row_appendLowest_5 : decode prog_4_method_5_code 5 = .ok (.iload 5, 2) := by decide +kernel
theorem d_Row_appendLowest_7 : decode prog_4_method_5_code 7 = .ok (.ifCond .lt 24, 3) := by decide +kernel
theorem d_Row_appendLowest_10 : decode prog_4_method_5_code 10 = .ok (.aload_n 0, 1) := by decide +kernel
theorem d_Row_appendLowest_11 : decode prog_4_method_5_code 11 = .ok (.lload_n 2, 1) := by decide +kernel
theorem d_Row_appendLowest_12 : decode prog_4_method_5_code 12 = .ok (.bipush 8, 2) := by decide +kernel
theorem d_Row_appendLowest_14 : decode prog_4_method_5_code 14 = .ok (.iload 5, 2) := by decide +kernel
theorem d_Row_appendLowest_16 : decode prog_4_method_5_code 16 = .ok (.imul, 1) := by decide +kernel
theorem d_Row_appendLowest_17 : decode prog_4_method_5_code 17 = .ok (.lushr, 1) := by decide +kernel
theorem d_Row_appendLowest_18 : decode prog_4_method_5_code 18 = .ok (.l2i, 1) := by decide +kernel
theorem d_Row_appendLowest_19 : decode prog_4_method_5_code 19 = .ok (.iload 4, 2) := by decide +kernel
theorem d_Row_appendLowest_21 : decode prog_4_method_5_code 21 = .ok (.ixor, 1) := by decide +kernel
theorem d_Row_appendLowest_22 : decode prog_4_method_5_code 22 = .ok (.invokevirtual 19, 3) := by decide +kernel
theorem d_Row_appendLowest_25 : decode prog_4_method_5_code 25 = .ok (.iinc 5 (-1), 3) := by decide +kernel
theorem d_Row_appendLowest_28 : decode prog_4_method_5_code 28 = .ok (.goto (-23), 3) := by decide +kernel
theorem d_Row_appendLowest_31 : decode prog_4_method_5_code 31 = .ok (.return_, 1) := by decide +kernel
abbrev M_Row_byteAt : MethodName × ByteArray × Nat × Option FieldType := (⟨"KeyCodec$Row", "byteAt", "(I)I"⟩, prog_4_method_6_code, 2, some .int)
theorem d_Row_byteAt_0 : decode prog_4_method_6_code 0 = .ok (.iload_n 1, 1) := by decide +kernel
theorem d_Row_byteAt_1 : decode prog_4_method_6_code 1 = .ok (.ifCond .lt 20, 3) := by decide +kernel
theorem d_Row_byteAt_4 : decode prog_4_method_6_code 4 = .ok (.iload_n 1, 1) := by decide +kernel
theorem d_Row_byteAt_5 : decode prog_4_method_6_code 5 = .ok (.aload_n 0, 1) := by decide +kernel
theorem d_Row_byteAt_6 : decode prog_4_method_6_code 6 = .ok (.getfield 15, 3) := by decide +kernel
theorem d_Row_byteAt_9 : decode prog_4_method_6_code 9 = .ok (.if_icmp .ge 12, 3) := by decide +kernel
theorem d_Row_byteAt_12 : decode prog_4_method_6_code 12 = .ok (.aload_n 0, 1) := by decide +kernel
theorem d_Row_byteAt_13 : decode prog_4_method_6_code 13 = .ok (.getfield 9, 3) := by decide +kernel
theorem d_Row_byteAt_16 : decode prog_4_method_6_code 16 = .ok (.iload_n 1, 1) := by decide +kernel
theorem d_Row_byteAt_17 : decode prog_4_method_6_code 17 = .ok (.iaload, 1) := by decide +kernel
theorem d_Row_byteAt_18 : decode prog_4_method_6_code 18 = .ok (.goto 4, 3) := by decide +kernel
theorem d_Row_byteAt_21 : decode prog_4_method_6_code 21 = .ok (.iconst (-1), 1) := by decide +kernel
theorem d_Row_byteAt_22 : decode prog_4_method_6_code 22 = .ok (.ireturn, 1) := by decide +kernel
abbrev M_Row_sharedWith : MethodName × ByteArray × Nat × Option FieldType := (⟨"KeyCodec$Row", "sharedWith", "(LKeyCodec$Row;)I"⟩, prog_4_method_7_code, 4, some .int)
theorem d_Row_sharedWith_0 : decode prog_4_method_7_code 0 = .ok (.aload_n 0, 1) := by decide +kernel
theorem d_Row_sharedWith_1 : decode prog_4_method_7_code 1 = .ok (.getfield 15, 3) := by decide +kernel
theorem d_Row_sharedWith_4 : decode prog_4_method_7_code 4 = .ok (.aload_n 1, 1) := by decide +kernel
theorem d_Row_sharedWith_5 : decode prog_4_method_7_code 5 = .ok (.getfield 15, 3) := by decide +kernel
theorem d_Row_sharedWith_8 : decode prog_4_method_7_code 8 = .ok (.invokestatic 23, 3) := by decide +kernel
theorem d_Row_sharedWith_11 : decode prog_4_method_7_code 11 = .ok (.istore_n 2, 1) := by decide +kernel
theorem d_Row_sharedWith_12 : decode prog_4_method_7_code 12 = .ok (.iconst 0, 1) := by decide +kernel
theorem d_Row_sharedWith_13 : decode prog_4_method_7_code 13 = .ok (.istore_n 3, 1) := by decide +kernel
theorem d_Row_sharedWith_14 : decode prog_4_method_7_code 14 = .ok (.iload_n 3, 1) := by decide +kernel
theorem d_Row_sharedWith_15 : decode prog_4_method_7_code 15 = .ok (.iload_n 2, 1) := by decide +kernel
theorem d_Row_sharedWith_16 : decode prog_4_method_7_code 16 = .ok (.if_icmp .ge 26, 3) := by decide +kernel
theorem d_Row_sharedWith_19 : decode prog_4_method_7_code 19 = .ok (.aload_n 0, 1) := by decide +kernel
theorem d_Row_sharedWith_20 : decode prog_4_method_7_code 20 = .ok (.getfield 9, 3) := by decide +kernel
theorem d_Row_sharedWith_23 : decode prog_4_method_7_code 23 = .ok (.iload_n 3, 1) := by decide +kernel
theorem d_Row_sharedWith_24 : decode prog_4_method_7_code 24 = .ok (.iaload, 1) := by decide +kernel
theorem d_Row_sharedWith_25 : decode prog_4_method_7_code 25 = .ok (.aload_n 1, 1) := by decide +kernel
theorem d_Row_sharedWith_26 : decode prog_4_method_7_code 26 = .ok (.getfield 9, 3) := by decide +kernel
theorem d_Row_sharedWith_29 : decode prog_4_method_7_code 29 = .ok (.iload_n 3, 1) := by decide +kernel
theorem d_Row_sharedWith_30 : decode prog_4_method_7_code 30 = .ok (.iaload, 1) := by decide +kernel
theorem d_Row_sharedWith_31 : decode prog_4_method_7_code 31 = .ok (.if_icmp .eq 5, 3) := by decide +kernel
theorem d_Row_sharedWith_34 : decode prog_4_method_7_code 34 = .ok (.iload_n 3, 1) := by decide +kernel
theorem d_Row_sharedWith_35 : decode prog_4_method_7_code 35 = .ok (.ireturn, 1) := by decide +kernel
theorem d_Row_sharedWith_36 : decode prog_4_method_7_code 36 = .ok (.iinc 3 1, 3) := by decide +kernel
theorem d_Row_sharedWith_39 : decode prog_4_method_7_code 39 = .ok (.goto (-25), 3) := by decide +kernel
theorem d_Row_sharedWith_42 : decode prog_4_method_7_code 42 = .ok (.iload_n 2, 1) := by decide +kernel
theorem d_Row_sharedWith_43 : decode prog_4_method_7_code 43 = .ok (.ireturn, 1) := by decide +kernel
abbrev M_Row_orderAgainst : MethodName × ByteArray × Nat × Option FieldType := (⟨"KeyCodec$Row", "orderAgainst", "(LKeyCodec$Row;)I"⟩, prog_4_method_8_code, 3, some .int)
theorem d_Row_orderAgainst_0 : decode prog_4_method_8_code 0 = .ok (.aload_n 0, 1) := by decide +kernel
theorem d_Row_orderAgainst_1 : decode prog_4_method_8_code 1 = .ok (.aload_n 1, 1) := by decide +kernel
theorem d_Row_orderAgainst_2 : decode prog_4_method_8_code 2 = .ok (.invokevirtual 29, 3) := by decide +kernel
theorem d_Row_orderAgainst_5 : decode prog_4_method_8_code 5 = .ok (.istore_n 2, 1) := by decide +kernel
theorem d_Row_orderAgainst_6 : decode prog_4_method_8_code 6 = .ok (.aload_n 0, 1) := by decide +kernel
theorem d_Row_orderAgainst_7 : decode prog_4_method_8_code 7 = .ok (.iload_n 2, 1) := by decide +kernel
theorem d_Row_orderAgainst_8 : decode prog_4_method_8_code 8 = .ok (.invokevirtual 33, 3) := by decide +kernel
theorem d_Row_orderAgainst_11 : decode prog_4_method_8_code 11 = .ok (.aload_n 1, 1) := by decide +kernel
theorem d_Row_orderAgainst_12 : decode prog_4_method_8_code 12 = .ok (.iload_n 2, 1) := by decide +kernel
theorem d_Row_orderAgainst_13 : decode prog_4_method_8_code 13 = .ok (.invokevirtual 33, 3) := by decide +kernel
theorem d_Row_orderAgainst_16 : decode prog_4_method_8_code 16 = .ok (.invokestatic 37, 3) := by decide +kernel
theorem d_Row_orderAgainst_19 : decode prog_4_method_8_code 19 = .ok (.ireturn, 1) := by decide +kernel
abbrev M_Row_becomeEndOf : MethodName × ByteArray × Nat × Option FieldType := (⟨"KeyCodec$Row", "becomeEndOf", "(LKeyCodec$Row;)Z"⟩, prog_4_method_9_code, 3, some .boolean)
theorem d_Row_becomeEndOf_0 : decode prog_4_method_9_code 0 = .ok (.aload_n 0, 1) := by decide +kernel
theorem d_Row_becomeEndOf_1 : decode prog_4_method_9_code 1 = .ok (.iconst 0, 1) := by decide +kernel
theorem d_Row_becomeEndOf_2 : decode prog_4_method_9_code 2 = .ok (.putfield 15, 3) := by decide +kernel
theorem d_Row_becomeEndOf_5 : decode prog_4_method_9_code 5 = .ok (.aload_n 1, 1) := by decide +kernel
theorem d_Row_becomeEndOf_6 : decode prog_4_method_9_code 6 = .ok (.getfield 15, 3) := by decide +kernel
theorem d_Row_becomeEndOf_9 : decode prog_4_method_9_code 9 = .ok (.iconst 1, 1) := by decide +kernel
theorem d_Row_becomeEndOf_10 : decode prog_4_method_9_code 10 = .ok (.isub, 1) := by decide +kernel
theorem d_Row_becomeEndOf_11 : decode prog_4_method_9_code 11 = .ok (.istore_n 2, 1) := by decide +kernel
theorem d_Row_becomeEndOf_12 : decode prog_4_method_9_code 12 = .ok (.iload_n 2, 1) := by decide +kernel
theorem d_Row_becomeEndOf_13 : decode prog_4_method_9_code 13 = .ok (.ifCond .lt 58, 3) := by decide +kernel
theorem d_Row_becomeEndOf_16 : decode prog_4_method_9_code 16 = .ok (.aload_n 1, 1) := by decide +kernel
theorem d_Row_becomeEndOf_17 : decode prog_4_method_9_code 17 = .ok (.getfield 9, 3) := by decide +kernel
theorem d_Row_becomeEndOf_20 : decode prog_4_method_9_code 20 = .ok (.iload_n 2, 1) := by decide +kernel
theorem d_Row_becomeEndOf_21 : decode prog_4_method_9_code 21 = .ok (.iaload, 1) := by decide +kernel
theorem d_Row_becomeEndOf_22 : decode prog_4_method_9_code 22 = .ok (.sipush 255, 3) := by decide +kernel
theorem d_Row_becomeEndOf_25 : decode prog_4_method_9_code 25 = .ok (.if_icmp .ge 40, 3) := by decide +kernel
theorem d_Row_becomeEndOf_28 : decode prog_4_method_9_code 28 = .ok (.aload_n 1, 1) := by decide +kernel
theorem d_Row_becomeEndOf_29 : decode prog_4_method_9_code 29 = .ok (.getfield 9, 3) := by decide +kernel
theorem d_Row_becomeEndOf_32 : decode prog_4_method_9_code 32 = .ok (.iconst 0, 1) := by decide +kernel
theorem d_Row_becomeEndOf_33 : decode prog_4_method_9_code 33 = .ok (.aload_n 0, 1) := by decide +kernel
theorem d_Row_becomeEndOf_34 : decode prog_4_method_9_code 34 = .ok (.getfield 9, 3) := by decide +kernel
theorem d_Row_becomeEndOf_37 : decode prog_4_method_9_code 37 = .ok (.iconst 0, 1) := by decide +kernel
theorem d_Row_becomeEndOf_38 : decode prog_4_method_9_code 38 = .ok (.iload_n 2, 1) := by decide +kernel
theorem d_Row_becomeEndOf_39 : decode prog_4_method_9_code 39 = .ok (.invokestatic 42, 3) := by decide +kernel
theorem d_Row_becomeEndOf_42 : decode prog_4_method_9_code 42 = .ok (.aload_n 0, 1) := by decide +kernel
theorem d_Row_becomeEndOf_43 : decode prog_4_method_9_code 43 = .ok (.getfield 9, 3) := by decide +kernel
theorem d_Row_becomeEndOf_46 : decode prog_4_method_9_code 46 = .ok (.iload_n 2, 1) := by decide +kernel
theorem d_Row_becomeEndOf_47 : decode prog_4_method_9_code 47 = .ok (.aload_n 1, 1) := by decide +kernel
theorem d_Row_becomeEndOf_48 : decode prog_4_method_9_code 48 = .ok (.getfield 9, 3) := by decide +kernel
theorem d_Row_becomeEndOf_51 : decode prog_4_method_9_code 51 = .ok (.iload_n 2, 1) := by decide +kernel
theorem d_Row_becomeEndOf_52 : decode prog_4_method_9_code 52 = .ok (.iaload, 1) := by decide +kernel
theorem d_Row_becomeEndOf_53 : decode prog_4_method_9_code 53 = .ok (.iconst 1, 1) := by decide +kernel
theorem d_Row_becomeEndOf_54 : decode prog_4_method_9_code 54 = .ok (.iadd, 1) := by decide +kernel
theorem d_Row_becomeEndOf_55 : decode prog_4_method_9_code 55 = .ok (.iastore, 1) := by decide +kernel
theorem d_Row_becomeEndOf_56 : decode prog_4_method_9_code 56 = .ok (.aload_n 0, 1) := by decide +kernel
theorem d_Row_becomeEndOf_57 : decode prog_4_method_9_code 57 = .ok (.iload_n 2, 1) := by decide +kernel
theorem d_Row_becomeEndOf_58 : decode prog_4_method_9_code 58 = .ok (.iconst 1, 1) := by decide +kernel
theorem d_Row_becomeEndOf_59 : decode prog_4_method_9_code 59 = .ok (.iadd, 1) := by decide +kernel
theorem d_Row_becomeEndOf_60 : decode prog_4_method_9_code 60 = .ok (.putfield 15, 3) := by decide +kernel
theorem d_Row_becomeEndOf_63 : decode prog_4_method_9_code 63 = .ok (.iconst 1, 1) := by decide +kernel
theorem d_Row_becomeEndOf_64 : decode prog_4_method_9_code 64 = .ok (.ireturn, 1) := by decide +kernel
theorem d_Row_becomeEndOf_65 : decode prog_4_method_9_code 65 = .ok (.iinc 2 (-1), 3) := by decide +kernel
theorem d_Row_becomeEndOf_68 : decode prog_4_method_9_code 68 = .ok (.goto (-56), 3) := by decide +kernel
theorem d_Row_becomeEndOf_71 : decode prog_4_method_9_code 71 = .ok (.iconst 0, 1) := by decide +kernel
theorem d_Row_becomeEndOf_72 : decode prog_4_method_9_code 72 = .ok (.ireturn, 1) := by decide +kernel
abbrev M_Integer_compare : MethodName × ByteArray × Nat × Option FieldType := (⟨"java/lang/Integer", "compare", "(II)I"⟩, prog_13_method_40_code, 2, some .int)
theorem d_Integer_compare_0 : decode prog_13_method_40_code 0 = .ok (.iload_n 0, 1) := by decide +kernel
theorem d_Integer_compare_1 : decode prog_13_method_40_code 1 = .ok (.iload_n 1, 1) := by decide +kernel
theorem d_Integer_compare_2 : decode prog_13_method_40_code 2 = .ok (.if_icmp .ge 7, 3) := by decide +kernel
theorem d_Integer_compare_5 : decode prog_13_method_40_code 5 = .ok (.iconst (-1), 1) := by decide +kernel
theorem d_Integer_compare_6 : decode prog_13_method_40_code 6 = .ok (.goto 13, 3) := by decide +kernel
theorem d_Integer_compare_9 : decode prog_13_method_40_code 9 = .ok (.iload_n 0, 1) := by decide +kernel
theorem d_Integer_compare_10 : decode prog_13_method_40_code 10 = .ok (.iload_n 1, 1) := by decide +kernel
theorem d_Integer_compare_11 : decode prog_13_method_40_code 11 = .ok (.if_icmp .ne 7, 3) := by decide +kernel
theorem d_Integer_compare_14 : decode prog_13_method_40_code 14 = .ok (.iconst 0, 1) := by decide +kernel
theorem d_Integer_compare_15 : decode prog_13_method_40_code 15 = .ok (.goto 4, 3) := by decide +kernel
theorem d_Integer_compare_18 : decode prog_13_method_40_code 18 = .ok (.iconst 1, 1) := by decide +kernel
theorem d_Integer_compare_19 : decode prog_13_method_40_code 19 = .ok (.ireturn, 1) := by decide +kernel
theorem lo_Row_3 : Cond.methodLink "KeyCodec$Row" 3 Lib.objectInit ∈ kTs := km 105 (by decide +kernel) (by decide +kernel)
theorem lf_Row_9 : Cond.fieldLink "KeyCodec$Row" (9 : Nat) "KeyCodec$Row" "bytes" "[I" ∈ kTs := km 106 (by decide +kernel) (by decide +kernel)
theorem lf_Row_15 : Cond.fieldLink "KeyCodec$Row" (15 : Nat) "KeyCodec$Row" "size" "I" ∈ kTs := km 107 (by decide +kernel) (by decide +kernel)
theorem kb_Row_append : kCB M_Row_append 1 := ⟨km 5 (by decide +kernel) (by decide +kernel), km 239 (by decide +kernel) (by decide +kernel), by decide +kernel, by decide +kernel⟩
theorem lg_Row_19 : kCV "KeyCodec$Row" 19 M_Row_append 1 1 := ⟨kb_Row_append, km 236 (by decide +kernel) (by decide +kernel), km 237 (by decide +kernel) (by decide +kernel), km 238 (by decide +kernel) (by decide +kernel), (F_Row, 2), rfl⟩
theorem lm_Row_23 : Cond.methodLink "KeyCodec$Row" 23 Lib.Math.min.name ∈ kTs := km 329 (by decide +kernel) (by decide +kernel)
theorem ts_min1 : Cond.static Lib.Math.min.name ∈ kTs := km 330 (by decide +kernel) (by decide +kernel)
theorem ts_math : Cond.initialized "java/lang/Math" ∈ kTs := km 13 (by decide +kernel) (by decide +kernel)
theorem ts_min2 : Cond.code Lib.Math.min.name Lib.Math.min.code 2 (some .int) ∈ kTs := km 331 (by decide +kernel) (by decide +kernel)
theorem kb_Row_sharedWith : kCB M_Row_sharedWith 1 := ⟨km 5 (by decide +kernel) (by decide +kernel), km 328 (by decide +kernel) (by decide +kernel), by decide +kernel, by decide +kernel⟩
theorem lg_Row_29 : kCV "KeyCodec$Row" 29 M_Row_sharedWith 1 1 := ⟨kb_Row_sharedWith, km 325 (by decide +kernel) (by decide +kernel), km 326 (by decide +kernel) (by decide +kernel), km 327 (by decide +kernel) (by decide +kernel), (F_Row, 2), rfl⟩
theorem kb_Row_byteAt : kCB M_Row_byteAt 1 := ⟨km 5 (by decide +kernel) (by decide +kernel), km 251 (by decide +kernel) (by decide +kernel), by decide +kernel, by decide +kernel⟩
theorem lg_Row_33 : kCV "KeyCodec$Row" 33 M_Row_byteAt 1 1 := ⟨kb_Row_byteAt, km 332 (by decide +kernel) (by decide +kernel), km 249 (by decide +kernel) (by decide +kernel), km 250 (by decide +kernel) (by decide +kernel), (F_Row, 2), rfl⟩
theorem kb_Integer_compare : kCB M_Integer_compare 2 := ⟨km 15 (by decide +kernel) (by decide +kernel), km 335 (by decide +kernel) (by decide +kernel), by decide +kernel, by decide +kernel⟩
theorem lg_Row_37 : kCS "KeyCodec$Row" 37 M_Integer_compare 2 := ⟨kb_Integer_compare, km 333 (by decide +kernel) (by decide +kernel), km 334 (by decide +kernel) (by decide +kernel)⟩
theorem lm_Row_42 : Cond.methodLink "KeyCodec$Row" 42 arraycopyName ∈ kTs := km 365 (by decide +kernel) (by decide +kernel)
theorem ts_cp1 : Cond.native arraycopyName ∈ kTs := km 270 (by decide +kernel) (by decide +kernel)
theorem ts_cp2 : Cond.static arraycopyName ∈ kTs := km 269 (by decide +kernel) (by decide +kernel)
theorem ts_cp3 : Cond.initialized "java/lang/System" ∈ kTs := km 16 (by decide +kernel) (by decide +kernel)
