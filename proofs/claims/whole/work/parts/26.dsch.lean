abbrev M_Schema_init : MethodName × ByteArray × Nat × Option FieldType := (⟨"KeyCodec$Schema", "<init>", "()V"⟩, prog_5_method_1_code, 1, none)
theorem d_Schema_init_0 : decode prog_5_method_1_code 0 = .ok (.aload_n 0, 1) := by decide +kernel
theorem d_Schema_init_1 : decode prog_5_method_1_code 1 = .ok (.invokespecial 3, 3) := by decide +kernel
theorem d_Schema_init_4 : decode prog_5_method_1_code 4 = .ok (.aload_n 0, 1) := by decide +kernel
theorem d_Schema_init_5 : decode prog_5_method_1_code 5 = .ok (.iconst 5, 1) := by decide +kernel
theorem d_Schema_init_6 : decode prog_5_method_1_code 6 = .ok (.newarray .int, 2) := by decide +kernel
theorem d_Schema_init_8 : decode prog_5_method_1_code 8 = .ok (.putfield 9, 3) := by decide +kernel
theorem d_Schema_init_11 : decode prog_5_method_1_code 11 = .ok (.aload_n 0, 1) := by decide +kernel
theorem d_Schema_init_12 : decode prog_5_method_1_code 12 = .ok (.iconst 5, 1) := by decide +kernel
theorem d_Schema_init_13 : decode prog_5_method_1_code 13 = .ok (.newarray .int, 2) := by decide +kernel
theorem d_Schema_init_15 : decode prog_5_method_1_code 15 = .ok (.putfield 15, 3) := by decide +kernel
theorem d_Schema_init_18 : decode prog_5_method_1_code 18 = .ok (.aload_n 0, 1) := by decide +kernel
theorem d_Schema_init_19 : decode prog_5_method_1_code 19 = .ok (.iconst 0, 1) := by decide +kernel
theorem d_Schema_init_20 : decode prog_5_method_1_code 20 = .ok (.putfield 18, 3) := by decide +kernel
theorem d_Schema_init_23 : decode prog_5_method_1_code 23 = .ok (.aload_n 0, 1) := by decide +kernel
theorem d_Schema_init_24 : decode prog_5_method_1_code 24 = .ok (.iconst 0, 1) := by decide +kernel
theorem d_Schema_init_25 : decode prog_5_method_1_code 25 = .ok (.putfield 22, 3) := by decide +kernel
theorem d_Schema_init_28 : decode prog_5_method_1_code 28 = .ok (.return_, 1) := by decide +kernel
abbrev M_Schema_reset : MethodName × ByteArray × Nat × Option FieldType := (⟨"KeyCodec$Schema", "reset", "()V"⟩, prog_5_method_2_code, 1, none)
theorem d_Schema_reset_0 : decode prog_5_method_2_code 0 = .ok (.aload_n 0, 1) := by decide +kernel
theorem d_Schema_reset_1 : decode prog_5_method_2_code 1 = .ok (.iconst 0, 1) := by decide +kernel
theorem d_Schema_reset_2 : decode prog_5_method_2_code 2 = .ok (.putfield 18, 3) := by decide +kernel
theorem d_Schema_reset_5 : decode prog_5_method_2_code 5 = .ok (.aload_n 0, 1) := by decide +kernel
theorem d_Schema_reset_6 : decode prog_5_method_2_code 6 = .ok (.iconst 0, 1) := by decide +kernel
theorem d_Schema_reset_7 : decode prog_5_method_2_code 7 = .ok (.putfield 22, 3) := by decide +kernel
theorem d_Schema_reset_10 : decode prog_5_method_2_code 10 = .ok (.return_, 1) := by decide +kernel
abbrev M_Schema_append : MethodName × ByteArray × Nat × Option FieldType := (⟨"KeyCodec$Schema", "append", "(II)I"⟩, prog_5_method_3_code, 3, some .int)
theorem d_Schema_append_0 : decode prog_5_method_3_code 0 = .ok (.aload_n 0, 1) := by decide +kernel
theorem d_Schema_append_1 : decode prog_5_method_3_code 1 = .ok (.getfield 18, 3) := by decide +kernel
theorem d_Schema_append_4 : decode prog_5_method_3_code 4 = .ok (.iconst 5, 1) := by decide +kernel
theorem d_Schema_append_5 : decode prog_5_method_3_code 5 = .ok (.if_icmp .lt 5, 3) := by decide +kernel
theorem d_Schema_append_8 : decode prog_5_method_3_code 8 = .ok (.iconst (-1), 1) := by decide +kernel
theorem d_Schema_append_9 : decode prog_5_method_3_code 9 = .ok (.ireturn, 1) := by decide +kernel
theorem d_Schema_append_10 : decode prog_5_method_3_code 10 = .ok (.aload_n 0, 1) := by decide +kernel
theorem d_Schema_append_11 : decode prog_5_method_3_code 11 = .ok (.getfield 9, 3) := by decide +kernel
theorem d_Schema_append_14 : decode prog_5_method_3_code 14 = .ok (.aload_n 0, 1) := by decide +kernel
theorem d_Schema_append_15 : decode prog_5_method_3_code 15 = .ok (.getfield 18, 3) := by decide +kernel
theorem d_Schema_append_18 : decode prog_5_method_3_code 18 = .ok (.iload_n 1, 1) := by decide +kernel
theorem d_Schema_append_19 : decode prog_5_method_3_code 19 = .ok (.iastore, 1) := by decide +kernel
theorem d_Schema_append_20 : decode prog_5_method_3_code 20 = .ok (.aload_n 0, 1) := by decide +kernel
theorem d_Schema_append_21 : decode prog_5_method_3_code 21 = .ok (.getfield 15, 3) := by decide +kernel
theorem d_Schema_append_24 : decode prog_5_method_3_code 24 = .ok (.aload_n 0, 1) := by decide +kernel
theorem d_Schema_append_25 : decode prog_5_method_3_code 25 = .ok (.getfield 18, 3) := by decide +kernel
theorem d_Schema_append_28 : decode prog_5_method_3_code 28 = .ok (.iload_n 2, 1) := by decide +kernel
theorem d_Schema_append_29 : decode prog_5_method_3_code 29 = .ok (.iastore, 1) := by decide +kernel
theorem d_Schema_append_30 : decode prog_5_method_3_code 30 = .ok (.aload_n 0, 1) := by decide +kernel
theorem d_Schema_append_31 : decode prog_5_method_3_code 31 = .ok (.dup, 1) := by decide +kernel
theorem d_Schema_append_32 : decode prog_5_method_3_code 32 = .ok (.getfield 18, 3) := by decide +kernel
theorem d_Schema_append_35 : decode prog_5_method_3_code 35 = .ok (.iconst 1, 1) := by decide +kernel
theorem d_Schema_append_36 : decode prog_5_method_3_code 36 = .ok (.iadd, 1) := by decide +kernel
theorem d_Schema_append_37 : decode prog_5_method_3_code 37 = .ok (.putfield 18, 3) := by decide +kernel
theorem d_Schema_append_40 : decode prog_5_method_3_code 40 = .ok (.aload_n 0, 1) := by decide +kernel
theorem d_Schema_append_41 : decode prog_5_method_3_code 41 = .ok (.getfield 18, 3) := by decide +kernel
theorem d_Schema_append_44 : decode prog_5_method_3_code 44 = .ok (.iconst 1, 1) := by decide +kernel
theorem d_Schema_append_45 : decode prog_5_method_3_code 45 = .ok (.isub, 1) := by decide +kernel
theorem d_Schema_append_46 : decode prog_5_method_3_code 46 = .ok (.ireturn, 1) := by decide +kernel
abbrev M_Schema_isUsable : MethodName × ByteArray × Nat × Option FieldType := (⟨"KeyCodec$Schema", "isUsable", "(I)Z"⟩, prog_5_method_4_code, 2, some .boolean)
theorem d_Schema_isUsable_0 : decode prog_5_method_4_code 0 = .ok (.aload_n 0, 1) := by decide +kernel
theorem d_Schema_isUsable_1 : decode prog_5_method_4_code 1 = .ok (.getfield 22, 3) := by decide +kernel
theorem d_Schema_isUsable_4 : decode prog_5_method_4_code 4 = .ok (.ifCond .eq 19, 3) := by decide +kernel
theorem d_Schema_isUsable_7 : decode prog_5_method_4_code 7 = .ok (.iload_n 1, 1) := by decide +kernel
theorem d_Schema_isUsable_8 : decode prog_5_method_4_code 8 = .ok (.ifCond .lt 15, 3) := by decide +kernel
theorem d_Schema_isUsable_11 : decode prog_5_method_4_code 11 = .ok (.iload_n 1, 1) := by decide +kernel
theorem d_Schema_isUsable_12 : decode prog_5_method_4_code 12 = .ok (.aload_n 0, 1) := by decide +kernel
theorem d_Schema_isUsable_13 : decode prog_5_method_4_code 13 = .ok (.getfield 18, 3) := by decide +kernel
theorem d_Schema_isUsable_16 : decode prog_5_method_4_code 16 = .ok (.if_icmp .ge 7, 3) := by decide +kernel
theorem d_Schema_isUsable_19 : decode prog_5_method_4_code 19 = .ok (.iconst 1, 1) := by decide +kernel
theorem d_Schema_isUsable_20 : decode prog_5_method_4_code 20 = .ok (.goto 4, 3) := by decide +kernel
theorem d_Schema_isUsable_23 : decode prog_5_method_4_code 23 = .ok (.iconst 0, 1) := by decide +kernel
theorem d_Schema_isUsable_24 : decode prog_5_method_4_code 24 = .ok (.ireturn, 1) := by decide +kernel
abbrev M_Schema_has : MethodName × ByteArray × Nat × Option FieldType := (⟨"KeyCodec$Schema", "has", "(II)Z"⟩, prog_5_method_5_code, 3, some .boolean)
theorem d_Schema_has_0 : decode prog_5_method_5_code 0 = .ok (.aload_n 0, 1) := by decide +kernel
theorem d_Schema_has_1 : decode prog_5_method_5_code 1 = .ok (.getfield 15, 3) := by decide +kernel
theorem d_Schema_has_4 : decode prog_5_method_5_code 4 = .ok (.iload_n 1, 1) := by decide +kernel
theorem d_Schema_has_5 : decode prog_5_method_5_code 5 = .ok (.iaload, 1) := by decide +kernel
theorem d_Schema_has_6 : decode prog_5_method_5_code 6 = .ok (.iload_n 2, 1) := by decide +kernel
theorem d_Schema_has_7 : decode prog_5_method_5_code 7 = .ok (.iand, 1) := by decide +kernel
theorem d_Schema_has_8 : decode prog_5_method_5_code 8 = .ok (.ifCond .eq 7, 3) := by decide +kernel
theorem d_Schema_has_11 : decode prog_5_method_5_code 11 = .ok (.iconst 1, 1) := by decide +kernel
theorem d_Schema_has_12 : decode prog_5_method_5_code 12 = .ok (.goto 4, 3) := by decide +kernel
theorem d_Schema_has_15 : decode prog_5_method_5_code 15 = .ok (.iconst 0, 1) := by decide +kernel
theorem d_Schema_has_16 : decode prog_5_method_5_code 16 = .ok (.ireturn, 1) := by decide +kernel
abbrev M_Schema_turnOf : MethodName × ByteArray × Nat × Option FieldType := (⟨"KeyCodec$Schema", "turnOf", "(I)I"⟩, prog_5_method_6_code, 2, some .int)
theorem d_Schema_turnOf_0 : decode prog_5_method_6_code 0 = .ok (.aload_n 0, 1) := by decide +kernel
theorem d_Schema_turnOf_1 : decode prog_5_method_6_code 1 = .ok (.iload_n 1, 1) := by decide +kernel
theorem d_Schema_turnOf_2 : decode prog_5_method_6_code 2 = .ok (.iconst 1, 1) := by decide +kernel
theorem d_Schema_turnOf_3 : decode prog_5_method_6_code 3 = .ok (.invokevirtual 26, 3) := by decide +kernel
theorem d_Schema_turnOf_6 : decode prog_5_method_6_code 6 = .ok (.ifCond .eq 9, 3) := by decide +kernel
theorem d_Schema_turnOf_9 : decode prog_5_method_6_code 9 = .ok (.sipush 255, 3) := by decide +kernel
theorem d_Schema_turnOf_12 : decode prog_5_method_6_code 12 = .ok (.goto 4, 3) := by decide +kernel
theorem d_Schema_turnOf_15 : decode prog_5_method_6_code 15 = .ok (.iconst 0, 1) := by decide +kernel
theorem d_Schema_turnOf_16 : decode prog_5_method_6_code 16 = .ok (.ireturn, 1) := by decide +kernel
abbrev M_Schema_absentMark : MethodName × ByteArray × Nat × Option FieldType := (⟨"KeyCodec$Schema", "absentMark", "(I)I"⟩, prog_5_method_7_code, 2, some .int)
theorem d_Schema_absentMark_0 : decode prog_5_method_7_code 0 = .ok (.aload_n 0, 1) := by decide +kernel
theorem d_Schema_absentMark_1 : decode prog_5_method_7_code 1 = .ok (.iload_n 1, 1) := by decide +kernel
theorem d_Schema_absentMark_2 : decode prog_5_method_7_code 2 = .ok (.iconst 4, 1) := by decide +kernel
theorem d_Schema_absentMark_3 : decode prog_5_method_7_code 3 = .ok (.invokevirtual 26, 3) := by decide +kernel
theorem d_Schema_absentMark_6 : decode prog_5_method_7_code 6 = .ok (.ifCond .eq 7, 3) := by decide +kernel
theorem d_Schema_absentMark_9 : decode prog_5_method_7_code 9 = .ok (.iconst 2, 1) := by decide +kernel
theorem d_Schema_absentMark_10 : decode prog_5_method_7_code 10 = .ok (.goto 4, 3) := by decide +kernel
theorem d_Schema_absentMark_13 : decode prog_5_method_7_code 13 = .ok (.iconst 0, 1) := by decide +kernel
theorem d_Schema_absentMark_14 : decode prog_5_method_7_code 14 = .ok (.ireturn, 1) := by decide +kernel
abbrev M_Schema_allows : MethodName × ByteArray × Nat × Option FieldType := (⟨"KeyCodec$Schema", "allows", "(IJI)Z"⟩, prog_5_method_8_code, 5, some .boolean)
theorem d_Schema_allows_0 : decode prog_5_method_8_code 0 = .ok (.aload_n 0, 1) := by decide +kernel
theorem d_Schema_allows_1 : decode prog_5_method_8_code 1 = .ok (.getfield 9, 3) := by decide +kernel
theorem d_Schema_allows_4 : decode prog_5_method_8_code 4 = .ok (.iload_n 1, 1) := by decide +kernel
theorem d_Schema_allows_5 : decode prog_5_method_8_code 5 = .ok (.iaload, 1) := by decide +kernel
theorem d_Schema_allows_6 : decode prog_5_method_8_code 6 = .ok (.tableswitch 88 0 2 #[26, 37, 71], 26) := by decide +kernel
theorem d_Schema_allows_32 : decode prog_5_method_8_code 32 = .ok (.iload 4, 2) := by decide +kernel
theorem d_Schema_allows_34 : decode prog_5_method_8_code 34 = .ok (.ifCond .ne 7, 3) := by decide +kernel
theorem d_Schema_allows_37 : decode prog_5_method_8_code 37 = .ok (.iconst 1, 1) := by decide +kernel
theorem d_Schema_allows_38 : decode prog_5_method_8_code 38 = .ok (.goto 4, 3) := by decide +kernel
theorem d_Schema_allows_41 : decode prog_5_method_8_code 41 = .ok (.iconst 0, 1) := by decide +kernel
theorem d_Schema_allows_42 : decode prog_5_method_8_code 42 = .ok (.ireturn, 1) := by decide +kernel
theorem d_Schema_allows_43 : decode prog_5_method_8_code 43 = .ok (.lload_n 2, 1) := by decide +kernel
theorem d_Schema_allows_44 : decode prog_5_method_8_code 44 = .ok (.ldc2_w 30, 3) := by decide +kernel
theorem d_Schema_allows_47 : decode prog_5_method_8_code 47 = .ok (.lcmp, 1) := by decide +kernel
theorem d_Schema_allows_48 : decode prog_5_method_8_code 48 = .ok (.ifCond .lt 27, 3) := by decide +kernel
theorem d_Schema_allows_51 : decode prog_5_method_8_code 51 = .ok (.lload_n 2, 1) := by decide +kernel
theorem d_Schema_allows_52 : decode prog_5_method_8_code 52 = .ok (.ldc2_w 32, 3) := by decide +kernel
theorem d_Schema_allows_55 : decode prog_5_method_8_code 55 = .ok (.lcmp, 1) := by decide +kernel
theorem d_Schema_allows_56 : decode prog_5_method_8_code 56 = .ok (.ifCond .gt 19, 3) := by decide +kernel
theorem d_Schema_allows_59 : decode prog_5_method_8_code 59 = .ok (.iload 4, 2) := by decide +kernel
theorem d_Schema_allows_61 : decode prog_5_method_8_code 61 = .ok (.ifCond .lt 14, 3) := by decide +kernel
theorem d_Schema_allows_64 : decode prog_5_method_8_code 64 = .ok (.iload 4, 2) := by decide +kernel
theorem d_Schema_allows_66 : decode prog_5_method_8_code 66 = .ok (.bipush 9, 2) := by decide +kernel
theorem d_Schema_allows_68 : decode prog_5_method_8_code 68 = .ok (.if_icmp .gt 7, 3) := by decide +kernel
theorem d_Schema_allows_71 : decode prog_5_method_8_code 71 = .ok (.iconst 1, 1) := by decide +kernel
theorem d_Schema_allows_72 : decode prog_5_method_8_code 72 = .ok (.goto 4, 3) := by decide +kernel
theorem d_Schema_allows_75 : decode prog_5_method_8_code 75 = .ok (.iconst 0, 1) := by decide +kernel
theorem d_Schema_allows_76 : decode prog_5_method_8_code 76 = .ok (.ireturn, 1) := by decide +kernel
theorem d_Schema_allows_77 : decode prog_5_method_8_code 77 = .ok (.lload_n 2, 1) := by decide +kernel
theorem d_Schema_allows_78 : decode prog_5_method_8_code 78 = .ok (.lconst 0, 1) := by decide +kernel
theorem d_Schema_allows_79 : decode prog_5_method_8_code 79 = .ok (.lcmp, 1) := by decide +kernel
theorem d_Schema_allows_80 : decode prog_5_method_8_code 80 = .ok (.ifCond .ne 12, 3) := by decide +kernel
theorem d_Schema_allows_83 : decode prog_5_method_8_code 83 = .ok (.iload 4, 2) := by decide +kernel
theorem d_Schema_allows_85 : decode prog_5_method_8_code 85 = .ok (.ifCond .ne 7, 3) := by decide +kernel
theorem d_Schema_allows_88 : decode prog_5_method_8_code 88 = .ok (.iconst 1, 1) := by decide +kernel
theorem d_Schema_allows_89 : decode prog_5_method_8_code 89 = .ok (.goto 4, 3) := by decide +kernel
theorem d_Schema_allows_92 : decode prog_5_method_8_code 92 = .ok (.iconst 0, 1) := by decide +kernel
theorem d_Schema_allows_93 : decode prog_5_method_8_code 93 = .ok (.ireturn, 1) := by decide +kernel
theorem d_Schema_allows_94 : decode prog_5_method_8_code 94 = .ok (.lload_n 2, 1) := by decide +kernel
theorem d_Schema_allows_95 : decode prog_5_method_8_code 95 = .ok (.ldc2_w 34, 3) := by decide +kernel
theorem d_Schema_allows_98 : decode prog_5_method_8_code 98 = .ok (.lcmp, 1) := by decide +kernel
theorem d_Schema_allows_99 : decode prog_5_method_8_code 99 = .ok (.ifCond .lt 31, 3) := by decide +kernel
theorem d_Schema_allows_102 : decode prog_5_method_8_code 102 = .ok (.lload_n 2, 1) := by decide +kernel
theorem d_Schema_allows_103 : decode prog_5_method_8_code 103 = .ok (.ldc2_w 36, 3) := by decide +kernel
theorem d_Schema_allows_106 : decode prog_5_method_8_code 106 = .ok (.lcmp, 1) := by decide +kernel
theorem d_Schema_allows_107 : decode prog_5_method_8_code 107 = .ok (.ifCond .gt 23, 3) := by decide +kernel
theorem d_Schema_allows_110 : decode prog_5_method_8_code 110 = .ok (.iload 4, 2) := by decide +kernel
theorem d_Schema_allows_112 : decode prog_5_method_8_code 112 = .ok (.sipush (-900), 3) := by decide +kernel
theorem d_Schema_allows_115 : decode prog_5_method_8_code 115 = .ok (.if_icmp .lt 15, 3) := by decide +kernel
theorem d_Schema_allows_118 : decode prog_5_method_8_code 118 = .ok (.iload 4, 2) := by decide +kernel
theorem d_Schema_allows_120 : decode prog_5_method_8_code 120 = .ok (.sipush 900, 3) := by decide +kernel
theorem d_Schema_allows_123 : decode prog_5_method_8_code 123 = .ok (.if_icmp .gt 7, 3) := by decide +kernel
theorem d_Schema_allows_126 : decode prog_5_method_8_code 126 = .ok (.iconst 1, 1) := by decide +kernel
theorem d_Schema_allows_127 : decode prog_5_method_8_code 127 = .ok (.goto 4, 3) := by decide +kernel
theorem d_Schema_allows_130 : decode prog_5_method_8_code 130 = .ok (.iconst 0, 1) := by decide +kernel
theorem d_Schema_allows_131 : decode prog_5_method_8_code 131 = .ok (.ireturn, 1) := by decide +kernel
theorem lo_Schema_3 : Cond.methodLink "KeyCodec$Schema" 3 Lib.objectInit ∈ kTs := km 30 (by decide +kernel) (by decide +kernel)
theorem lf_Schema_9 : Cond.fieldLink "KeyCodec$Schema" (9 : Nat) "KeyCodec$Schema" "kinds" "[I" ∈ kTs := km 31 (by decide +kernel) (by decide +kernel)
theorem lf_Schema_15 : Cond.fieldLink "KeyCodec$Schema" (15 : Nat) "KeyCodec$Schema" "flags" "[I" ∈ kTs := km 35 (by decide +kernel) (by decide +kernel)
theorem lf_Schema_18 : Cond.fieldLink "KeyCodec$Schema" (18 : Nat) "KeyCodec$Schema" "count" "I" ∈ kTs := km 36 (by decide +kernel) (by decide +kernel)
theorem lf_Schema_22 : Cond.fieldLink "KeyCodec$Schema" (22 : Nat) "KeyCodec$Schema" "closed" "Z" ∈ kTs := km 40 (by decide +kernel) (by decide +kernel)
theorem kb_Schema_has : kCB M_Schema_has 2 := ⟨km 2 (by decide +kernel) (by decide +kernel), km 209 (by decide +kernel) (by decide +kernel), by decide +kernel, by decide +kernel⟩
theorem lg_Schema_26 : kCV "KeyCodec$Schema" 26 M_Schema_has 2 4 := ⟨kb_Schema_has, km 294 (by decide +kernel) (by decide +kernel), km 207 (by decide +kernel) (by decide +kernel), km 208 (by decide +kernel) (by decide +kernel), (F_Schema, 4), rfl⟩
theorem lK_Schema_30 : Cond.constantLong "KeyCodec$Schema" (30 : Nat) (-1000000000000000 : Int64) ∈ kTs := km 189 (by decide +kernel) (by decide +kernel)
theorem lK_Schema_32 : Cond.constantLong "KeyCodec$Schema" (32 : Nat) (1000000000000000 : Int64) ∈ kTs := km 190 (by decide +kernel) (by decide +kernel)
theorem lK_Schema_34 : Cond.constantLong "KeyCodec$Schema" (34 : Nat) (-1099511627776 : Int64) ∈ kTs := km 191 (by decide +kernel) (by decide +kernel)
theorem lK_Schema_36 : Cond.constantLong "KeyCodec$Schema" (36 : Nat) (1099511627776 : Int64) ∈ kTs := km 192 (by decide +kernel) (by decide +kernel)
