theorem la_Kc_0 : Cond.laysFinal "KeyCodec" "KeyCodec" "schema" "LKeyCodec$Schema;" ∈ kTs := km 128 (by decide +kernel) (by decide +kernel)
theorem la_Kc_1 : Cond.laysFinal "KeyCodec" "KeyCodec" "loaded" "LKeyCodec$Tuple;" ∈ kTs := km 130 (by decide +kernel) (by decide +kernel)
theorem la_Kc_2 : Cond.laysFinal "KeyCodec" "KeyCodec" "scratch" "LKeyCodec$Tuple;" ∈ kTs := km 132 (by decide +kernel) (by decide +kernel)
theorem la_Kc_3 : Cond.laysFinal "KeyCodec" "KeyCodec" "keyRow" "LKeyCodec$Row;" ∈ kTs := km 134 (by decide +kernel) (by decide +kernel)
theorem la_Kc_4 : Cond.laysFinal "KeyCodec" "KeyCodec" "left" "LKeyCodec$Row;" ∈ kTs := km 136 (by decide +kernel) (by decide +kernel)
theorem la_Kc_5 : Cond.laysFinal "KeyCodec" "KeyCodec" "right" "LKeyCodec$Row;" ∈ kTs := km 138 (by decide +kernel) (by decide +kernel)
theorem la_Kc_6 : Cond.laysFinal "KeyCodec" "KeyCodec" "keptTuples" "[LKeyCodec$Tuple;" ∈ kTs := km 140 (by decide +kernel) (by decide +kernel)
theorem la_Kc_7 : Cond.laysFinal "KeyCodec" "KeyCodec" "keptKeys" "[LKeyCodec$Row;" ∈ kTs := km 142 (by decide +kernel) (by decide +kernel)
theorem la_Kc_8 : Cond.lays "KeyCodec" "KeyCodec" "keptCount" "I" ∈ kTs := km 144 (by decide +kernel) (by decide +kernel)
theorem la_Kc_9 : Cond.laysFinal "KeyCodec" "KeyCodec" "low" "LKeyCodec$Row;" ∈ kTs := km 146 (by decide +kernel) (by decide +kernel)
theorem la_Kc_10 : Cond.laysFinal "KeyCodec" "KeyCodec" "high" "LKeyCodec$Row;" ∈ kTs := km 148 (by decide +kernel) (by decide +kernel)
theorem la_Kc_11 : Cond.lays "KeyCodec" "KeyCodec" "highEnds" "Z" ∈ kTs := km 150 (by decide +kernel) (by decide +kernel)
theorem kw_Kc : ∀ z ∈ u_ws "KeyCodec" F_Kc 12, z ∈ kTs := by
  intro z hz
  obtain ⟨k, hk, rfl⟩ := List.mem_map.mp hz
  have hk := List.mem_range.mp hk
  rcases (show k = 0 ∨ k = 1 ∨ k = 2 ∨ k = 3 ∨ k = 4 ∨ k = 5 ∨ k = 6 ∨ k = 7 ∨ k = 8 ∨ k = 9 ∨ k = 10 ∨ k = 11 by omega) with rfl | rfl | rfl | rfl | rfl | rfl | rfl | rfl | rfl | rfl | rfl | rfl
  · exact la_Kc_0
  · exact la_Kc_1
  · exact la_Kc_2
  · exact la_Kc_3
  · exact la_Kc_4
  · exact la_Kc_5
  · exact la_Kc_6
  · exact la_Kc_7
  · exact la_Kc_8
  · exact la_Kc_9
  · exact la_Kc_10
  · exact la_Kc_11
theorem in_Kc : Cond.instantiable "KeyCodec" (12 : Nat) ∈ kTs := km 18 (by decide +kernel) (by decide +kernel)
theorem ii_Kc : Cond.initialized "KeyCodec" ∈ kTs := km 1 (by decide +kernel) (by decide +kernel)
theorem kt_Kc0 : (∀ k, k < 12 → parseFieldDescriptor (F_Kc k).2.2.1 = some (t_Kc k)) := by decide +kernel
theorem kt_Kc1 : ∀ a, a < 12 → ∀ b, b < 12 → a ≠ b → (F_Kc a).2.1 ≠ (F_Kc b).2.1 := by decide +kernel
theorem df_Kc : ∀ j, j < 12 → defaultValue (t_Kc j) = vp_V [.null, .null, .null, .null, .null, .null, .null, .null, .int 0, .null, .null, .int 0] j := by
  intro j hj
  rcases (show j = 0 ∨ j = 1 ∨ j = 2 ∨ j = 3 ∨ j = 4 ∨ j = 5 ∨ j = 6 ∨ j = 7 ∨ j = 8 ∨ j = 9 ∨ j = 10 ∨ j = 11 by omega) with rfl | rfl | rfl | rfl | rfl | rfl | rfl | rfl | rfl | rfl | rfl | rfl <;> rfl
theorem la_Row_0 : Cond.laysFinal "KeyCodec$Row" "KeyCodec$Row" "bytes" "[I" ∈ kTs := km 109 (by decide +kernel) (by decide +kernel)
theorem la_Row_1 : Cond.lays "KeyCodec$Row" "KeyCodec$Row" "size" "I" ∈ kTs := km 111 (by decide +kernel) (by decide +kernel)
theorem kw_Row : ∀ z ∈ u_ws "KeyCodec$Row" F_Row 2, z ∈ kTs := by
  intro z hz
  obtain ⟨k, hk, rfl⟩ := List.mem_map.mp hz
  have hk := List.mem_range.mp hk
  rcases (show k = 0 ∨ k = 1 by omega) with rfl | rfl
  · exact la_Row_0
  · exact la_Row_1
theorem in_Row : Cond.instantiable "KeyCodec$Row" (2 : Nat) ∈ kTs := km 101 (by decide +kernel) (by decide +kernel)
theorem ii_Row : Cond.initialized "KeyCodec$Row" ∈ kTs := km 5 (by decide +kernel) (by decide +kernel)
theorem kt_Row0 : (∀ k, k < 2 → parseFieldDescriptor (F_Row k).2.2.1 = some (t_Row k)) := by decide +kernel
theorem kt_Row1 : ∀ a, a < 2 → ∀ b, b < 2 → a ≠ b → (F_Row a).2.1 ≠ (F_Row b).2.1 := by decide +kernel
theorem df_Row : ∀ j, j < 2 → defaultValue (t_Row j) = vp_V [.null, .int 0] j := by
  intro j hj
  rcases (show j = 0 ∨ j = 1 by omega) with rfl | rfl <;> rfl
theorem la_Value_0 : Cond.lays "KeyCodec$Value" "KeyCodec$Value" "missing" "Z" ∈ kTs := km 82 (by decide +kernel) (by decide +kernel)
theorem la_Value_1 : Cond.lays "KeyCodec$Value" "KeyCodec$Value" "number" "J" ∈ kTs := km 84 (by decide +kernel) (by decide +kernel)
theorem la_Value_2 : Cond.lays "KeyCodec$Value" "KeyCodec$Value" "form" "I" ∈ kTs := km 86 (by decide +kernel) (by decide +kernel)
theorem la_Value_3 : Cond.laysFinal "KeyCodec$Value" "KeyCodec$Value" "bytes" "[I" ∈ kTs := km 88 (by decide +kernel) (by decide +kernel)
theorem la_Value_4 : Cond.lays "KeyCodec$Value" "KeyCodec$Value" "size" "I" ∈ kTs := km 90 (by decide +kernel) (by decide +kernel)
theorem kw_Value : ∀ z ∈ u_ws "KeyCodec$Value" F_Value 5, z ∈ kTs := by
  intro z hz
  obtain ⟨k, hk, rfl⟩ := List.mem_map.mp hz
  have hk := List.mem_range.mp hk
  rcases (show k = 0 ∨ k = 1 ∨ k = 2 ∨ k = 3 ∨ k = 4 by omega) with rfl | rfl | rfl | rfl | rfl
  · exact la_Value_0
  · exact la_Value_1
  · exact la_Value_2
  · exact la_Value_3
  · exact la_Value_4
theorem in_Value : Cond.instantiable "KeyCodec$Value" (5 : Nat) ∈ kTs := km 60 (by decide +kernel) (by decide +kernel)
theorem ii_Value : Cond.initialized "KeyCodec$Value" ∈ kTs := km 4 (by decide +kernel) (by decide +kernel)
theorem kt_Value0 : (∀ k, k < 5 → parseFieldDescriptor (F_Value k).2.2.1 = some (t_Value k)) := by decide +kernel
theorem kt_Value1 : ∀ a, a < 5 → ∀ b, b < 5 → a ≠ b → (F_Value a).2.1 ≠ (F_Value b).2.1 := by decide +kernel
theorem df_Value : ∀ j, j < 5 → defaultValue (t_Value j) = vp_V [.int 0, .long 0, .int 0, .null, .int 0] j := by
  intro j hj
  rcases (show j = 0 ∨ j = 1 ∨ j = 2 ∨ j = 3 ∨ j = 4 by omega) with rfl | rfl | rfl | rfl | rfl <;> rfl
theorem la_Tuple_0 : Cond.laysFinal "KeyCodec$Tuple" "KeyCodec$Tuple" "values" "[LKeyCodec$Value;" ∈ kTs := km 97 (by decide +kernel) (by decide +kernel)
theorem kw_Tuple : ∀ z ∈ u_ws "KeyCodec$Tuple" F_Tuple 1, z ∈ kTs := by
  intro z hz
  obtain ⟨k, hk, rfl⟩ := List.mem_map.mp hz
  have hk := List.mem_range.mp hk
  rcases (show k = 0 by omega) with rfl
  · exact la_Tuple_0
theorem in_Tuple : Cond.instantiable "KeyCodec$Tuple" (1 : Nat) ∈ kTs := km 53 (by decide +kernel) (by decide +kernel)
theorem ii_Tuple : Cond.initialized "KeyCodec$Tuple" ∈ kTs := km 3 (by decide +kernel) (by decide +kernel)
theorem kt_Tuple0 : (∀ k, k < 1 → parseFieldDescriptor (F_Tuple k).2.2.1 = some (t_Tuple k)) := by decide +kernel
theorem kt_Tuple1 : ∀ a, a < 1 → ∀ b, b < 1 → a ≠ b → (F_Tuple a).2.1 ≠ (F_Tuple b).2.1 := by decide +kernel
theorem df_Tuple : ∀ j, j < 1 → defaultValue (t_Tuple j) = vp_V [.null] j := by
  intro j hj
  rcases (show j = 0 by omega) with rfl <;> rfl
theorem la_Schema_0 : Cond.laysFinal "KeyCodec$Schema" "KeyCodec$Schema" "kinds" "[I" ∈ kTs := km 42 (by decide +kernel) (by decide +kernel)
theorem la_Schema_1 : Cond.laysFinal "KeyCodec$Schema" "KeyCodec$Schema" "flags" "[I" ∈ kTs := km 44 (by decide +kernel) (by decide +kernel)
theorem la_Schema_2 : Cond.lays "KeyCodec$Schema" "KeyCodec$Schema" "count" "I" ∈ kTs := km 46 (by decide +kernel) (by decide +kernel)
theorem la_Schema_3 : Cond.lays "KeyCodec$Schema" "KeyCodec$Schema" "closed" "Z" ∈ kTs := km 48 (by decide +kernel) (by decide +kernel)
theorem kw_Schema : ∀ z ∈ u_ws "KeyCodec$Schema" F_Schema 4, z ∈ kTs := by
  intro z hz
  obtain ⟨k, hk, rfl⟩ := List.mem_map.mp hz
  have hk := List.mem_range.mp hk
  rcases (show k = 0 ∨ k = 1 ∨ k = 2 ∨ k = 3 by omega) with rfl | rfl | rfl | rfl
  · exact la_Schema_0
  · exact la_Schema_1
  · exact la_Schema_2
  · exact la_Schema_3
theorem in_Schema : Cond.instantiable "KeyCodec$Schema" (4 : Nat) ∈ kTs := km 26 (by decide +kernel) (by decide +kernel)
theorem ii_Schema : Cond.initialized "KeyCodec$Schema" ∈ kTs := km 2 (by decide +kernel) (by decide +kernel)
theorem kt_Schema0 : (∀ k, k < 4 → parseFieldDescriptor (F_Schema k).2.2.1 = some (t_Schema k)) := by decide +kernel
theorem kt_Schema1 : ∀ a, a < 4 → ∀ b, b < 4 → a ≠ b → (F_Schema a).2.1 ≠ (F_Schema b).2.1 := by decide +kernel
theorem df_Schema : ∀ j, j < 4 → defaultValue (t_Schema j) = vp_V [.null, .null, .int 0, .int 0] j := by
  intro j hj
  rcases (show j = 0 ∨ j = 1 ∨ j = 2 ∨ j = 3 by omega) with rfl | rfl | rfl | rfl <;> rfl
theorem la_Reader_0 : Cond.laysFinal "KeyCodec$KeyReader" "KeyCodec$KeyReader" "schema" "LKeyCodec$Schema;" ∈ kTs := km 509 (by decide +kernel) (by decide +kernel)
theorem la_Reader_1 : Cond.laysFinal "KeyCodec$KeyReader" "KeyCodec$KeyReader" "row" "LKeyCodec$Row;" ∈ kTs := km 511 (by decide +kernel) (by decide +kernel)
theorem la_Reader_2 : Cond.lays "KeyCodec$KeyReader" "KeyCodec$KeyReader" "position" "I" ∈ kTs := km 513 (by decide +kernel) (by decide +kernel)
theorem la_Reader_3 : Cond.lays "KeyCodec$KeyReader" "KeyCodec$KeyReader" "turn" "I" ∈ kTs := km 515 (by decide +kernel) (by decide +kernel)
theorem la_Reader_4 : Cond.laysFinal "KeyCodec$KeyReader" "KeyCodec$KeyReader" "powers" "[I" ∈ kTs := km 517 (by decide +kernel) (by decide +kernel)
theorem kw_Reader : ∀ z ∈ u_ws "KeyCodec$KeyReader" F_Reader 5, z ∈ kTs := by
  intro z hz
  obtain ⟨k, hk, rfl⟩ := List.mem_map.mp hz
  have hk := List.mem_range.mp hk
  rcases (show k = 0 ∨ k = 1 ∨ k = 2 ∨ k = 3 ∨ k = 4 by omega) with rfl | rfl | rfl | rfl | rfl
  · exact la_Reader_0
  · exact la_Reader_1
  · exact la_Reader_2
  · exact la_Reader_3
  · exact la_Reader_4
theorem in_Reader : Cond.instantiable "KeyCodec$KeyReader" (5 : Nat) ∈ kTs := km 499 (by decide +kernel) (by decide +kernel)
theorem ii_Reader : Cond.initialized "KeyCodec$KeyReader" ∈ kTs := km 14 (by decide +kernel) (by decide +kernel)
theorem kt_Reader0 : (∀ k, k < 5 → parseFieldDescriptor (F_Reader k).2.2.1 = some (t_Reader k)) := by decide +kernel
theorem kt_Reader1 : ∀ a, a < 5 → ∀ b, b < 5 → a ≠ b → (F_Reader a).2.1 ≠ (F_Reader b).2.1 := by decide +kernel
theorem df_Reader : ∀ j, j < 5 → defaultValue (t_Reader j) = vp_V [.null, .null, .int 0, .int 0, .null] j := by
  intro j hj
  rcases (show j = 0 ∨ j = 1 ∨ j = 2 ∨ j = 3 ∨ j = 4 by omega) with rfl | rfl | rfl | rfl | rfl <;> rfl
theorem la_Mod_0 : Cond.lays "KeyCodecModel" "KeyCodecModel" "thrown" "I" ∈ kTs := km 611 (by decide +kernel) (by decide +kernel)
theorem la_Mod_1 : Cond.lays "KeyCodecModel" "KeyCodecModel" "fields" "I" ∈ kTs := km 613 (by decide +kernel) (by decide +kernel)
theorem la_Mod_2 : Cond.lays "KeyCodecModel" "KeyCodecModel" "sealed" "Z" ∈ kTs := km 615 (by decide +kernel) (by decide +kernel)
theorem la_Mod_3 : Cond.laysFinal "KeyCodecModel" "KeyCodecModel" "kinds" "[I" ∈ kTs := km 617 (by decide +kernel) (by decide +kernel)
theorem la_Mod_4 : Cond.laysFinal "KeyCodecModel" "KeyCodecModel" "flags" "[I" ∈ kTs := km 619 (by decide +kernel) (by decide +kernel)
theorem la_Mod_5 : Cond.laysFinal "KeyCodecModel" "KeyCodecModel" "values" "[J" ∈ kTs := km 621 (by decide +kernel) (by decide +kernel)
theorem la_Mod_6 : Cond.laysFinal "KeyCodecModel" "KeyCodecModel" "forms" "[I" ∈ kTs := km 623 (by decide +kernel) (by decide +kernel)
theorem la_Mod_7 : Cond.laysFinal "KeyCodecModel" "KeyCodecModel" "gone" "[Z" ∈ kTs := km 625 (by decide +kernel) (by decide +kernel)
theorem la_Mod_8 : Cond.laysFinal "KeyCodecModel" "KeyCodecModel" "sizes" "[I" ∈ kTs := km 627 (by decide +kernel) (by decide +kernel)
theorem la_Mod_9 : Cond.laysFinal "KeyCodecModel" "KeyCodecModel" "texts" "[I" ∈ kTs := km 629 (by decide +kernel) (by decide +kernel)
theorem la_Mod_10 : Cond.lays "KeyCodecModel" "KeyCodecModel" "kept" "I" ∈ kTs := km 631 (by decide +kernel) (by decide +kernel)
theorem la_Mod_11 : Cond.laysFinal "KeyCodecModel" "KeyCodecModel" "row" "[I" ∈ kTs := km 633 (by decide +kernel) (by decide +kernel)
theorem la_Mod_12 : Cond.lays "KeyCodecModel" "KeyCodecModel" "rowSize" "I" ∈ kTs := km 635 (by decide +kernel) (by decide +kernel)
theorem la_Mod_13 : Cond.laysFinal "KeyCodecModel" "KeyCodecModel" "made" "[I" ∈ kTs := km 637 (by decide +kernel) (by decide +kernel)
theorem la_Mod_14 : Cond.lays "KeyCodecModel" "KeyCodecModel" "size" "I" ∈ kTs := km 639 (by decide +kernel) (by decide +kernel)
theorem la_Mod_15 : Cond.laysFinal "KeyCodecModel" "KeyCodecModel" "ends" "[I" ∈ kTs := km 641 (by decide +kernel) (by decide +kernel)
theorem la_Mod_16 : Cond.laysFinal "KeyCodecModel" "KeyCodecModel" "madeSize" "[I" ∈ kTs := km 643 (by decide +kernel) (by decide +kernel)
theorem la_Mod_17 : Cond.laysFinal "KeyCodecModel" "KeyCodecModel" "low" "[I" ∈ kTs := km 645 (by decide +kernel) (by decide +kernel)
theorem la_Mod_18 : Cond.laysFinal "KeyCodecModel" "KeyCodecModel" "high" "[I" ∈ kTs := km 647 (by decide +kernel) (by decide +kernel)
theorem la_Mod_19 : Cond.lays "KeyCodecModel" "KeyCodecModel" "lowSize" "I" ∈ kTs := km 649 (by decide +kernel) (by decide +kernel)
theorem la_Mod_20 : Cond.lays "KeyCodecModel" "KeyCodecModel" "highSize" "I" ∈ kTs := km 651 (by decide +kernel) (by decide +kernel)
theorem la_Mod_21 : Cond.lays "KeyCodecModel" "KeyCodecModel" "at" "I" ∈ kTs := km 653 (by decide +kernel) (by decide +kernel)
theorem la_Mod_22 : Cond.lays "KeyCodecModel" "KeyCodecModel" "bad" "Z" ∈ kTs := km 655 (by decide +kernel) (by decide +kernel)
theorem kw_Mod : ∀ z ∈ u_ws "KeyCodecModel" F_Mod 23, z ∈ kTs := by
  intro z hz
  obtain ⟨k, hk, rfl⟩ := List.mem_map.mp hz
  have hk := List.mem_range.mp hk
  rcases (show k = 0 ∨ k = 1 ∨ k = 2 ∨ k = 3 ∨ k = 4 ∨ k = 5 ∨ k = 6 ∨ k = 7 ∨ k = 8 ∨ k = 9 ∨ k = 10 ∨ k = 11 ∨ k = 12 ∨ k = 13 ∨ k = 14 ∨ k = 15 ∨ k = 16 ∨ k = 17 ∨ k = 18 ∨ k = 19 ∨ k = 20 ∨ k = 21 ∨ k = 22 by omega) with rfl | rfl | rfl | rfl | rfl | rfl | rfl | rfl | rfl | rfl | rfl | rfl | rfl | rfl | rfl | rfl | rfl | rfl | rfl | rfl | rfl | rfl | rfl
  · exact la_Mod_0
  · exact la_Mod_1
  · exact la_Mod_2
  · exact la_Mod_3
  · exact la_Mod_4
  · exact la_Mod_5
  · exact la_Mod_6
  · exact la_Mod_7
  · exact la_Mod_8
  · exact la_Mod_9
  · exact la_Mod_10
  · exact la_Mod_11
  · exact la_Mod_12
  · exact la_Mod_13
  · exact la_Mod_14
  · exact la_Mod_15
  · exact la_Mod_16
  · exact la_Mod_17
  · exact la_Mod_18
  · exact la_Mod_19
  · exact la_Mod_20
  · exact la_Mod_21
  · exact la_Mod_22
theorem in_Mod : Cond.instantiable "KeyCodecModel" (23 : Nat) ∈ kTs := km 583 (by decide +kernel) (by decide +kernel)
theorem ii_Mod : Cond.initialized "KeyCodecModel" ∈ kTs := km 6 (by decide +kernel) (by decide +kernel)
theorem kt_Mod0 : (∀ k, k < 23 → parseFieldDescriptor (F_Mod k).2.2.1 = some (t_Mod k)) := by decide +kernel
theorem kt_Mod1 : ∀ a, a < 23 → ∀ b, b < 23 → a ≠ b → (F_Mod a).2.1 ≠ (F_Mod b).2.1 := by decide +kernel
theorem df_Mod : ∀ j, j < 23 → defaultValue (t_Mod j) = vp_V [.int 0, .int 0, .int 0, .null, .null, .null, .null, .null, .null, .null, .int 0, .null, .int 0, .null, .int 0, .null, .null, .null, .null, .int 0, .int 0, .int 0, .int 0] j := by
  intro j hj
  rcases (show j = 0 ∨ j = 1 ∨ j = 2 ∨ j = 3 ∨ j = 4 ∨ j = 5 ∨ j = 6 ∨ j = 7 ∨ j = 8 ∨ j = 9 ∨ j = 10 ∨ j = 11 ∨ j = 12 ∨ j = 13 ∨ j = 14 ∨ j = 15 ∨ j = 16 ∨ j = 17 ∨ j = 18 ∨ j = 19 ∨ j = 20 ∨ j = 21 ∨ j = 22 by omega) with rfl | rfl | rfl | rfl | rfl | rfl | rfl | rfl | rfl | rfl | rfl | rfl | rfl | rfl | rfl | rfl | rfl | rfl | rfl | rfl | rfl | rfl | rfl <;> rfl
theorem ar_int : Cond.arrayClass FieldType.int ∈ kTs := km 51 (by decide +kernel) (by decide +kernel)
theorem ar_long : Cond.arrayClass FieldType.long ∈ kTs := km 658 (by decide +kernel) (by decide +kernel)
theorem ar_boolean : Cond.arrayClass FieldType.boolean ∈ kTs := km 659 (by decide +kernel) (by decide +kernel)
theorem ts_oi1 : Cond.instanceMethod ({ cls := "java/lang/Object", name := "<init>", desc := "()V" } : MethodName) ∈ kTs := km 23 (by decide +kernel) (by decide +kernel)
theorem ts_oi2 : Cond.code Lib.objectInit ⟨#[0xb1]⟩ 1 none ∈ kTs := km 24 (by decide +kernel) (by decide +kernel)
