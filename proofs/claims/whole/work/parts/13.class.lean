theorem kc_Kc : kC 0 "KeyCodec" F_Kc 12 := ⟨rfl, kw_Kc⟩
theorem kt_Kc : kT F_Kc 12 t_Kc := ⟨kt_Kc0, kt_Kc1⟩
theorem kc_Row : kC 1 "KeyCodec$Row" F_Row 2 := ⟨rfl, kw_Row⟩
theorem kt_Row : kT F_Row 2 t_Row := ⟨kt_Row0, kt_Row1⟩
theorem kc_Value : kC 2 "KeyCodec$Value" F_Value 5 := ⟨rfl, kw_Value⟩
theorem kt_Value : kT F_Value 5 t_Value := ⟨kt_Value0, kt_Value1⟩
theorem kc_Tuple : kC 3 "KeyCodec$Tuple" F_Tuple 1 := ⟨rfl, kw_Tuple⟩
theorem kt_Tuple : kT F_Tuple 1 t_Tuple := ⟨kt_Tuple0, kt_Tuple1⟩
theorem kc_Schema : kC 4 "KeyCodec$Schema" F_Schema 4 := ⟨rfl, kw_Schema⟩
theorem kt_Schema : kT F_Schema 4 t_Schema := ⟨kt_Schema0, kt_Schema1⟩
theorem kc_Reader : kC 5 "KeyCodec$KeyReader" F_Reader 5 := ⟨rfl, kw_Reader⟩
theorem kt_Reader : kT F_Reader 5 t_Reader := ⟨kt_Reader0, kt_Reader1⟩
theorem kc_Mod : kC 6 "KeyCodecModel" F_Mod 23 := ⟨rfl, kw_Mod⟩
theorem kt_Mod : kT F_Mod 23 t_Mod := ⟨kt_Mod0, kt_Mod1⟩
theorem ov_Value : ∀ U : State, kN U → va_AO "KeyCodec$Value" U := fun _ h => h.2.1
theorem ov_Tuple : ∀ U : State, kN U → va_AO "KeyCodec$Tuple" U := fun _ h => h.2.2.1
theorem ov_Row : ∀ U : State, kN U → va_AO "KeyCodec$Row" U := fun _ h => h.2.2.2
