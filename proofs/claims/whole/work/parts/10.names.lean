-- ===== PART A: goes FIRST, ahead of the names: the tables' words, and 'selects' of the private methods out of them =====
/-- a private method of a class that the tables say can be made, by its rows of tables_1 -/
def lw_okq (q : MethodName × Nat) : Prop := (q.1.cls ≠ "java/lang/invoke/MethodHandle" ∧ q.1.cls ≠ "java/lang/invoke/VarHandle") ∧ Cond.instantiable q.1.cls q.2 ∈ tables_1 ∧ Cond.privateMethod q.1 ∈ tables_1 ∧ Cond.instanceMethod q.1 ∈ tables_1
theorem lw_p0 : lw_okq (⟨"KeyCodec", "isKept", "(I)Z"⟩, 12) := ⟨⟨by decide +kernel, by decide +kernel⟩, List.mem_of_getElem? (i := 18) (by decide +kernel), List.mem_of_getElem? (i := 257) (by decide +kernel), List.mem_of_getElem? (i := 258) (by decide +kernel)⟩
theorem lw_p1 : lw_okq (⟨"KeyCodec", "writeStart", "(IILKeyCodec$Row;)V"⟩, 12) := ⟨⟨by decide +kernel, by decide +kernel⟩, List.mem_of_getElem? (i := 18) (by decide +kernel), List.mem_of_getElem? (i := 280) (by decide +kernel), List.mem_of_getElem? (i := 281) (by decide +kernel)⟩
theorem lw_p2 : lw_okq (⟨"KeyCodec", "countBefore", "(I)I"⟩, 12) := ⟨⟨by decide +kernel, by decide +kernel⟩, List.mem_of_getElem? (i := 18) (by decide +kernel), List.mem_of_getElem? (i := 345) (by decide +kernel), List.mem_of_getElem? (i := 346) (by decide +kernel)⟩
theorem lw_p3 : lw_okq (⟨"KeyCodec", "withRank", "(I)I"⟩, 12) := ⟨⟨by decide +kernel, by decide +kernel⟩, List.mem_of_getElem? (i := 18) (by decide +kernel), List.mem_of_getElem? (i := 353) (by decide +kernel), List.mem_of_getElem? (i := 354) (by decide +kernel)⟩
theorem lw_p4 : lw_okq (⟨"java/lang/Throwable", "fillInStackTrace", "(I)Ljava/lang/Throwable;"⟩, 6) := ⟨⟨by decide +kernel, by decide +kernel⟩, List.mem_of_getElem? (i := 426) (by decide +kernel), List.mem_of_getElem? (i := 424) (by decide +kernel), List.mem_of_getElem? (i := 425) (by decide +kernel)⟩
theorem lw_p5 : lw_okq (⟨"KeyCodec$KeyReader", "readField", "(ILKeyCodec$Value;)Z"⟩, 5) := ⟨⟨by decide +kernel, by decide +kernel⟩, List.mem_of_getElem? (i := 499) (by decide +kernel), List.mem_of_getElem? (i := 526) (by decide +kernel), List.mem_of_getElem? (i := 527) (by decide +kernel)⟩
theorem lw_p6 : lw_okq (⟨"KeyCodec$KeyReader", "next", "()I"⟩, 5) := ⟨⟨by decide +kernel, by decide +kernel⟩, List.mem_of_getElem? (i := 499) (by decide +kernel), List.mem_of_getElem? (i := 531) (by decide +kernel), List.mem_of_getElem? (i := 532) (by decide +kernel)⟩
theorem lw_p7 : lw_okq (⟨"KeyCodec$KeyReader", "readDecimal", "(ILKeyCodec$Value;)Z"⟩, 5) := ⟨⟨by decide +kernel, by decide +kernel⟩, List.mem_of_getElem? (i := 499) (by decide +kernel), List.mem_of_getElem? (i := 539) (by decide +kernel), List.mem_of_getElem? (i := 540) (by decide +kernel)⟩
theorem lw_p8 : lw_okq (⟨"KeyCodec$KeyReader", "readFraction", "(IILKeyCodec$Value;)Z"⟩, 5) := ⟨⟨by decide +kernel, by decide +kernel⟩, List.mem_of_getElem? (i := 499) (by decide +kernel), List.mem_of_getElem? (i := 544) (by decide +kernel), List.mem_of_getElem? (i := 545) (by decide +kernel)⟩
theorem lw_p9 : lw_okq (⟨"KeyCodec$KeyReader", "readText", "(LKeyCodec$Value;)Z"⟩, 5) := ⟨⟨by decide +kernel, by decide +kernel⟩, List.mem_of_getElem? (i := 499) (by decide +kernel), List.mem_of_getElem? (i := 549) (by decide +kernel), List.mem_of_getElem? (i := 550) (by decide +kernel)⟩
theorem lw_p10 : lw_okq (⟨"KeyCodec$KeyReader", "readInt", "(LKeyCodec$Value;)Z"⟩, 5) := ⟨⟨by decide +kernel, by decide +kernel⟩, List.mem_of_getElem? (i := 499) (by decide +kernel), List.mem_of_getElem? (i := 554) (by decide +kernel), List.mem_of_getElem? (i := 555) (by decide +kernel)⟩
theorem lw_p11 : lw_okq (⟨"KeyCodec$KeyReader", "readForm", "(ILKeyCodec$Value;)Z"⟩, 5) := ⟨⟨by decide +kernel, by decide +kernel⟩, List.mem_of_getElem? (i := 499) (by decide +kernel), List.mem_of_getElem? (i := 559) (by decide +kernel), List.mem_of_getElem? (i := 560) (by decide +kernel)⟩
theorem lw_p12 : lw_okq (⟨"KeyCodec$KeyReader", "readScale", "(ILKeyCodec$Value;)Z"⟩, 5) := ⟨⟨by decide +kernel, by decide +kernel⟩, List.mem_of_getElem? (i := 499) (by decide +kernel), List.mem_of_getElem? (i := 563) (by decide +kernel), List.mem_of_getElem? (i := 564) (by decide +kernel)⟩
theorem lw_p13 : lw_okq (⟨"KeyCodec$KeyReader", "readOffset", "(ILKeyCodec$Value;)Z"⟩, 5) := ⟨⟨by decide +kernel, by decide +kernel⟩, List.mem_of_getElem? (i := 499) (by decide +kernel), List.mem_of_getElem? (i := 570) (by decide +kernel), List.mem_of_getElem? (i := 571) (by decide +kernel)⟩
theorem lw_p14 : lw_okq (⟨"KeyCodecModel", "empty", "(I)V"⟩, 23) := ⟨⟨by decide +kernel, by decide +kernel⟩, List.mem_of_getElem? (i := 583) (by decide +kernel), List.mem_of_getElem? (i := 673) (by decide +kernel), List.mem_of_getElem? (i := 674) (by decide +kernel)⟩
theorem lw_p15 : lw_okq (⟨"KeyCodecModel", "isField", "(I)Z"⟩, 23) := ⟨⟨by decide +kernel, by decide +kernel⟩, List.mem_of_getElem? (i := 583) (by decide +kernel), List.mem_of_getElem? (i := 685) (by decide +kernel), List.mem_of_getElem? (i := 686) (by decide +kernel)⟩
def lw_privs_1 : List (MethodName × Nat) := [(⟨"KeyCodec", "isKept", "(I)Z"⟩, 12), (⟨"KeyCodec", "writeStart", "(IILKeyCodec$Row;)V"⟩, 12), (⟨"KeyCodec", "countBefore", "(I)I"⟩, 12), (⟨"KeyCodec", "withRank", "(I)I"⟩, 12), (⟨"java/lang/Throwable", "fillInStackTrace", "(I)Ljava/lang/Throwable;"⟩, 6), (⟨"KeyCodec$KeyReader", "readField", "(ILKeyCodec$Value;)Z"⟩, 5), (⟨"KeyCodec$KeyReader", "next", "()I"⟩, 5), (⟨"KeyCodec$KeyReader", "readDecimal", "(ILKeyCodec$Value;)Z"⟩, 5), (⟨"KeyCodec$KeyReader", "readFraction", "(IILKeyCodec$Value;)Z"⟩, 5), (⟨"KeyCodec$KeyReader", "readText", "(LKeyCodec$Value;)Z"⟩, 5), (⟨"KeyCodec$KeyReader", "readInt", "(LKeyCodec$Value;)Z"⟩, 5), (⟨"KeyCodec$KeyReader", "readForm", "(ILKeyCodec$Value;)Z"⟩, 5), (⟨"KeyCodec$KeyReader", "readScale", "(ILKeyCodec$Value;)Z"⟩, 5), (⟨"KeyCodec$KeyReader", "readOffset", "(ILKeyCodec$Value;)Z"⟩, 5), (⟨"KeyCodecModel", "empty", "(I)V"⟩, 23), (⟨"KeyCodecModel", "isField", "(I)Z"⟩, 23)]
theorem lw_r1 : ∀ q ∈ lw_privs_1, lw_okq q := List.forall_mem_cons.mpr ⟨lw_p0, List.forall_mem_cons.mpr ⟨lw_p1, List.forall_mem_cons.mpr ⟨lw_p2, List.forall_mem_cons.mpr ⟨lw_p3, List.forall_mem_cons.mpr ⟨lw_p4, List.forall_mem_cons.mpr ⟨lw_p5, List.forall_mem_cons.mpr ⟨lw_p6, List.forall_mem_cons.mpr ⟨lw_p7, List.forall_mem_cons.mpr ⟨lw_p8, List.forall_mem_cons.mpr ⟨lw_p9, List.forall_mem_cons.mpr ⟨lw_p10, List.forall_mem_cons.mpr ⟨lw_p11, List.forall_mem_cons.mpr ⟨lw_p12, List.forall_mem_cons.mpr ⟨lw_p13, List.forall_mem_cons.mpr ⟨lw_p14, List.forall_mem_cons.mpr ⟨lw_p15, fun _ h => absurd h List.not_mem_nil⟩⟩⟩⟩⟩⟩⟩⟩⟩⟩⟩⟩⟩⟩⟩⟩
theorem lw_p16 : lw_okq (⟨"KeyCodecModel", "set", "(IJI)V"⟩, 23) := ⟨⟨by decide +kernel, by decide +kernel⟩, List.mem_of_getElem? (i := 583) (by decide +kernel), List.mem_of_getElem? (i := 696) (by decide +kernel), List.mem_of_getElem? (i := 697) (by decide +kernel)⟩
theorem lw_p17 : lw_okq (⟨"KeyCodecModel", "isOptional", "(I)Z"⟩, 23) := ⟨⟨by decide +kernel, by decide +kernel⟩, List.mem_of_getElem? (i := 583) (by decide +kernel), List.mem_of_getElem? (i := 708) (by decide +kernel), List.mem_of_getElem? (i := 709) (by decide +kernel)⟩
theorem lw_p18 : lw_okq (⟨"KeyCodecModel", "make", "(II)V"⟩, 23) := ⟨⟨by decide +kernel, by decide +kernel⟩, List.mem_of_getElem? (i := 583) (by decide +kernel), List.mem_of_getElem? (i := 721) (by decide +kernel), List.mem_of_getElem? (i := 722) (by decide +kernel)⟩
theorem lw_p19 : lw_okq (⟨"KeyCodecModel", "sayField", "(III)V"⟩, 23) := ⟨⟨by decide +kernel, by decide +kernel⟩, List.mem_of_getElem? (i := 583) (by decide +kernel), List.mem_of_getElem? (i := 725) (by decide +kernel), List.mem_of_getElem? (i := 726) (by decide +kernel)⟩
theorem lw_p20 : lw_okq (⟨"KeyCodecModel", "isLast", "(I)Z"⟩, 23) := ⟨⟨by decide +kernel, by decide +kernel⟩, List.mem_of_getElem? (i := 583) (by decide +kernel), List.mem_of_getElem? (i := 729) (by decide +kernel), List.mem_of_getElem? (i := 730) (by decide +kernel)⟩
theorem lw_p21 : lw_okq (⟨"KeyCodecModel", "say", "(II)V"⟩, 23) := ⟨⟨by decide +kernel, by decide +kernel⟩, List.mem_of_getElem? (i := 583) (by decide +kernel), List.mem_of_getElem? (i := 733) (by decide +kernel), List.mem_of_getElem? (i := 734) (by decide +kernel)⟩
theorem lw_p22 : lw_okq (⟨"KeyCodecModel", "isDown", "(I)Z"⟩, 23) := ⟨⟨by decide +kernel, by decide +kernel⟩, List.mem_of_getElem? (i := 583) (by decide +kernel), List.mem_of_getElem? (i := 737) (by decide +kernel), List.mem_of_getElem? (i := 738) (by decide +kernel)⟩
theorem lw_p23 : lw_okq (⟨"KeyCodecModel", "sayDecimal", "(IJII)V"⟩, 23) := ⟨⟨by decide +kernel, by decide +kernel⟩, List.mem_of_getElem? (i := 583) (by decide +kernel), List.mem_of_getElem? (i := 741) (by decide +kernel), List.mem_of_getElem? (i := 742) (by decide +kernel)⟩
theorem lw_p24 : lw_okq (⟨"KeyCodecModel", "sayText", "(III)V"⟩, 23) := ⟨⟨by decide +kernel, by decide +kernel⟩, List.mem_of_getElem? (i := 583) (by decide +kernel), List.mem_of_getElem? (i := 746) (by decide +kernel), List.mem_of_getElem? (i := 747) (by decide +kernel)⟩
theorem lw_p25 : lw_okq (⟨"KeyCodecModel", "sayInt", "(IJI)V"⟩, 23) := ⟨⟨by decide +kernel, by decide +kernel⟩, List.mem_of_getElem? (i := 583) (by decide +kernel), List.mem_of_getElem? (i := 750) (by decide +kernel), List.mem_of_getElem? (i := 751) (by decide +kernel)⟩
theorem lw_p26 : lw_okq (⟨"KeyCodecModel", "sayTail", "(II)V"⟩, 23) := ⟨⟨by decide +kernel, by decide +kernel⟩, List.mem_of_getElem? (i := 583) (by decide +kernel), List.mem_of_getElem? (i := 756) (by decide +kernel), List.mem_of_getElem? (i := 757) (by decide +kernel)⟩
theorem lw_p27 : lw_okq (⟨"KeyCodecModel", "readField", "(II)V"⟩, 23) := ⟨⟨by decide +kernel, by decide +kernel⟩, List.mem_of_getElem? (i := 583) (by decide +kernel), List.mem_of_getElem? (i := 776) (by decide +kernel), List.mem_of_getElem? (i := 777) (by decide +kernel)⟩
theorem lw_p28 : lw_okq (⟨"KeyCodecModel", "next", "(I)I"⟩, 23) := ⟨⟨by decide +kernel, by decide +kernel⟩, List.mem_of_getElem? (i := 583) (by decide +kernel), List.mem_of_getElem? (i := 780) (by decide +kernel), List.mem_of_getElem? (i := 781) (by decide +kernel)⟩
theorem lw_p29 : lw_okq (⟨"KeyCodecModel", "readDecimal", "(II)V"⟩, 23) := ⟨⟨by decide +kernel, by decide +kernel⟩, List.mem_of_getElem? (i := 583) (by decide +kernel), List.mem_of_getElem? (i := 784) (by decide +kernel), List.mem_of_getElem? (i := 785) (by decide +kernel)⟩
theorem lw_p30 : lw_okq (⟨"KeyCodecModel", "readText", "(II)V"⟩, 23) := ⟨⟨by decide +kernel, by decide +kernel⟩, List.mem_of_getElem? (i := 583) (by decide +kernel), List.mem_of_getElem? (i := 788) (by decide +kernel), List.mem_of_getElem? (i := 789) (by decide +kernel)⟩
theorem lw_p31 : lw_okq (⟨"KeyCodecModel", "readInt", "(I)J"⟩, 23) := ⟨⟨by decide +kernel, by decide +kernel⟩, List.mem_of_getElem? (i := 583) (by decide +kernel), List.mem_of_getElem? (i := 792) (by decide +kernel), List.mem_of_getElem? (i := 793) (by decide +kernel)⟩
def lw_privs_2 : List (MethodName × Nat) := [(⟨"KeyCodecModel", "set", "(IJI)V"⟩, 23), (⟨"KeyCodecModel", "isOptional", "(I)Z"⟩, 23), (⟨"KeyCodecModel", "make", "(II)V"⟩, 23), (⟨"KeyCodecModel", "sayField", "(III)V"⟩, 23), (⟨"KeyCodecModel", "isLast", "(I)Z"⟩, 23), (⟨"KeyCodecModel", "say", "(II)V"⟩, 23), (⟨"KeyCodecModel", "isDown", "(I)Z"⟩, 23), (⟨"KeyCodecModel", "sayDecimal", "(IJII)V"⟩, 23), (⟨"KeyCodecModel", "sayText", "(III)V"⟩, 23), (⟨"KeyCodecModel", "sayInt", "(IJI)V"⟩, 23), (⟨"KeyCodecModel", "sayTail", "(II)V"⟩, 23), (⟨"KeyCodecModel", "readField", "(II)V"⟩, 23), (⟨"KeyCodecModel", "next", "(I)I"⟩, 23), (⟨"KeyCodecModel", "readDecimal", "(II)V"⟩, 23), (⟨"KeyCodecModel", "readText", "(II)V"⟩, 23), (⟨"KeyCodecModel", "readInt", "(I)J"⟩, 23)]
theorem lw_r2 : ∀ q ∈ lw_privs_2, lw_okq q := List.forall_mem_cons.mpr ⟨lw_p16, List.forall_mem_cons.mpr ⟨lw_p17, List.forall_mem_cons.mpr ⟨lw_p18, List.forall_mem_cons.mpr ⟨lw_p19, List.forall_mem_cons.mpr ⟨lw_p20, List.forall_mem_cons.mpr ⟨lw_p21, List.forall_mem_cons.mpr ⟨lw_p22, List.forall_mem_cons.mpr ⟨lw_p23, List.forall_mem_cons.mpr ⟨lw_p24, List.forall_mem_cons.mpr ⟨lw_p25, List.forall_mem_cons.mpr ⟨lw_p26, List.forall_mem_cons.mpr ⟨lw_p27, List.forall_mem_cons.mpr ⟨lw_p28, List.forall_mem_cons.mpr ⟨lw_p29, List.forall_mem_cons.mpr ⟨lw_p30, List.forall_mem_cons.mpr ⟨lw_p31, fun _ h => absurd h List.not_mem_nil⟩⟩⟩⟩⟩⟩⟩⟩⟩⟩⟩⟩⟩⟩⟩⟩
theorem lw_p32 : lw_okq (⟨"KeyCodecModel", "readTail", "(I)V"⟩, 23) := ⟨⟨by decide +kernel, by decide +kernel⟩, List.mem_of_getElem? (i := 583) (by decide +kernel), List.mem_of_getElem? (i := 796) (by decide +kernel), List.mem_of_getElem? (i := 797) (by decide +kernel)⟩
theorem lw_p33 : lw_okq (⟨"KeyCodecModel", "isTuple", "(I)Z"⟩, 23) := ⟨⟨by decide +kernel, by decide +kernel⟩, List.mem_of_getElem? (i := 583) (by decide +kernel), List.mem_of_getElem? (i := 804) (by decide +kernel), List.mem_of_getElem? (i := 805) (by decide +kernel)⟩
theorem lw_p34 : lw_okq (⟨"KeyCodecModel", "copy", "(II)V"⟩, 23) := ⟨⟨by decide +kernel, by decide +kernel⟩, List.mem_of_getElem? (i := 583) (by decide +kernel), List.mem_of_getElem? (i := 808) (by decide +kernel), List.mem_of_getElem? (i := 809) (by decide +kernel)⟩
theorem lw_p35 : lw_okq (⟨"KeyCodecModel", "isKept", "(I)Z"⟩, 23) := ⟨⟨by decide +kernel, by decide +kernel⟩, List.mem_of_getElem? (i := 583) (by decide +kernel), List.mem_of_getElem? (i := 820) (by decide +kernel), List.mem_of_getElem? (i := 821) (by decide +kernel)⟩
theorem lw_p36 : lw_okq (⟨"KeyCodecModel", "orderField", "(III)I"⟩, 23) := ⟨⟨by decide +kernel, by decide +kernel⟩, List.mem_of_getElem? (i := 583) (by decide +kernel), List.mem_of_getElem? (i := 832) (by decide +kernel), List.mem_of_getElem? (i := 833) (by decide +kernel)⟩
theorem lw_p37 : lw_okq (⟨"KeyCodecModel", "orderDecimals", "(II)I"⟩, 23) := ⟨⟨by decide +kernel, by decide +kernel⟩, List.mem_of_getElem? (i := 583) (by decide +kernel), List.mem_of_getElem? (i := 836) (by decide +kernel), List.mem_of_getElem? (i := 837) (by decide +kernel)⟩
theorem lw_p38 : lw_okq (⟨"KeyCodecModel", "orderTexts", "(II)I"⟩, 23) := ⟨⟨by decide +kernel, by decide +kernel⟩, List.mem_of_getElem? (i := 583) (by decide +kernel), List.mem_of_getElem? (i := 847) (by decide +kernel), List.mem_of_getElem? (i := 848) (by decide +kernel)⟩
theorem lw_p39 : lw_okq (⟨"KeyCodecModel", "orderMade", "()I"⟩, 23) := ⟨⟨by decide +kernel, by decide +kernel⟩, List.mem_of_getElem? (i := 583) (by decide +kernel), List.mem_of_getElem? (i := 855) (by decide +kernel), List.mem_of_getElem? (i := 856) (by decide +kernel)⟩
theorem lw_p40 : lw_okq (⟨"KeyCodecModel", "rankOf", "(I)I"⟩, 23) := ⟨⟨by decide +kernel, by decide +kernel⟩, List.mem_of_getElem? (i := 583) (by decide +kernel), List.mem_of_getElem? (i := 863) (by decide +kernel), List.mem_of_getElem? (i := 864) (by decide +kernel)⟩
theorem lw_p41 : lw_okq (⟨"KeyCodecModel", "ofRank", "(I)I"⟩, 23) := ⟨⟨by decide +kernel, by decide +kernel⟩, List.mem_of_getElem? (i := 583) (by decide +kernel), List.mem_of_getElem? (i := 871) (by decide +kernel), List.mem_of_getElem? (i := 872) (by decide +kernel)⟩
theorem lw_p42 : lw_okq (⟨"KeyCodecModel", "extend", "(ZII)V"⟩, 23) := ⟨⟨by decide +kernel, by decide +kernel⟩, List.mem_of_getElem? (i := 583) (by decide +kernel), List.mem_of_getElem? (i := 883) (by decide +kernel), List.mem_of_getElem? (i := 884) (by decide +kernel)⟩
theorem lw_p43 : lw_okq (⟨"KeyCodecModel", "against", "(Z)I"⟩, 23) := ⟨⟨by decide +kernel, by decide +kernel⟩, List.mem_of_getElem? (i := 583) (by decide +kernel), List.mem_of_getElem? (i := 895) (by decide +kernel), List.mem_of_getElem? (i := 896) (by decide +kernel)⟩
def lw_privs_3 : List (MethodName × Nat) := [(⟨"KeyCodecModel", "readTail", "(I)V"⟩, 23), (⟨"KeyCodecModel", "isTuple", "(I)Z"⟩, 23), (⟨"KeyCodecModel", "copy", "(II)V"⟩, 23), (⟨"KeyCodecModel", "isKept", "(I)Z"⟩, 23), (⟨"KeyCodecModel", "orderField", "(III)I"⟩, 23), (⟨"KeyCodecModel", "orderDecimals", "(II)I"⟩, 23), (⟨"KeyCodecModel", "orderTexts", "(II)I"⟩, 23), (⟨"KeyCodecModel", "orderMade", "()I"⟩, 23), (⟨"KeyCodecModel", "rankOf", "(I)I"⟩, 23), (⟨"KeyCodecModel", "ofRank", "(I)I"⟩, 23), (⟨"KeyCodecModel", "extend", "(ZII)V"⟩, 23), (⟨"KeyCodecModel", "against", "(Z)I"⟩, 23)]
theorem lw_r3 : ∀ q ∈ lw_privs_3, lw_okq q := List.forall_mem_cons.mpr ⟨lw_p32, List.forall_mem_cons.mpr ⟨lw_p33, List.forall_mem_cons.mpr ⟨lw_p34, List.forall_mem_cons.mpr ⟨lw_p35, List.forall_mem_cons.mpr ⟨lw_p36, List.forall_mem_cons.mpr ⟨lw_p37, List.forall_mem_cons.mpr ⟨lw_p38, List.forall_mem_cons.mpr ⟨lw_p39, List.forall_mem_cons.mpr ⟨lw_p40, List.forall_mem_cons.mpr ⟨lw_p41, List.forall_mem_cons.mpr ⟨lw_p42, List.forall_mem_cons.mpr ⟨lw_p43, fun _ h => absurd h List.not_mem_nil⟩⟩⟩⟩⟩⟩⟩⟩⟩⟩⟩⟩
def lw_privs : List (MethodName × Nat) := lw_privs_1 ++ (lw_privs_2 ++ (lw_privs_3))
def lw_tbl : List Cond := k2_sels lw_privs ++ tables_1
theorem lw_privs_ok : ∀ q ∈ lw_privs, lw_okq q := by
  show ∀ q ∈ lw_privs_1 ++ (lw_privs_2 ++ (lw_privs_3)), lw_okq q
  exact List.forall_mem_append.mpr ⟨lw_r1, List.forall_mem_append.mpr ⟨lw_r2, lw_r3⟩⟩
/-! names: classes, fields, words, methods; printed by program out of the claim (wip/gen) -/
def F_Kc : u_T := fun k => match k with
  | 0 => ("KeyCodec", "schema", "LKeyCodec$Schema;", true)
  | 1 => ("KeyCodec", "loaded", "LKeyCodec$Tuple;", true)
  | 2 => ("KeyCodec", "scratch", "LKeyCodec$Tuple;", true)
  | 3 => ("KeyCodec", "keyRow", "LKeyCodec$Row;", true)
  | 4 => ("KeyCodec", "left", "LKeyCodec$Row;", true)
  | 5 => ("KeyCodec", "right", "LKeyCodec$Row;", true)
  | 6 => ("KeyCodec", "keptTuples", "[LKeyCodec$Tuple;", true)
  | 7 => ("KeyCodec", "keptKeys", "[LKeyCodec$Row;", true)
  | 8 => ("KeyCodec", "keptCount", "I", false)
  | 9 => ("KeyCodec", "low", "LKeyCodec$Row;", true)
  | 10 => ("KeyCodec", "high", "LKeyCodec$Row;", true)
  | _ => ("KeyCodec", "highEnds", "Z", false)
def t_Kc : Nat → FieldType := fun k => match k with
  | 0 => .object "KeyCodec$Schema"
  | 1 => .object "KeyCodec$Tuple"
  | 2 => .object "KeyCodec$Tuple"
  | 3 => .object "KeyCodec$Row"
  | 4 => .object "KeyCodec$Row"
  | 5 => .object "KeyCodec$Row"
  | 6 => .array (.object "KeyCodec$Tuple")
  | 7 => .array (.object "KeyCodec$Row")
  | 8 => .int
  | 9 => .object "KeyCodec$Row"
  | 10 => .object "KeyCodec$Row"
  | _ => .boolean
def F_Row : u_T := fun k => match k with
  | 0 => ("KeyCodec$Row", "bytes", "[I", true)
  | _ => ("KeyCodec$Row", "size", "I", false)
def t_Row : Nat → FieldType := fun k => match k with
  | 0 => .array .int
  | _ => .int
def F_Value : u_T := fun k => match k with
  | 0 => ("KeyCodec$Value", "missing", "Z", false)
  | 1 => ("KeyCodec$Value", "number", "J", false)
  | 2 => ("KeyCodec$Value", "form", "I", false)
  | 3 => ("KeyCodec$Value", "bytes", "[I", true)
  | _ => ("KeyCodec$Value", "size", "I", false)
def t_Value : Nat → FieldType := fun k => match k with
  | 0 => .boolean
  | 1 => .long
  | 2 => .int
  | 3 => .array .int
  | _ => .int
def F_Tuple : u_T := fun k => match k with
  | _ => ("KeyCodec$Tuple", "values", "[LKeyCodec$Value;", true)
def t_Tuple : Nat → FieldType := fun k => match k with
  | _ => .array (.object "KeyCodec$Value")
def F_Schema : u_T := fun k => match k with
  | 0 => ("KeyCodec$Schema", "kinds", "[I", true)
  | 1 => ("KeyCodec$Schema", "flags", "[I", true)
  | 2 => ("KeyCodec$Schema", "count", "I", false)
  | _ => ("KeyCodec$Schema", "closed", "Z", false)
def t_Schema : Nat → FieldType := fun k => match k with
  | 0 => .array .int
  | 1 => .array .int
  | 2 => .int
  | _ => .boolean
def F_Reader : u_T := fun k => match k with
  | 0 => ("KeyCodec$KeyReader", "schema", "LKeyCodec$Schema;", true)
  | 1 => ("KeyCodec$KeyReader", "row", "LKeyCodec$Row;", true)
  | 2 => ("KeyCodec$KeyReader", "position", "I", false)
  | 3 => ("KeyCodec$KeyReader", "turn", "I", false)
  | _ => ("KeyCodec$KeyReader", "powers", "[I", true)
def t_Reader : Nat → FieldType := fun k => match k with
  | 0 => .object "KeyCodec$Schema"
  | 1 => .object "KeyCodec$Row"
  | 2 => .int
  | 3 => .int
  | _ => .array .int
def F_Mod : u_T := fun k => match k with
  | 0 => ("KeyCodecModel", "thrown", "I", false)
  | 1 => ("KeyCodecModel", "fields", "I", false)
  | 2 => ("KeyCodecModel", "sealed", "Z", false)
  | 3 => ("KeyCodecModel", "kinds", "[I", true)
  | 4 => ("KeyCodecModel", "flags", "[I", true)
  | 5 => ("KeyCodecModel", "values", "[J", true)
  | 6 => ("KeyCodecModel", "forms", "[I", true)
  | 7 => ("KeyCodecModel", "gone", "[Z", true)
  | 8 => ("KeyCodecModel", "sizes", "[I", true)
  | 9 => ("KeyCodecModel", "texts", "[I", true)
  | 10 => ("KeyCodecModel", "kept", "I", false)
  | 11 => ("KeyCodecModel", "row", "[I", true)
  | 12 => ("KeyCodecModel", "rowSize", "I", false)
  | 13 => ("KeyCodecModel", "made", "[I", true)
  | 14 => ("KeyCodecModel", "size", "I", false)
  | 15 => ("KeyCodecModel", "ends", "[I", true)
  | 16 => ("KeyCodecModel", "madeSize", "[I", true)
  | 17 => ("KeyCodecModel", "low", "[I", true)
  | 18 => ("KeyCodecModel", "high", "[I", true)
  | 19 => ("KeyCodecModel", "lowSize", "I", false)
  | 20 => ("KeyCodecModel", "highSize", "I", false)
  | 21 => ("KeyCodecModel", "at", "I", false)
  | _ => ("KeyCodecModel", "bad", "Z", false)
def t_Mod : Nat → FieldType := fun k => match k with
  | 0 => .int
  | 1 => .int
  | 2 => .boolean
  | 3 => .array .int
  | 4 => .array .int
  | 5 => .array .long
  | 6 => .array .int
  | 7 => .array .boolean
  | 8 => .array .int
  | 9 => .array .int
  | 10 => .int
  | 11 => .array .int
  | 12 => .int
  | 13 => .array .int
  | 14 => .int
  | 15 => .array .int
  | 16 => .array .int
  | 17 => .array .int
  | 18 => .array .int
  | 19 => .int
  | 20 => .int
  | 21 => .int
  | _ => .boolean
def kcl : List vw_C := [("KeyCodec", F_Kc, 12), ("KeyCodec$Row", F_Row, 2), ("KeyCodec$Value", F_Value, 5), ("KeyCodec$Tuple", F_Tuple, 1), ("KeyCodec$Schema", F_Schema, 4), ("KeyCodec$KeyReader", F_Reader, 5), ("KeyCodecModel", F_Mod, 23)]
abbrev kTs : List Cond := lw_tbl.filter goodWord
def ktys (D : va_G × (Nat → ClassId)) : List (ClassId × FieldType) := [(D.2 0, .int), (D.2 1, .long), (D.2 2, .boolean), (D.2 3, .object "KeyCodec$Value"), (D.2 4, .object "KeyCodec$Tuple"), (D.2 5, .object "KeyCodec$Row")]
def kNM : List (String × Nat × MethodName × String) := [("KeyCodec", 11, ⟨"KeyCodec$Schema", "<init>", "()V"⟩, "KeyCodec"), ("KeyCodec$Tuple", 17, ⟨"KeyCodec$Value", "<init>", "()V"⟩, "KeyCodec"), ("KeyCodec", 28, ⟨"KeyCodec$Row", "<init>", "()V"⟩, "KeyCodec")]
theorem km {z : Cond} (i : Nat) (h : tables_1[i]? = some z) (g : goodWord z = true) : z ∈ kTs := List.mem_filter.mpr ⟨List.mem_append_right _ (List.mem_of_getElem? h), g⟩
theorem kms {z : Cond} (i : Nat) (h : (k2_sels lw_privs)[i]? = some z) (g : goodWord z = true) : z ∈ kTs := List.mem_filter.mpr ⟨List.mem_append_left _ (List.mem_of_getElem? h), g⟩
