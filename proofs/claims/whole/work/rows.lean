section
-- ===== PART A: goes FIRST, ahead of the names: the tables' words, and 'selects' of the private methods out of them =====
/-- a private method of a class that the tables say can be made, by its rows of tables_1 -/
def lw_okq (q : MethodName × Nat) : Prop := (q.1.cls ≠ "java/lang/invoke/MethodHandle" ∧ q.1.cls ≠ "java/lang/invoke/VarHandle") ∧ Cond.instantiable q.1.cls q.2 ∈ tables_1 ∧ Cond.privateMethod q.1 ∈ tables_1 ∧ Cond.instanceMethod q.1 ∈ tables_1
theorem lw_p0 : lw_okq (⟨"DigitMill$Text", "setPowers", "()V"⟩, 8) := ⟨⟨by decide +kernel, by decide +kernel⟩, List.mem_of_getElem? (i := 35) (by decide +kernel), List.mem_of_getElem? (i := 59) (by decide +kernel), List.mem_of_getElem? (i := 60) (by decide +kernel)⟩
theorem lw_p1 : lw_okq (⟨"DigitMill", "digits", "()I"⟩, 4) := ⟨⟨by decide +kernel, by decide +kernel⟩, List.mem_of_getElem? (i := 27) (by decide +kernel), List.mem_of_getElem? (i := 193) (by decide +kernel), List.mem_of_getElem? (i := 194) (by decide +kernel)⟩
theorem lw_p2 : lw_okq (⟨"DigitMill$Text", "measure", "()V"⟩, 8) := ⟨⟨by decide +kernel, by decide +kernel⟩, List.mem_of_getElem? (i := 35) (by decide +kernel), List.mem_of_getElem? (i := 208) (by decide +kernel), List.mem_of_getElem? (i := 209) (by decide +kernel)⟩
theorem lw_p3 : lw_okq (⟨"java/lang/Throwable", "fillInStackTrace", "(I)Ljava/lang/Throwable;"⟩, 6) := ⟨⟨by decide +kernel, by decide +kernel⟩, List.mem_of_getElem? (i := 282) (by decide +kernel), List.mem_of_getElem? (i := 280) (by decide +kernel), List.mem_of_getElem? (i := 281) (by decide +kernel)⟩
theorem lw_p4 : lw_okq (⟨"DigitMill$Bench", "takeFirstRootLimb", "(I)V"⟩, 3) := ⟨⟨by decide +kernel, by decide +kernel⟩, List.mem_of_getElem? (i := 95) (by decide +kernel), List.mem_of_getElem? (i := 581) (by decide +kernel), List.mem_of_getElem? (i := 582) (by decide +kernel)⟩
theorem lw_p5 : lw_okq (⟨"DigitMill$Bench", "setTwice", "(IJ)V"⟩, 3) := ⟨⟨by decide +kernel, by decide +kernel⟩, List.mem_of_getElem? (i := 95) (by decide +kernel), List.mem_of_getElem? (i := 586) (by decide +kernel), List.mem_of_getElem? (i := 587) (by decide +kernel)⟩
theorem lw_p6 : lw_okq (⟨"DigitMill$Bench", "takeRootLimb", "(II)V"⟩, 3) := ⟨⟨by decide +kernel, by decide +kernel⟩, List.mem_of_getElem? (i := 95) (by decide +kernel), List.mem_of_getElem? (i := 591) (by decide +kernel), List.mem_of_getElem? (i := 592) (by decide +kernel)⟩
theorem lw_p7 : lw_okq (⟨"DigitMill", "retell", "(LDigitMill$Whole;I)I"⟩, 4) := ⟨⟨by decide +kernel, by decide +kernel⟩, List.mem_of_getElem? (i := 27) (by decide +kernel), List.mem_of_getElem? (i := 613) (by decide +kernel), List.mem_of_getElem? (i := 614) (by decide +kernel)⟩
theorem lw_p8 : lw_okq (⟨"DigitMill", "makeConstant", "(III)V"⟩, 4) := ⟨⟨by decide +kernel, by decide +kernel⟩, List.mem_of_getElem? (i := 27) (by decide +kernel), List.mem_of_getElem? (i := 700) (by decide +kernel), List.mem_of_getElem? (i := 701) (by decide +kernel)⟩
theorem lw_p9 : lw_okq (⟨"DigitMill$Series", "sumUp", "(I)V"⟩, 5) := ⟨⟨by decide +kernel, by decide +kernel⟩, List.mem_of_getElem? (i := 116) (by decide +kernel), List.mem_of_getElem? (i := 713) (by decide +kernel), List.mem_of_getElem? (i := 714) (by decide +kernel)⟩
theorem lw_p10 : lw_okq (⟨"DigitMill$Series", "sumPi", "()V"⟩, 5) := ⟨⟨by decide +kernel, by decide +kernel⟩, List.mem_of_getElem? (i := 116) (by decide +kernel), List.mem_of_getElem? (i := 717) (by decide +kernel), List.mem_of_getElem? (i := 718) (by decide +kernel)⟩
theorem lw_p11 : lw_okq (⟨"DigitMill$Series", "foldArctan", "(II)V"⟩, 5) := ⟨⟨by decide +kernel, by decide +kernel⟩, List.mem_of_getElem? (i := 116) (by decide +kernel), List.mem_of_getElem? (i := 721) (by decide +kernel), List.mem_of_getElem? (i := 722) (by decide +kernel)⟩
theorem lw_p12 : lw_okq (⟨"DigitMill$Series", "begin", "()V"⟩, 5) := ⟨⟨by decide +kernel, by decide +kernel⟩, List.mem_of_getElem? (i := 116) (by decide +kernel), List.mem_of_getElem? (i := 725) (by decide +kernel), List.mem_of_getElem? (i := 726) (by decide +kernel)⟩
theorem lw_p13 : lw_okq (⟨"DigitMill$Series", "bitsNeeded", "()I"⟩, 5) := ⟨⟨by decide +kernel, by decide +kernel⟩, List.mem_of_getElem? (i := 116) (by decide +kernel), List.mem_of_getElem? (i := 729) (by decide +kernel), List.mem_of_getElem? (i := 730) (by decide +kernel)⟩
theorem lw_p14 : lw_okq (⟨"DigitMill$Series", "lowest", "(I)I"⟩, 5) := ⟨⟨by decide +kernel, by decide +kernel⟩, List.mem_of_getElem? (i := 116) (by decide +kernel), List.mem_of_getElem? (i := 733) (by decide +kernel), List.mem_of_getElem? (i := 734) (by decide +kernel)⟩
theorem lw_p15 : lw_okq (⟨"DigitMill$Series", "fold", "(III)V"⟩, 5) := ⟨⟨by decide +kernel, by decide +kernel⟩, List.mem_of_getElem? (i := 116) (by decide +kernel), List.mem_of_getElem? (i := 737) (by decide +kernel), List.mem_of_getElem? (i := 738) (by decide +kernel)⟩
def lw_privs_1 : List (MethodName × Nat) := [(⟨"DigitMill$Text", "setPowers", "()V"⟩, 8), (⟨"DigitMill", "digits", "()I"⟩, 4), (⟨"DigitMill$Text", "measure", "()V"⟩, 8), (⟨"java/lang/Throwable", "fillInStackTrace", "(I)Ljava/lang/Throwable;"⟩, 6), (⟨"DigitMill$Bench", "takeFirstRootLimb", "(I)V"⟩, 3), (⟨"DigitMill$Bench", "setTwice", "(IJ)V"⟩, 3), (⟨"DigitMill$Bench", "takeRootLimb", "(II)V"⟩, 3), (⟨"DigitMill", "retell", "(LDigitMill$Whole;I)I"⟩, 4), (⟨"DigitMill", "makeConstant", "(III)V"⟩, 4), (⟨"DigitMill$Series", "sumUp", "(I)V"⟩, 5), (⟨"DigitMill$Series", "sumPi", "()V"⟩, 5), (⟨"DigitMill$Series", "foldArctan", "(II)V"⟩, 5), (⟨"DigitMill$Series", "begin", "()V"⟩, 5), (⟨"DigitMill$Series", "bitsNeeded", "()I"⟩, 5), (⟨"DigitMill$Series", "lowest", "(I)I"⟩, 5), (⟨"DigitMill$Series", "fold", "(III)V"⟩, 5)]
theorem lw_r1 : ∀ q ∈ lw_privs_1, lw_okq q := List.forall_mem_cons.mpr ⟨lw_p0, List.forall_mem_cons.mpr ⟨lw_p1, List.forall_mem_cons.mpr ⟨lw_p2, List.forall_mem_cons.mpr ⟨lw_p3, List.forall_mem_cons.mpr ⟨lw_p4, List.forall_mem_cons.mpr ⟨lw_p5, List.forall_mem_cons.mpr ⟨lw_p6, List.forall_mem_cons.mpr ⟨lw_p7, List.forall_mem_cons.mpr ⟨lw_p8, List.forall_mem_cons.mpr ⟨lw_p9, List.forall_mem_cons.mpr ⟨lw_p10, List.forall_mem_cons.mpr ⟨lw_p11, List.forall_mem_cons.mpr ⟨lw_p12, List.forall_mem_cons.mpr ⟨lw_p13, List.forall_mem_cons.mpr ⟨lw_p14, List.forall_mem_cons.mpr ⟨lw_p15, fun _ h => absurd h List.not_mem_nil⟩⟩⟩⟩⟩⟩⟩⟩⟩⟩⟩⟩⟩⟩⟩⟩
theorem lw_p16 : lw_okq (⟨"DigitMill$Series", "gather", "()V"⟩, 5) := ⟨⟨by decide +kernel, by decide +kernel⟩, List.mem_of_getElem? (i := 116) (by decide +kernel), List.mem_of_getElem? (i := 741) (by decide +kernel), List.mem_of_getElem? (i := 742) (by decide +kernel)⟩
theorem lw_p17 : lw_okq (⟨"DigitMill$Series", "sumE", "()V"⟩, 5) := ⟨⟨by decide +kernel, by decide +kernel⟩, List.mem_of_getElem? (i := 116) (by decide +kernel), List.mem_of_getElem? (i := 746) (by decide +kernel), List.mem_of_getElem? (i := 747) (by decide +kernel)⟩
theorem lw_p18 : lw_okq (⟨"DigitMill$Series", "sumLogTwo", "()V"⟩, 5) := ⟨⟨by decide +kernel, by decide +kernel⟩, List.mem_of_getElem? (i := 116) (by decide +kernel), List.mem_of_getElem? (i := 751) (by decide +kernel), List.mem_of_getElem? (i := 752) (by decide +kernel)⟩
theorem lw_p19 : lw_okq (⟨"DigitMill$Series", "sumCubes", "()V"⟩, 5) := ⟨⟨by decide +kernel, by decide +kernel⟩, List.mem_of_getElem? (i := 116) (by decide +kernel), List.mem_of_getElem? (i := 755) (by decide +kernel), List.mem_of_getElem? (i := 756) (by decide +kernel)⟩
theorem lw_p20 : lw_okq (⟨"DigitMill$Series", "settle", "(I)V"⟩, 5) := ⟨⟨by decide +kernel, by decide +kernel⟩, List.mem_of_getElem? (i := 116) (by decide +kernel), List.mem_of_getElem? (i := 760) (by decide +kernel), List.mem_of_getElem? (i := 761) (by decide +kernel)⟩
theorem lw_p21 : lw_okq (⟨"DigitMill$Bench", "quotientLimb", "(I)I"⟩, 3) := ⟨⟨by decide +kernel, by decide +kernel⟩, List.mem_of_getElem? (i := 95) (by decide +kernel), List.mem_of_getElem? (i := 803) (by decide +kernel), List.mem_of_getElem? (i := 804) (by decide +kernel)⟩
theorem lw_p22 : lw_okq (⟨"DigitMill", "digitSum", "()I"⟩, 4) := ⟨⟨by decide +kernel, by decide +kernel⟩, List.mem_of_getElem? (i := 27) (by decide +kernel), List.mem_of_getElem? (i := 929) (by decide +kernel), List.mem_of_getElem? (i := 930) (by decide +kernel)⟩
theorem lw_p23 : lw_okq (⟨"DigitMillModel", "isWrong", "(ZII)Z"⟩, 10) := ⟨⟨by decide +kernel, by decide +kernel⟩, List.mem_of_getElem? (i := 956) (by decide +kernel), List.mem_of_getElem? (i := 1001) (by decide +kernel), List.mem_of_getElem? (i := 1002) (by decide +kernel)⟩
theorem lw_p24 : lw_okq (⟨"DigitMillModel", "fails", "(ZI)Z"⟩, 10) := ⟨⟨by decide +kernel, by decide +kernel⟩, List.mem_of_getElem? (i := 956) (by decide +kernel), List.mem_of_getElem? (i := 1008) (by decide +kernel), List.mem_of_getElem? (i := 1009) (by decide +kernel)⟩
theorem lw_p25 : lw_okq (⟨"DigitMillModel", "golden", "(II)V"⟩, 10) := ⟨⟨by decide +kernel, by decide +kernel⟩, List.mem_of_getElem? (i := 956) (by decide +kernel), List.mem_of_getElem? (i := 1015) (by decide +kernel), List.mem_of_getElem? (i := 1016) (by decide +kernel)⟩
theorem lw_p26 : lw_okq (⟨"DigitMillModel", "power", "(III)V"⟩, 10) := ⟨⟨by decide +kernel, by decide +kernel⟩, List.mem_of_getElem? (i := 956) (by decide +kernel), List.mem_of_getElem? (i := 1019) (by decide +kernel), List.mem_of_getElem? (i := 1020) (by decide +kernel)⟩
theorem lw_p27 : lw_okq (⟨"DigitMillModel", "set", "(IJ)V"⟩, 10) := ⟨⟨by decide +kernel, by decide +kernel⟩, List.mem_of_getElem? (i := 956) (by decide +kernel), List.mem_of_getElem? (i := 1023) (by decide +kernel), List.mem_of_getElem? (i := 1024) (by decide +kernel)⟩
theorem lw_p28 : lw_okq (⟨"DigitMillModel", "grow", "(IJJ)V"⟩, 10) := ⟨⟨by decide +kernel, by decide +kernel⟩, List.mem_of_getElem? (i := 956) (by decide +kernel), List.mem_of_getElem? (i := 1028) (by decide +kernel), List.mem_of_getElem? (i := 1029) (by decide +kernel)⟩
theorem lw_p29 : lw_okq (⟨"DigitMillModel", "at", "(II)I"⟩, 10) := ⟨⟨by decide +kernel, by decide +kernel⟩, List.mem_of_getElem? (i := 956) (by decide +kernel), List.mem_of_getElem? (i := 1032) (by decide +kernel), List.mem_of_getElem? (i := 1033) (by decide +kernel)⟩
theorem lw_p30 : lw_okq (⟨"DigitMillModel", "trim", "(I)V"⟩, 10) := ⟨⟨by decide +kernel, by decide +kernel⟩, List.mem_of_getElem? (i := 956) (by decide +kernel), List.mem_of_getElem? (i := 1036) (by decide +kernel), List.mem_of_getElem? (i := 1037) (by decide +kernel)⟩
theorem lw_p31 : lw_okq (⟨"DigitMillModel", "rootOf", "(II)V"⟩, 10) := ⟨⟨by decide +kernel, by decide +kernel⟩, List.mem_of_getElem? (i := 956) (by decide +kernel), List.mem_of_getElem? (i := 1041) (by decide +kernel), List.mem_of_getElem? (i := 1042) (by decide +kernel)⟩
def lw_privs_2 : List (MethodName × Nat) := [(⟨"DigitMill$Series", "gather", "()V"⟩, 5), (⟨"DigitMill$Series", "sumE", "()V"⟩, 5), (⟨"DigitMill$Series", "sumLogTwo", "()V"⟩, 5), (⟨"DigitMill$Series", "sumCubes", "()V"⟩, 5), (⟨"DigitMill$Series", "settle", "(I)V"⟩, 5), (⟨"DigitMill$Bench", "quotientLimb", "(I)I"⟩, 3), (⟨"DigitMill", "digitSum", "()I"⟩, 4), (⟨"DigitMillModel", "isWrong", "(ZII)Z"⟩, 10), (⟨"DigitMillModel", "fails", "(ZI)Z"⟩, 10), (⟨"DigitMillModel", "golden", "(II)V"⟩, 10), (⟨"DigitMillModel", "power", "(III)V"⟩, 10), (⟨"DigitMillModel", "set", "(IJ)V"⟩, 10), (⟨"DigitMillModel", "grow", "(IJJ)V"⟩, 10), (⟨"DigitMillModel", "at", "(II)I"⟩, 10), (⟨"DigitMillModel", "trim", "(I)V"⟩, 10), (⟨"DigitMillModel", "rootOf", "(II)V"⟩, 10)]
theorem lw_r2 : ∀ q ∈ lw_privs_2, lw_okq q := List.forall_mem_cons.mpr ⟨lw_p16, List.forall_mem_cons.mpr ⟨lw_p17, List.forall_mem_cons.mpr ⟨lw_p18, List.forall_mem_cons.mpr ⟨lw_p19, List.forall_mem_cons.mpr ⟨lw_p20, List.forall_mem_cons.mpr ⟨lw_p21, List.forall_mem_cons.mpr ⟨lw_p22, List.forall_mem_cons.mpr ⟨lw_p23, List.forall_mem_cons.mpr ⟨lw_p24, List.forall_mem_cons.mpr ⟨lw_p25, List.forall_mem_cons.mpr ⟨lw_p26, List.forall_mem_cons.mpr ⟨lw_p27, List.forall_mem_cons.mpr ⟨lw_p28, List.forall_mem_cons.mpr ⟨lw_p29, List.forall_mem_cons.mpr ⟨lw_p30, List.forall_mem_cons.mpr ⟨lw_p31, fun _ h => absurd h List.not_mem_nil⟩⟩⟩⟩⟩⟩⟩⟩⟩⟩⟩⟩⟩⟩⟩⟩
theorem lw_p32 : lw_okq (⟨"DigitMillModel", "shift", "(II)V"⟩, 10) := ⟨⟨by decide +kernel, by decide +kernel⟩, List.mem_of_getElem? (i := 956) (by decide +kernel), List.mem_of_getElem? (i := 1046) (by decide +kernel), List.mem_of_getElem? (i := 1047) (by decide +kernel)⟩
theorem lw_p33 : lw_okq (⟨"DigitMillModel", "copy", "(II)V"⟩, 10) := ⟨⟨by decide +kernel, by decide +kernel⟩, List.mem_of_getElem? (i := 956) (by decide +kernel), List.mem_of_getElem? (i := 1050) (by decide +kernel), List.mem_of_getElem? (i := 1051) (by decide +kernel)⟩
theorem lw_p34 : lw_okq (⟨"DigitMillModel", "leading", "(II)J"⟩, 10) := ⟨⟨by decide +kernel, by decide +kernel⟩, List.mem_of_getElem? (i := 956) (by decide +kernel), List.mem_of_getElem? (i := 1055) (by decide +kernel), List.mem_of_getElem? (i := 1056) (by decide +kernel)⟩
theorem lw_p35 : lw_okq (⟨"DigitMillModel", "greatest", "(JJ)J"⟩, 10) := ⟨⟨by decide +kernel, by decide +kernel⟩, List.mem_of_getElem? (i := 956) (by decide +kernel), List.mem_of_getElem? (i := 1061) (by decide +kernel), List.mem_of_getElem? (i := 1062) (by decide +kernel)⟩
theorem lw_p36 : lw_okq (⟨"DigitMillModel", "order", "(II)I"⟩, 10) := ⟨⟨by decide +kernel, by decide +kernel⟩, List.mem_of_getElem? (i := 956) (by decide +kernel), List.mem_of_getElem? (i := 1065) (by decide +kernel), List.mem_of_getElem? (i := 1066) (by decide +kernel)⟩
theorem lw_p37 : lw_okq (⟨"DigitMillModel", "lessTimes", "(IIJ)V"⟩, 10) := ⟨⟨by decide +kernel, by decide +kernel⟩, List.mem_of_getElem? (i := 956) (by decide +kernel), List.mem_of_getElem? (i := 1069) (by decide +kernel), List.mem_of_getElem? (i := 1070) (by decide +kernel)⟩
theorem lw_p38 : lw_okq (⟨"DigitMillModel", "addTimes", "(IIJ)V"⟩, 10) := ⟨⟨by decide +kernel, by decide +kernel⟩, List.mem_of_getElem? (i := 956) (by decide +kernel), List.mem_of_getElem? (i := 1073) (by decide +kernel), List.mem_of_getElem? (i := 1074) (by decide +kernel)⟩
theorem lw_p39 : lw_okq (⟨"DigitMillModel", "lower", "(IJ)V"⟩, 10) := ⟨⟨by decide +kernel, by decide +kernel⟩, List.mem_of_getElem? (i := 956) (by decide +kernel), List.mem_of_getElem? (i := 1077) (by decide +kernel), List.mem_of_getElem? (i := 1078) (by decide +kernel)⟩
theorem lw_p40 : lw_okq (⟨"DigitMillModel", "constant", "(III)V"⟩, 10) := ⟨⟨by decide +kernel, by decide +kernel⟩, List.mem_of_getElem? (i := 956) (by decide +kernel), List.mem_of_getElem? (i := 1081) (by decide +kernel), List.mem_of_getElem? (i := 1082) (by decide +kernel)⟩
theorem lw_p41 : lw_okq (⟨"DigitMillModel", "arcs", "()I"⟩, 10) := ⟨⟨by decide +kernel, by decide +kernel⟩, List.mem_of_getElem? (i := 956) (by decide +kernel), List.mem_of_getElem? (i := 1085) (by decide +kernel), List.mem_of_getElem? (i := 1086) (by decide +kernel)⟩
theorem lw_p42 : lw_okq (⟨"DigitMillModel", "arc", "(JJZ)I"⟩, 10) := ⟨⟨by decide +kernel, by decide +kernel⟩, List.mem_of_getElem? (i := 956) (by decide +kernel), List.mem_of_getElem? (i := 1090) (by decide +kernel), List.mem_of_getElem? (i := 1091) (by decide +kernel)⟩
theorem lw_p43 : lw_okq (⟨"DigitMillModel", "factorials", "()I"⟩, 10) := ⟨⟨by decide +kernel, by decide +kernel⟩, List.mem_of_getElem? (i := 956) (by decide +kernel), List.mem_of_getElem? (i := 1096) (by decide +kernel), List.mem_of_getElem? (i := 1097) (by decide +kernel)⟩
theorem lw_p44 : lw_okq (⟨"DigitMillModel", "halves", "()I"⟩, 10) := ⟨⟨by decide +kernel, by decide +kernel⟩, List.mem_of_getElem? (i := 956) (by decide +kernel), List.mem_of_getElem? (i := 1100) (by decide +kernel), List.mem_of_getElem? (i := 1101) (by decide +kernel)⟩
theorem lw_p45 : lw_okq (⟨"DigitMillModel", "cubes", "()I"⟩, 10) := ⟨⟨by decide +kernel, by decide +kernel⟩, List.mem_of_getElem? (i := 956) (by decide +kernel), List.mem_of_getElem? (i := 1104) (by decide +kernel), List.mem_of_getElem? (i := 1105) (by decide +kernel)⟩
theorem lw_p46 : lw_okq (⟨"DigitMillModel", "told", "(I)I"⟩, 10) := ⟨⟨by decide +kernel, by decide +kernel⟩, List.mem_of_getElem? (i := 956) (by decide +kernel), List.mem_of_getElem? (i := 1109) (by decide +kernel), List.mem_of_getElem? (i := 1110) (by decide +kernel)⟩
theorem lw_p47 : lw_okq (⟨"DigitMillModel", "howMany", "()I"⟩, 10) := ⟨⟨by decide +kernel, by decide +kernel⟩, List.mem_of_getElem? (i := 956) (by decide +kernel), List.mem_of_getElem? (i := 1113) (by decide +kernel), List.mem_of_getElem? (i := 1114) (by decide +kernel)⟩
def lw_privs_3 : List (MethodName × Nat) := [(⟨"DigitMillModel", "shift", "(II)V"⟩, 10), (⟨"DigitMillModel", "copy", "(II)V"⟩, 10), (⟨"DigitMillModel", "leading", "(II)J"⟩, 10), (⟨"DigitMillModel", "greatest", "(JJ)J"⟩, 10), (⟨"DigitMillModel", "order", "(II)I"⟩, 10), (⟨"DigitMillModel", "lessTimes", "(IIJ)V"⟩, 10), (⟨"DigitMillModel", "addTimes", "(IIJ)V"⟩, 10), (⟨"DigitMillModel", "lower", "(IJ)V"⟩, 10), (⟨"DigitMillModel", "constant", "(III)V"⟩, 10), (⟨"DigitMillModel", "arcs", "()I"⟩, 10), (⟨"DigitMillModel", "arc", "(JJZ)I"⟩, 10), (⟨"DigitMillModel", "factorials", "()I"⟩, 10), (⟨"DigitMillModel", "halves", "()I"⟩, 10), (⟨"DigitMillModel", "cubes", "()I"⟩, 10), (⟨"DigitMillModel", "told", "(I)I"⟩, 10), (⟨"DigitMillModel", "howMany", "()I"⟩, 10)]
theorem lw_r3 : ∀ q ∈ lw_privs_3, lw_okq q := List.forall_mem_cons.mpr ⟨lw_p32, List.forall_mem_cons.mpr ⟨lw_p33, List.forall_mem_cons.mpr ⟨lw_p34, List.forall_mem_cons.mpr ⟨lw_p35, List.forall_mem_cons.mpr ⟨lw_p36, List.forall_mem_cons.mpr ⟨lw_p37, List.forall_mem_cons.mpr ⟨lw_p38, List.forall_mem_cons.mpr ⟨lw_p39, List.forall_mem_cons.mpr ⟨lw_p40, List.forall_mem_cons.mpr ⟨lw_p41, List.forall_mem_cons.mpr ⟨lw_p42, List.forall_mem_cons.mpr ⟨lw_p43, List.forall_mem_cons.mpr ⟨lw_p44, List.forall_mem_cons.mpr ⟨lw_p45, List.forall_mem_cons.mpr ⟨lw_p46, List.forall_mem_cons.mpr ⟨lw_p47, fun _ h => absurd h List.not_mem_nil⟩⟩⟩⟩⟩⟩⟩⟩⟩⟩⟩⟩⟩⟩⟩⟩
theorem lw_p48 : lw_okq (⟨"DigitMillModel", "tell", "()V"⟩, 10) := ⟨⟨by decide +kernel, by decide +kernel⟩, List.mem_of_getElem? (i := 956) (by decide +kernel), List.mem_of_getElem? (i := 1117) (by decide +kernel), List.mem_of_getElem? (i := 1118) (by decide +kernel)⟩
theorem lw_p49 : lw_okq (⟨"DigitMillModel", "product", "(III)V"⟩, 10) := ⟨⟨by decide +kernel, by decide +kernel⟩, List.mem_of_getElem? (i := 956) (by decide +kernel), List.mem_of_getElem? (i := 1126) (by decide +kernel), List.mem_of_getElem? (i := 1127) (by decide +kernel)⟩
theorem lw_p50 : lw_okq (⟨"DigitMillModel", "quotient", "(III)V"⟩, 10) := ⟨⟨by decide +kernel, by decide +kernel⟩, List.mem_of_getElem? (i := 956) (by decide +kernel), List.mem_of_getElem? (i := 1134) (by decide +kernel), List.mem_of_getElem? (i := 1135) (by decide +kernel)⟩
theorem lw_p51 : lw_okq (⟨"DigitMillModel", "become", "(II)I"⟩, 10) := ⟨⟨by decide +kernel, by decide +kernel⟩, List.mem_of_getElem? (i := 956) (by decide +kernel), List.mem_of_getElem? (i := 1146) (by decide +kernel), List.mem_of_getElem? (i := 1147) (by decide +kernel)⟩
theorem lw_p52 : lw_okq (⟨"DigitMillModel", "length", "(I)I"⟩, 10) := ⟨⟨by decide +kernel, by decide +kernel⟩, List.mem_of_getElem? (i := 956) (by decide +kernel), List.mem_of_getElem? (i := 1150) (by decide +kernel), List.mem_of_getElem? (i := 1151) (by decide +kernel)⟩
def lw_privs_4 : List (MethodName × Nat) := [(⟨"DigitMillModel", "tell", "()V"⟩, 10), (⟨"DigitMillModel", "product", "(III)V"⟩, 10), (⟨"DigitMillModel", "quotient", "(III)V"⟩, 10), (⟨"DigitMillModel", "become", "(II)I"⟩, 10), (⟨"DigitMillModel", "length", "(I)I"⟩, 10)]
theorem lw_r4 : ∀ q ∈ lw_privs_4, lw_okq q := List.forall_mem_cons.mpr ⟨lw_p48, List.forall_mem_cons.mpr ⟨lw_p49, List.forall_mem_cons.mpr ⟨lw_p50, List.forall_mem_cons.mpr ⟨lw_p51, List.forall_mem_cons.mpr ⟨lw_p52, fun _ h => absurd h List.not_mem_nil⟩⟩⟩⟩⟩
def lw_privs : List (MethodName × Nat) := lw_privs_1 ++ (lw_privs_2 ++ (lw_privs_3 ++ (lw_privs_4)))
def lw_tbl : List Cond := k2_sels lw_privs ++ tables_1
theorem lw_privs_ok : ∀ q ∈ lw_privs, lw_okq q := by
  show ∀ q ∈ lw_privs_1 ++ (lw_privs_2 ++ (lw_privs_3 ++ (lw_privs_4))), lw_okq q
  exact List.forall_mem_append.mpr ⟨lw_r1, List.forall_mem_append.mpr ⟨lw_r2, List.forall_mem_append.mpr ⟨lw_r3, lw_r4⟩⟩⟩
end
section
def R_B : String := "DigitMill$Bench"
def F_B : u_T := fun k => match k with
  | 0 => ("DigitMill$Bench", "left", "LDigitMill$Whole;", true)
  | 1 => ("DigitMill$Bench", "right", "LDigitMill$Whole;", true)
  | _ => ("DigitMill$Bench", "result", "LDigitMill$Whole;", true)
def ft_B : Nat → FieldType := fun k => match k with
  | 0 => .object "DigitMill$Whole"
  | 1 => .object "DigitMill$Whole"
  | _ => .object "DigitMill$Whole"
theorem n_B : ∀ a, a < 3 → ∀ b, b < 3 → a ≠ b → (F_B a).2.1 ≠ (F_B b).2.1 := by decide +kernel
theorem ft_B_ok : ∀ k, k < 3 → parseFieldDescriptor (F_B k).2.2.1 = some (ft_B k) := by decide +kernel
def R_S : String := "DigitMill$Series"
def F_S : u_T := fun k => match k with
  | 0 => ("DigitMill$Series", "rows", "[[I", true)
  | 1 => ("DigitMill$Series", "depths", "[I", true)
  | 2 => ("DigitMill$Series", "work", "[J", true)
  | 3 => ("DigitMill$Series", "sum", "[J", true)
  | _ => ("DigitMill$Series", "depth", "I", false)
def ft_S : Nat → FieldType := fun k => match k with
  | 0 => .array (.array .int)
  | 1 => .array .int
  | 2 => .array .long
  | 3 => .array .long
  | _ => .int
theorem n_S : ∀ a, a < 5 → ∀ b, b < 5 → a ≠ b → (F_S a).2.1 ≠ (F_S b).2.1 := by decide +kernel
theorem ft_S_ok : ∀ k, k < 5 → parseFieldDescriptor (F_S k).2.2.1 = some (ft_S k) := by decide +kernel
def R_T : String := "DigitMill$Text"
def F_T : u_T := fun k => match k with
  | 0 => ("DigitMill$Text", "whole", "LDigitMill$Whole;", true)
  | 1 => ("DigitMill$Text", "base", "I", false)
  | 2 => ("DigitMill$Text", "groups", "[I", true)
  | 3 => ("DigitMill$Text", "groupsUsed", "I", false)
  | 4 => ("DigitMill$Text", "perGroup", "I", false)
  | 5 => ("DigitMill$Text", "powers", "[I", true)
  | 6 => ("DigitMill$Text", "digits", "I", false)
  | _ => ("DigitMill$Text", "told", "Z", false)
def ft_T : Nat → FieldType := fun k => match k with
  | 0 => .object "DigitMill$Whole"
  | 1 => .int
  | 2 => .array .int
  | 3 => .int
  | 4 => .int
  | 5 => .array .int
  | 6 => .int
  | _ => .boolean
theorem n_T : ∀ a, a < 8 → ∀ b, b < 8 → a ≠ b → (F_T a).2.1 ≠ (F_T b).2.1 := by decide +kernel
theorem ft_T_ok : ∀ k, k < 8 → parseFieldDescriptor (F_T k).2.2.1 = some (ft_T k) := by decide +kernel
def R_H : String := "DigitMill$Whole"
def F_H : u_T := fun k => match k with
  | 0 => ("DigitMill$Whole", "limbs", "[I", true)
  | _ => ("DigitMill$Whole", "size", "I", false)
def ft_H : Nat → FieldType := fun k => match k with
  | 0 => .array .int
  | _ => .int
theorem n_H : ∀ a, a < 2 → ∀ b, b < 2 → a ≠ b → (F_H a).2.1 ≠ (F_H b).2.1 := by decide +kernel
theorem ft_H_ok : ∀ k, k < 2 → parseFieldDescriptor (F_H k).2.2.1 = some (ft_H k) := by decide +kernel
def R_D : String := "DigitMill"
def F_D : u_T := fun k => match k with
  | 0 => ("DigitMill", "text", "LDigitMill$Text;", false)
  | 1 => ("DigitMill", "other", "LDigitMill$Text;", false)
  | 2 => ("DigitMill", "bench", "LDigitMill$Bench;", true)
  | _ => ("DigitMill", "series", "LDigitMill$Series;", true)
def ft_D : Nat → FieldType := fun k => match k with
  | 0 => .object "DigitMill$Text"
  | 1 => .object "DigitMill$Text"
  | 2 => .object "DigitMill$Bench"
  | _ => .object "DigitMill$Series"
theorem n_D : ∀ a, a < 4 → ∀ b, b < 4 → a ≠ b → (F_D a).2.1 ≠ (F_D b).2.1 := by decide +kernel
theorem ft_D_ok : ∀ k, k < 4 → parseFieldDescriptor (F_D k).2.2.1 = some (ft_D k) := by decide +kernel
def R_M : String := "DigitMillModel"
def F_M : u_T := fun k => match k with
  | 0 => ("DigitMillModel", "d", "[I", true)
  | 1 => ("DigitMillModel", "n", "[I", true)
  | 2 => ("DigitMillModel", "base", "I", false)
  | 3 => ("DigitMillModel", "otherBase", "I", false)
  | 4 => ("DigitMillModel", "digits", "[I", true)
  | 5 => ("DigitMillModel", "many", "I", false)
  | 6 => ("DigitMillModel", "known", "Z", false)
  | 7 => ("DigitMillModel", "wanted", "[I", true)
  | 8 => ("DigitMillModel", "thrown", "I", false)
  | _ => ("DigitMillModel", "left", "J", false)
def ft_M : Nat → FieldType := fun k => match k with
  | 0 => .array .int
  | 1 => .array .int
  | 2 => .int
  | 3 => .int
  | 4 => .array .int
  | 5 => .int
  | 6 => .boolean
  | 7 => .array .int
  | 8 => .int
  | _ => .long
theorem n_M : ∀ a, a < 10 → ∀ b, b < 10 → a ≠ b → (F_M a).2.1 ≠ (F_M b).2.1 := by decide +kernel
theorem ft_M_ok : ∀ k, k < 10 → parseFieldDescriptor (F_M k).2.2.1 = some (ft_M k) := by decide +kernel
abbrev clz : List vw_C := [(R_B, F_B, 3), (R_S, F_S, 5), (R_T, F_T, 8), (R_H, F_H, 2), (R_D, F_D, 4), (R_M, F_M, 10)]
def R_L : String := "DigitMillLaw"
def zGood (w : Cond) : Bool := goodWord w
def TT : List Cond := lw_tbl.filter goodWord
def zNest : Cond → Bool
  | .fieldLinkNest .. => true
  | .methodLinkNest .. => true
  | _ => false
def NT : List Cond := lw_tbl.filter zNest
theorem tt_of {w : Cond} (i : Nat) (h : lw_tbl[i]? = some w) (g : goodWord w = true) : w ∈ TT := List.mem_filter.mpr ⟨List.mem_of_getElem? h, g⟩
theorem nt_of {w : Cond} (i : Nat) (h : lw_tbl[i]? = some w) (g : zNest w = true) : w ∈ NT := List.mem_filter.mpr ⟨List.mem_of_getElem? h, g⟩
abbrev c_D_init : ByteArray := prog_1_method_1_code
def y_D_init : MethodName := ⟨"DigitMill", "<init>", "()V"⟩
abbrev c_T_init : ByteArray := prog_4_method_1_code
def y_T_init : MethodName := ⟨"DigitMill$Text", "<init>", "()V"⟩
abbrev c_H_init : ByteArray := prog_5_method_1_code
def y_H_init : MethodName := ⟨"DigitMill$Whole", "<init>", "(I)V"⟩
abbrev c_T_setPowers : ByteArray := prog_4_method_9_code
def y_T_setPowers : MethodName := ⟨"DigitMill$Text", "setPowers", "()V"⟩
abbrev c_D_digitsPerGroup : ByteArray := prog_1_method_27_code
def y_D_digitsPerGroup : MethodName := ⟨"DigitMill", "digitsPerGroup", "(I)I"⟩
abbrev c_B_init : ByteArray := prog_2_method_1_code
def y_B_init : MethodName := ⟨"DigitMill$Bench", "<init>", "()V"⟩
abbrev c_S_init : ByteArray := prog_3_method_1_code
def y_S_init : MethodName := ⟨"DigitMill$Series", "<init>", "()V"⟩
abbrev c_D_keep : ByteArray := prog_1_method_7_code
def y_D_keep : MethodName := ⟨"DigitMill", "keep", "()V"⟩
abbrev c_T_copyText : ByteArray := prog_4_method_4_code
def y_T_copyText : MethodName := ⟨"DigitMill$Text", "copyText", "(LDigitMill$Text;)V"⟩
abbrev c_T_replace : ByteArray := prog_4_method_2_code
def y_T_replace : MethodName := ⟨"DigitMill$Text", "replace", "(LDigitMill$Whole;I)V"⟩
abbrev c_H_copy : ByteArray := prog_5_method_3_code
def y_H_copy : MethodName := ⟨"DigitMill$Whole", "copy", "(LDigitMill$Whole;)V"⟩
abbrev c_H_load : ByteArray := prog_5_method_4_code
def y_H_load : MethodName := ⟨"DigitMill$Whole", "load", "([II)V"⟩
abbrev c_H_trim : ByteArray := prog_5_method_22_code
def y_H_trim : MethodName := ⟨"DigitMill$Whole", "trim", "()V"⟩
abbrev c_T_changeBase : ByteArray := prog_4_method_3_code
def y_T_changeBase : MethodName := ⟨"DigitMill$Text", "changeBase", "(I)V"⟩
abbrev c_D_swap : ByteArray := prog_1_method_8_code
def y_D_swap : MethodName := ⟨"DigitMill", "swap", "()I"⟩
abbrev c_D_digits : ByteArray := prog_1_method_29_code
def y_D_digits : MethodName := ⟨"DigitMill", "digits", "()I"⟩
abbrev c_T_tell : ByteArray := prog_4_method_5_code
def y_T_tell : MethodName := ⟨"DigitMill$Text", "tell", "(LDigitMill$Whole;)V"⟩
abbrev c_H_shrink : ByteArray := prog_5_method_10_code
def y_H_shrink : MethodName := ⟨"DigitMill$Whole", "shrink", "(I)I"⟩
abbrev c_JM_max : ByteArray := prog_16_method_65_code
def y_JM_max : MethodName := ⟨"java/lang/Math", "max", "(II)I"⟩
abbrev c_T_measure : ByteArray := prog_4_method_10_code
def y_T_measure : MethodName := ⟨"DigitMill$Text", "measure", "()V"⟩
abbrev c_D_rooted : ByteArray := prog_1_method_13_code
def y_D_rooted : MethodName := ⟨"DigitMill", "rooted", "()I"⟩
abbrev c_B_extractRoot : ByteArray := prog_2_method_6_code
def y_B_extractRoot : MethodName := ⟨"DigitMill$Bench", "extractRoot", "()V"⟩
abbrev c_H_length : ByteArray := prog_5_method_5_code
def y_H_length : MethodName := ⟨"DigitMill$Whole", "length", "()I"⟩
abbrev c_D_bitsOf : ByteArray := prog_1_method_25_code
def y_D_bitsOf : MethodName := ⟨"DigitMill", "bitsOf", "(I)I"⟩
abbrev c_JI_numberOfLeadingZeros : ByteArray := prog_15_method_47_code
def y_JI_numberOfLeadingZeros : MethodName := ⟨"java/lang/Integer", "numberOfLeadingZeros", "(I)I"⟩
abbrev c_H_zero : ByteArray := prog_5_method_19_code
def y_H_zero : MethodName := ⟨"DigitMill$Whole", "zero", "(I)V"⟩
abbrev c_JA_fillI : ByteArray := prog_25_method_104_code
def y_JA_fillI : MethodName := ⟨"java/util/Arrays", "fill", "([IIII)V"⟩
abbrev c_JA_rangeCheck : ByteArray := prog_25_method_30_code
def y_JA_rangeCheck : MethodName := ⟨"java/util/Arrays", "rangeCheck", "(III)V"⟩
abbrev c_JA_copyOf : ByteArray := prog_25_method_121_code
def y_JA_copyOf : MethodName := ⟨"java/util/Arrays", "copyOf", "([BI)[B"⟩
abbrev c_JI_stringSize : ByteArray := prog_15_method_13_code
def y_JI_stringSize : MethodName := ⟨"java/lang/Integer", "stringSize", "(I)I"⟩
abbrev c_JI_getChars : ByteArray := prog_15_method_12_code
def y_JI_getChars : MethodName := ⟨"java/lang/Integer", "getChars", "(II[B)I"⟩
abbrev c_JA_copyOfRange : ByteArray := prog_25_method_132_code
def y_JA_copyOfRange : MethodName := ⟨"java/util/Arrays", "copyOfRange", "([BII)[B"⟩
abbrev c_JA_copyOfRangeByte : ByteArray := prog_25_method_133_code
def y_JA_copyOfRangeByte : MethodName := ⟨"java/util/Arrays", "copyOfRangeByte", "([BII)[B"⟩
abbrev c_JA_checkLength : ByteArray := prog_25_method_131_code
def y_JA_checkLength : MethodName := ⟨"java/util/Arrays", "checkLength", "(II)V"⟩
abbrev c_H_lift : ByteArray := prog_5_method_13_code
def y_H_lift : MethodName := ⟨"DigitMill$Whole", "lift", "(I)V"⟩
abbrev c_H_scale : ByteArray := prog_5_method_9_code
def y_H_scale : MethodName := ⟨"DigitMill$Whole", "scale", "(II)V"⟩
abbrev c_H_append : ByteArray := prog_5_method_21_code
def y_H_append : MethodName := ⟨"DigitMill$Whole", "append", "(I)V"⟩
abbrev c_B_takeFirstRootLimb : ByteArray := prog_2_method_7_code
def y_B_takeFirstRootLimb : MethodName := ⟨"DigitMill$Bench", "takeFirstRootLimb", "(I)V"⟩
abbrev c_B_setTwice : ByteArray := prog_2_method_9_code
def y_B_setTwice : MethodName := ⟨"DigitMill$Bench", "setTwice", "(IJ)V"⟩
abbrev c_B_takeRootLimb : ByteArray := prog_2_method_8_code
def y_B_takeRootLimb : MethodName := ⟨"DigitMill$Bench", "takeRootLimb", "(II)V"⟩
abbrev c_H_takeAway : ByteArray := prog_5_method_16_code
def y_H_takeAway : MethodName := ⟨"DigitMill$Whole", "takeAway", "(ILDigitMill$Whole;IIJ)I"⟩
abbrev c_H_lower : ByteArray := prog_5_method_14_code
def y_H_lower : MethodName := ⟨"DigitMill$Whole", "lower", "(I)V"⟩
abbrev c_H_drop : ByteArray := prog_5_method_15_code
def y_H_drop : MethodName := ⟨"DigitMill$Whole", "drop", "(I)V"⟩
abbrev c_D_retell : ByteArray := prog_1_method_28_code
def y_D_retell : MethodName := ⟨"DigitMill", "retell", "(LDigitMill$Whole;I)I"⟩
abbrev c_D_compare : ByteArray := prog_1_method_19_code
def y_D_compare : MethodName := ⟨"DigitMill", "compare", "()I"⟩
abbrev c_H_order : ByteArray := prog_5_method_6_code
def y_H_order : MethodName := ⟨"DigitMill$Whole", "order", "(LDigitMill$Whole;)I"⟩
abbrev c_L_mill : ByteArray := method_3_code
def y_L_mill : MethodName := ⟨"DigitMillLaw", "mill", "(LDigitMill;III[J)I"⟩
abbrev c_D_mill : ByteArray := prog_1_method_2_code
def y_D_mill : MethodName := ⟨"DigitMill", "mill", "(III)I"⟩
abbrev c_D_refuseWrongPlaces : ByteArray := prog_1_method_21_code
def y_D_refuseWrongPlaces : MethodName := ⟨"DigitMill", "refuseWrongPlaces", "(II)V"⟩
abbrev c_D_refuseWrongBase : ByteArray := prog_1_method_20_code
def y_D_refuseWrongBase : MethodName := ⟨"DigitMill", "refuseWrongBase", "(I)V"⟩
abbrev c_D_refuseTooManyPlaces : ByteArray := prog_1_method_22_code
def y_D_refuseTooManyPlaces : MethodName := ⟨"DigitMill", "refuseTooManyPlaces", "(II)V"⟩
abbrev c_D_bitsPerDigit : ByteArray := prog_1_method_24_code
def y_D_bitsPerDigit : MethodName := ⟨"DigitMill", "bitsPerDigit", "(I)I"⟩
abbrev c_B_makeGolden : ByteArray := prog_2_method_3_code
def y_B_makeGolden : MethodName := ⟨"DigitMill$Bench", "makeGolden", "(II)V"⟩
abbrev c_B_makeRoot : ByteArray := prog_2_method_2_code
def y_B_makeRoot : MethodName := ⟨"DigitMill$Bench", "makeRoot", "(JII)V"⟩
abbrev c_H_assign : ByteArray := prog_5_method_2_code
def y_H_assign : MethodName := ⟨"DigitMill$Whole", "assign", "(J)V"⟩
abbrev c_H_raise : ByteArray := prog_5_method_11_code
def y_H_raise : MethodName := ⟨"DigitMill$Whole", "raise", "(II)V"⟩
abbrev c_D_power : ByteArray := prog_1_method_26_code
def y_D_power : MethodName := ⟨"DigitMill", "power", "(II)J"⟩
abbrev c_H_increase : ByteArray := prog_5_method_7_code
def y_H_increase : MethodName := ⟨"DigitMill$Whole", "increase", "(LDigitMill$Whole;)V"⟩
abbrev c_H_limbAt : ByteArray := prog_5_method_18_code
def y_H_limbAt : MethodName := ⟨"DigitMill$Whole", "limbAt", "(I)I"⟩
abbrev c_D_makeConstant : ByteArray := prog_1_method_31_code
def y_D_makeConstant : MethodName := ⟨"DigitMill", "makeConstant", "(III)V"⟩
abbrev c_S_reach : ByteArray := prog_3_method_3_code
def y_S_reach : MethodName := ⟨"DigitMill$Series", "reach", "(II)I"⟩
abbrev c_JA_fillJ : ByteArray := prog_25_method_101_code
def y_JA_fillJ : MethodName := ⟨"java/util/Arrays", "fill", "([JJ)V"⟩
abbrev c_S_sumUp : ByteArray := prog_3_method_4_code
def y_S_sumUp : MethodName := ⟨"DigitMill$Series", "sumUp", "(I)V"⟩
abbrev c_S_sumPi : ByteArray := prog_3_method_5_code
def y_S_sumPi : MethodName := ⟨"DigitMill$Series", "sumPi", "()V"⟩
abbrev c_S_foldArctan : ByteArray := prog_3_method_6_code
def y_S_foldArctan : MethodName := ⟨"DigitMill$Series", "foldArctan", "(II)V"⟩
abbrev c_S_begin : ByteArray := prog_3_method_12_code
def y_S_begin : MethodName := ⟨"DigitMill$Series", "begin", "()V"⟩
abbrev c_S_bitsNeeded : ByteArray := prog_3_method_10_code
def y_S_bitsNeeded : MethodName := ⟨"DigitMill$Series", "bitsNeeded", "()I"⟩
abbrev c_S_lowest : ByteArray := prog_3_method_11_code
def y_S_lowest : MethodName := ⟨"DigitMill$Series", "lowest", "(I)I"⟩
abbrev c_S_fold : ByteArray := prog_3_method_13_code
def y_S_fold : MethodName := ⟨"DigitMill$Series", "fold", "(III)V"⟩
abbrev c_S_gather : ByteArray := prog_3_method_14_code
def y_S_gather : MethodName := ⟨"DigitMill$Series", "gather", "()V"⟩
abbrev c_S_sumE : ByteArray := prog_3_method_7_code
def y_S_sumE : MethodName := ⟨"DigitMill$Series", "sumE", "()V"⟩
abbrev c_S_sumLogTwo : ByteArray := prog_3_method_8_code
def y_S_sumLogTwo : MethodName := ⟨"DigitMill$Series", "sumLogTwo", "()V"⟩
abbrev c_S_sumCubes : ByteArray := prog_3_method_9_code
def y_S_sumCubes : MethodName := ⟨"DigitMill$Series", "sumCubes", "()V"⟩
abbrev c_S_settle : ByteArray := prog_3_method_15_code
def y_S_settle : MethodName := ⟨"DigitMill$Series", "settle", "(I)V"⟩
abbrev c_S_row : ByteArray := prog_3_method_2_code
def y_S_row : MethodName := ⟨"DigitMill$Series", "row", "(I)[I"⟩
abbrev c_H_absorbsCarry : ByteArray := prog_5_method_17_code
def y_H_absorbsCarry : MethodName := ⟨"DigitMill$Whole", "absorbsCarry", "(II)Z"⟩
abbrev c_L_root : ByteArray := method_4_code
def y_L_root : MethodName := ⟨"DigitMillLaw", "root", "(LDigitMill;JII[J)I"⟩
abbrev c_D_root : ByteArray := prog_1_method_3_code
def y_D_root : MethodName := ⟨"DigitMill", "root", "(JII)I"⟩
abbrev c_L_over : ByteArray := method_5_code
def y_L_over : MethodName := ⟨"DigitMillLaw", "over", "(LDigitMill;JJII[J)I"⟩
abbrev c_D_over : ByteArray := prog_1_method_4_code
def y_D_over : MethodName := ⟨"DigitMill", "over", "(JJII)I"⟩
abbrev c_B_makeQuotient : ByteArray := prog_2_method_4_code
def y_B_makeQuotient : MethodName := ⟨"DigitMill$Bench", "makeQuotient", "()V"⟩
abbrev c_H_openTop : ByteArray := prog_5_method_20_code
def y_H_openTop : MethodName := ⟨"DigitMill$Whole", "openTop", "()V"⟩
abbrev c_B_quotientLimb : ByteArray := prog_2_method_5_code
def y_B_quotientLimb : MethodName := ⟨"DigitMill$Bench", "quotientLimb", "(I)I"⟩
abbrev c_L_number : ByteArray := method_6_code
def y_L_number : MethodName := ⟨"DigitMillLaw", "number", "(LDigitMill;JI[J)I"⟩
abbrev c_D_number : ByteArray := prog_1_method_5_code
def y_D_number : MethodName := ⟨"DigitMill", "number", "(JI)I"⟩
abbrev c_L_push : ByteArray := method_7_code
def y_L_push : MethodName := ⟨"DigitMillLaw", "push", "(LDigitMill;I[J)I"⟩
abbrev c_D_push : ByteArray := prog_1_method_6_code
def y_D_push : MethodName := ⟨"DigitMill", "push", "(I)I"⟩
abbrev c_D_refuseTooLong : ByteArray := prog_1_method_23_code
def y_D_refuseTooLong : MethodName := ⟨"DigitMill", "refuseTooLong", "(LDigitMill$Whole;)V"⟩
abbrev c_T_shiftIn : ByteArray := prog_4_method_6_code
def y_T_shiftIn : MethodName := ⟨"DigitMill$Text", "shiftIn", "(I)V"⟩
abbrev c_L_add : ByteArray := method_8_code
def y_L_add : MethodName := ⟨"DigitMillLaw", "add", "(LDigitMill;[J)I"⟩
abbrev c_D_add : ByteArray := prog_1_method_9_code
def y_D_add : MethodName := ⟨"DigitMill", "add", "()I"⟩
abbrev c_L_subtract : ByteArray := method_9_code
def y_L_subtract : MethodName := ⟨"DigitMillLaw", "subtract", "(LDigitMill;[J)I"⟩
abbrev c_D_subtract : ByteArray := prog_1_method_10_code
def y_D_subtract : MethodName := ⟨"DigitMill", "subtract", "()I"⟩
abbrev c_H_decrease : ByteArray := prog_5_method_8_code
def y_H_decrease : MethodName := ⟨"DigitMill$Whole", "decrease", "(LDigitMill$Whole;)V"⟩
abbrev c_L_times : ByteArray := method_10_code
def y_L_times : MethodName := ⟨"DigitMillLaw", "times", "(LDigitMill;[J)I"⟩
abbrev c_D_times : ByteArray := prog_1_method_11_code
def y_D_times : MethodName := ⟨"DigitMill", "times", "()I"⟩
abbrev c_H_multiply : ByteArray := prog_5_method_12_code
def y_H_multiply : MethodName := ⟨"DigitMill$Whole", "multiply", "(LDigitMill$Whole;LDigitMill$Whole;)V"⟩
abbrev c_L_divide : ByteArray := method_11_code
def y_L_divide : MethodName := ⟨"DigitMillLaw", "divide", "(LDigitMill;[J)I"⟩
abbrev c_D_divide : ByteArray := prog_1_method_12_code
def y_D_divide : MethodName := ⟨"DigitMill", "divide", "()I"⟩
abbrev c_L_convert : ByteArray := method_12_code
def y_L_convert : MethodName := ⟨"DigitMillLaw", "convert", "(LDigitMill;I[J)I"⟩
abbrev c_D_convert : ByteArray := prog_1_method_14_code
def y_D_convert : MethodName := ⟨"DigitMill", "convert", "(I)I"⟩
abbrev c_L_digit : ByteArray := method_13_code
def y_L_digit : MethodName := ⟨"DigitMillLaw", "digit", "(LDigitMill;I[J)I"⟩
abbrev c_D_digit : ByteArray := prog_1_method_15_code
def y_D_digit : MethodName := ⟨"DigitMill", "digit", "(I)I"⟩
abbrev c_T_digitAt : ByteArray := prog_4_method_7_code
def y_T_digitAt : MethodName := ⟨"DigitMill$Text", "digitAt", "(I)I"⟩
abbrev c_L_about : ByteArray := method_14_code
def y_L_about : MethodName := ⟨"DigitMillLaw", "about", "(LDigitMill;I[J)I"⟩
abbrev c_D_about : ByteArray := prog_1_method_16_code
def y_D_about : MethodName := ⟨"DigitMill", "about", "(I)I"⟩
abbrev c_D_digitSum : ByteArray := prog_1_method_30_code
def y_D_digitSum : MethodName := ⟨"DigitMill", "digitSum", "()I"⟩
abbrev c_T_sumOfDigits : ByteArray := prog_4_method_8_code
def y_T_sumOfDigits : MethodName := ⟨"DigitMill$Text", "sumOfDigits", "()I"⟩
abbrev c_L_count : ByteArray := method_15_code
def y_L_count : MethodName := ⟨"DigitMillLaw", "count", "(LDigitMill;III[J)I"⟩
abbrev c_D_count : ByteArray := prog_1_method_17_code
def y_D_count : MethodName := ⟨"DigitMill", "count", "(III)I"⟩
abbrev c_L_find : ByteArray := method_16_code
def y_L_find : MethodName := ⟨"DigitMillLaw", "find", "(LDigitMill;JII[J)I"⟩
abbrev c_D_find : ByteArray := prog_1_method_18_code
def y_D_find : MethodName := ⟨"DigitMill", "find", "(JII)I"⟩
abbrev c_M_init : ByteArray := prog_7_method_1_code
def y_M_init : MethodName := ⟨"DigitMillModel", "<init>", "()V"⟩
abbrev c_M_thrown : ByteArray := prog_7_method_2_code
def y_M_thrown : MethodName := ⟨"DigitMillModel", "thrown", "()I"⟩
abbrev c_M_mill : ByteArray := prog_7_method_34_code
def y_M_mill : MethodName := ⟨"DigitMillModel", "mill", "(III)I"⟩
abbrev c_M_isWrong : ByteArray := prog_7_method_30_code
def y_M_isWrong : MethodName := ⟨"DigitMillModel", "isWrong", "(ZII)Z"⟩
abbrev c_M_isBase : ByteArray := prog_7_method_29_code
def y_M_isBase : MethodName := ⟨"DigitMillModel", "isBase", "(I)Z"⟩
abbrev c_M_fails : ByteArray := prog_7_method_3_code
def y_M_fails : MethodName := ⟨"DigitMillModel", "fails", "(ZI)Z"⟩
abbrev c_M_log : ByteArray := prog_7_method_28_code
def y_M_log : MethodName := ⟨"DigitMillModel", "log", "(I)I"⟩
abbrev c_M_golden : ByteArray := prog_7_method_27_code
def y_M_golden : MethodName := ⟨"DigitMillModel", "golden", "(II)V"⟩
abbrev c_M_power : ByteArray := prog_7_method_20_code
def y_M_power : MethodName := ⟨"DigitMillModel", "power", "(III)V"⟩
abbrev c_M_set : ByteArray := prog_7_method_6_code
def y_M_set : MethodName := ⟨"DigitMillModel", "set", "(IJ)V"⟩
abbrev c_M_grow : ByteArray := prog_7_method_12_code
def y_M_grow : MethodName := ⟨"DigitMillModel", "grow", "(IJJ)V"⟩
abbrev c_M_at : ByteArray := prog_7_method_5_code
def y_M_at : MethodName := ⟨"DigitMillModel", "at", "(II)I"⟩
abbrev c_M_trim : ByteArray := prog_7_method_4_code
def y_M_trim : MethodName := ⟨"DigitMillModel", "trim", "(I)V"⟩
abbrev c_M_rootOf : ByteArray := prog_7_method_18_code
def y_M_rootOf : MethodName := ⟨"DigitMillModel", "rootOf", "(II)V"⟩
abbrev c_M_shift : ByteArray := prog_7_method_14_code
def y_M_shift : MethodName := ⟨"DigitMillModel", "shift", "(II)V"⟩
abbrev c_M_copy : ByteArray := prog_7_method_7_code
def y_M_copy : MethodName := ⟨"DigitMillModel", "copy", "(II)V"⟩
abbrev c_M_leading : ByteArray := prog_7_method_16_code
def y_M_leading : MethodName := ⟨"DigitMillModel", "leading", "(II)J"⟩
abbrev c_M_greatest : ByteArray := prog_7_method_19_code
def y_M_greatest : MethodName := ⟨"DigitMillModel", "greatest", "(JJ)J"⟩
abbrev c_M_order : ByteArray := prog_7_method_8_code
def y_M_order : MethodName := ⟨"DigitMillModel", "order", "(II)I"⟩
abbrev c_M_lessTimes : ByteArray := prog_7_method_11_code
def y_M_lessTimes : MethodName := ⟨"DigitMillModel", "lessTimes", "(IIJ)V"⟩
abbrev c_M_addTimes : ByteArray := prog_7_method_10_code
def y_M_addTimes : MethodName := ⟨"DigitMillModel", "addTimes", "(IIJ)V"⟩
abbrev c_M_lower : ByteArray := prog_7_method_13_code
def y_M_lower : MethodName := ⟨"DigitMillModel", "lower", "(IJ)V"⟩
abbrev c_M_constant : ByteArray := prog_7_method_26_code
def y_M_constant : MethodName := ⟨"DigitMillModel", "constant", "(III)V"⟩
abbrev c_M_arcs : ByteArray := prog_7_method_22_code
def y_M_arcs : MethodName := ⟨"DigitMillModel", "arcs", "()I"⟩
abbrev c_M_arc : ByteArray := prog_7_method_21_code
def y_M_arc : MethodName := ⟨"DigitMillModel", "arc", "(JJZ)I"⟩
abbrev c_M_factorials : ByteArray := prog_7_method_23_code
def y_M_factorials : MethodName := ⟨"DigitMillModel", "factorials", "()I"⟩
abbrev c_M_halves : ByteArray := prog_7_method_24_code
def y_M_halves : MethodName := ⟨"DigitMillModel", "halves", "()I"⟩
abbrev c_M_cubes : ByteArray := prog_7_method_25_code
def y_M_cubes : MethodName := ⟨"DigitMillModel", "cubes", "()I"⟩
abbrev c_M_told : ByteArray := prog_7_method_31_code
def y_M_told : MethodName := ⟨"DigitMillModel", "told", "(I)I"⟩
abbrev c_M_howMany : ByteArray := prog_7_method_32_code
def y_M_howMany : MethodName := ⟨"DigitMillModel", "howMany", "()I"⟩
abbrev c_M_tell : ByteArray := prog_7_method_33_code
def y_M_tell : MethodName := ⟨"DigitMillModel", "tell", "()V"⟩
abbrev c_M_root : ByteArray := prog_7_method_35_code
def y_M_root : MethodName := ⟨"DigitMillModel", "root", "(JII)I"⟩
abbrev c_M_product : ByteArray := prog_7_method_15_code
def y_M_product : MethodName := ⟨"DigitMillModel", "product", "(III)V"⟩
abbrev c_M_over : ByteArray := prog_7_method_36_code
def y_M_over : MethodName := ⟨"DigitMillModel", "over", "(JJII)I"⟩
abbrev c_M_quotient : ByteArray := prog_7_method_17_code
def y_M_quotient : MethodName := ⟨"DigitMillModel", "quotient", "(III)V"⟩
abbrev c_M_number : ByteArray := prog_7_method_37_code
def y_M_number : MethodName := ⟨"DigitMillModel", "number", "(JI)I"⟩
abbrev c_M_push : ByteArray := prog_7_method_39_code
def y_M_push : MethodName := ⟨"DigitMillModel", "push", "(I)I"⟩
abbrev c_M_become : ByteArray := prog_7_method_38_code
def y_M_become : MethodName := ⟨"DigitMillModel", "become", "(II)I"⟩
abbrev c_M_length : ByteArray := prog_7_method_9_code
def y_M_length : MethodName := ⟨"DigitMillModel", "length", "(I)I"⟩
abbrev c_M_keep : ByteArray := prog_7_method_40_code
def y_M_keep : MethodName := ⟨"DigitMillModel", "keep", "()V"⟩
abbrev c_M_swap : ByteArray := prog_7_method_41_code
def y_M_swap : MethodName := ⟨"DigitMillModel", "swap", "()I"⟩
abbrev c_M_add : ByteArray := prog_7_method_42_code
def y_M_add : MethodName := ⟨"DigitMillModel", "add", "()I"⟩
abbrev c_M_subtract : ByteArray := prog_7_method_43_code
def y_M_subtract : MethodName := ⟨"DigitMillModel", "subtract", "()I"⟩
abbrev c_M_times : ByteArray := prog_7_method_44_code
def y_M_times : MethodName := ⟨"DigitMillModel", "times", "()I"⟩
abbrev c_M_divide : ByteArray := prog_7_method_45_code
def y_M_divide : MethodName := ⟨"DigitMillModel", "divide", "()I"⟩
abbrev c_M_rooted : ByteArray := prog_7_method_46_code
def y_M_rooted : MethodName := ⟨"DigitMillModel", "rooted", "()I"⟩
abbrev c_M_convert : ByteArray := prog_7_method_47_code
def y_M_convert : MethodName := ⟨"DigitMillModel", "convert", "(I)I"⟩
abbrev c_M_digit : ByteArray := prog_7_method_48_code
def y_M_digit : MethodName := ⟨"DigitMillModel", "digit", "(I)I"⟩
abbrev c_M_about : ByteArray := prog_7_method_49_code
def y_M_about : MethodName := ⟨"DigitMillModel", "about", "(I)I"⟩
abbrev c_M_count : ByteArray := prog_7_method_50_code
def y_M_count : MethodName := ⟨"DigitMillModel", "count", "(III)I"⟩
abbrev c_M_find : ByteArray := prog_7_method_51_code
def y_M_find : MethodName := ⟨"DigitMillModel", "find", "(JII)I"⟩
abbrev c_M_compare : ByteArray := prog_7_method_52_code
def y_M_compare : MethodName := ⟨"DigitMillModel", "compare", "()I"⟩
abbrev c_L_law : ByteArray := code
def y_L_law : MethodName := ⟨"DigitMillLaw", "law", "([I)Z"⟩
theorem wn_L : Cond.initialized R_L ∈ TT := tt_of 53 (by decide +kernel) (by decide +kernel)
theorem wn_D : Cond.initialized R_D ∈ TT := tt_of 54 (by decide +kernel) (by decide +kernel)
theorem wn_T : Cond.initialized R_T ∈ TT := tt_of 55 (by decide +kernel) (by decide +kernel)
theorem wn_H : Cond.initialized R_H ∈ TT := tt_of 56 (by decide +kernel) (by decide +kernel)
theorem wn_B : Cond.initialized R_B ∈ TT := tt_of 57 (by decide +kernel) (by decide +kernel)
theorem wn_S : Cond.initialized R_S ∈ TT := tt_of 58 (by decide +kernel) (by decide +kernel)
theorem wn_M : Cond.initialized R_M ∈ TT := tt_of 59 (by decide +kernel) (by decide +kernel)
theorem wn_JI : Cond.initialized "java/lang/Integer" ∈ TT := tt_of 64 (by decide +kernel) (by decide +kernel)
theorem wn_JM : Cond.initialized "java/lang/Math" ∈ TT := tt_of 66 (by decide +kernel) (by decide +kernel)
theorem wn_JA : Cond.initialized "java/util/Arrays" ∈ TT := tt_of 67 (by decide +kernel) (by decide +kernel)
theorem wk_L_8 : Cond.classLink R_L 8 R_D ∈ TT := tt_of 79 (by decide +kernel) (by decide +kernel)
theorem wx_D : Cond.instantiable R_D 4 ∈ TT := tt_of 80 (by decide +kernel) (by decide +kernel)
theorem wm_L_65 : Cond.methodLink R_L 65 y_D_init ∈ TT := tt_of 81 (by decide +kernel) (by decide +kernel)
theorem wi_D_init : Cond.instanceMethod y_D_init ∈ TT := tt_of 82 (by decide +kernel) (by decide +kernel)
theorem wc_D_init : Cond.code y_D_init c_D_init 1 none ∈ TT := tt_of 83 (by decide +kernel) (by decide +kernel)
theorem wm_D_3 : Cond.methodLink R_D 3 objectInit ∈ TT := tt_of 84 (by decide +kernel) (by decide +kernel)
theorem wk_D_9 : Cond.classLink R_D 9 R_T ∈ TT := tt_of 87 (by decide +kernel) (by decide +kernel)
theorem wx_T : Cond.instantiable R_T 8 ∈ TT := tt_of 88 (by decide +kernel) (by decide +kernel)
theorem wm_D_11 : Cond.methodLink R_D 11 y_T_init ∈ TT := tt_of 89 (by decide +kernel) (by decide +kernel)
theorem wi_T_init : Cond.instanceMethod y_T_init ∈ TT := tt_of 90 (by decide +kernel) (by decide +kernel)
theorem wc_T_init : Cond.code y_T_init c_T_init 1 none ∈ TT := tt_of 91 (by decide +kernel) (by decide +kernel)
theorem wm_T_3 : Cond.methodLink R_T 3 objectInit ∈ TT := tt_of 92 (by decide +kernel) (by decide +kernel)
theorem wk_T_9 : Cond.classLink R_T 9 R_H ∈ TT := tt_of 93 (by decide +kernel) (by decide +kernel)
theorem wx_H : Cond.instantiable R_H 2 ∈ TT := tt_of 94 (by decide +kernel) (by decide +kernel)
theorem wm_T_11 : Cond.methodLink R_T 11 y_H_init ∈ TT := tt_of 95 (by decide +kernel) (by decide +kernel)
theorem wi_H_init : Cond.instanceMethod y_H_init ∈ TT := tt_of 96 (by decide +kernel) (by decide +kernel)
theorem wc_H_init : Cond.code y_H_init c_H_init 2 none ∈ TT := tt_of 97 (by decide +kernel) (by decide +kernel)
theorem wm_H_3 : Cond.methodLink R_H 3 objectInit ∈ TT := tt_of 98 (by decide +kernel) (by decide +kernel)
theorem wf_H_9 : Cond.fieldLink R_H 9 "DigitMill$Whole" "limbs" "[I" ∈ TT := tt_of 99 (by decide +kernel) (by decide +kernel)
theorem wf_B_57 : Cond.fieldLinkNest R_B 57 "DigitMill$Whole" "limbs" "[I" "DigitMill" ∈ NT := nt_of 100 (by decide +kernel) (by decide +kernel)
theorem wf_H_15 : Cond.fieldLink R_H 15 "DigitMill$Whole" "size" "I" ∈ TT := tt_of 101 (by decide +kernel) (by decide +kernel)
theorem wf_B_50 : Cond.fieldLinkNest R_B 50 "DigitMill$Whole" "size" "I" "DigitMill" ∈ NT := nt_of 102 (by decide +kernel) (by decide +kernel)
theorem wf_T_64 : Cond.fieldLinkNest R_T 64 "DigitMill$Whole" "size" "I" "DigitMill" ∈ NT := nt_of 103 (by decide +kernel) (by decide +kernel)
theorem wf_D_149 : Cond.fieldLinkNest R_D 149 "DigitMill$Whole" "size" "I" "DigitMill" ∈ NT := nt_of 104 (by decide +kernel) (by decide +kernel)
theorem wa_int : Cond.arrayClass .int ∈ TT := tt_of 110 (by decide +kernel) (by decide +kernel)
theorem wm_T_31 : Cond.methodLink R_T 31 y_T_setPowers ∈ TT := tt_of 111 (by decide +kernel) (by decide +kernel)
theorem wi_T_setPowers : Cond.instanceMethod y_T_setPowers ∈ TT := tt_of 113 (by decide +kernel) (by decide +kernel)
theorem wc_T_setPowers : Cond.code y_T_setPowers c_T_setPowers 2 none ∈ TT := tt_of 114 (by decide +kernel) (by decide +kernel)
theorem wm_T_80 : Cond.methodLinkNest R_T 80 y_D_digitsPerGroup "DigitMill" ∈ NT := nt_of 115 (by decide +kernel) (by decide +kernel)
theorem wt_D_digitsPerGroup : Cond.static y_D_digitsPerGroup ∈ TT := tt_of 116 (by decide +kernel) (by decide +kernel)
theorem wc_D_digitsPerGroup : Cond.code y_D_digitsPerGroup c_D_digitsPerGroup 4 (some .int) ∈ TT := tt_of 117 (by decide +kernel) (by decide +kernel)
theorem wv_D_207 : Cond.constantLong R_D 207 (1073741824) ∈ TT := tt_of 118 (by decide +kernel) (by decide +kernel)
theorem wf_T_14 : Cond.fieldLink R_T 14 "DigitMill$Text" "whole" "LDigitMill$Whole;" ∈ TT := tt_of 119 (by decide +kernel) (by decide +kernel)
theorem wf_D_98 : Cond.fieldLinkNest R_D 98 "DigitMill$Text" "whole" "LDigitMill$Whole;" "DigitMill" ∈ NT := nt_of 120 (by decide +kernel) (by decide +kernel)
theorem wf_T_20 : Cond.fieldLink R_T 20 "DigitMill$Text" "base" "I" ∈ TT := tt_of 121 (by decide +kernel) (by decide +kernel)
theorem wf_D_92 : Cond.fieldLinkNest R_D 92 "DigitMill$Text" "base" "I" "DigitMill" ∈ NT := nt_of 122 (by decide +kernel) (by decide +kernel)
theorem wf_T_24 : Cond.fieldLink R_T 24 "DigitMill$Text" "groups" "[I" ∈ TT := tt_of 123 (by decide +kernel) (by decide +kernel)
theorem wf_T_34 : Cond.fieldLink R_T 34 "DigitMill$Text" "groupsUsed" "I" ∈ TT := tt_of 124 (by decide +kernel) (by decide +kernel)
theorem wf_T_61 : Cond.fieldLink R_T 61 "DigitMill$Text" "perGroup" "I" ∈ TT := tt_of 125 (by decide +kernel) (by decide +kernel)
theorem wf_T_28 : Cond.fieldLink R_T 28 "DigitMill$Text" "powers" "[I" ∈ TT := tt_of 126 (by decide +kernel) (by decide +kernel)
theorem wf_T_37 : Cond.fieldLink R_T 37 "DigitMill$Text" "digits" "I" ∈ TT := tt_of 127 (by decide +kernel) (by decide +kernel)
theorem wf_D_212 : Cond.fieldLinkNest R_D 212 "DigitMill$Text" "digits" "I" "DigitMill" ∈ NT := nt_of 128 (by decide +kernel) (by decide +kernel)
theorem wf_T_40 : Cond.fieldLink R_T 40 "DigitMill$Text" "told" "Z" ∈ TT := tt_of 129 (by decide +kernel) (by decide +kernel)
theorem wk_D_19 : Cond.classLink R_D 19 R_B ∈ TT := tt_of 147 (by decide +kernel) (by decide +kernel)
theorem wx_B : Cond.instantiable R_B 3 ∈ TT := tt_of 148 (by decide +kernel) (by decide +kernel)
theorem wm_D_21 : Cond.methodLinkNest R_D 21 y_B_init "DigitMill" ∈ NT := nt_of 149 (by decide +kernel) (by decide +kernel)
theorem wi_B_init : Cond.instanceMethod y_B_init ∈ TT := tt_of 150 (by decide +kernel) (by decide +kernel)
theorem wc_B_init : Cond.code y_B_init c_B_init 1 none ∈ TT := tt_of 151 (by decide +kernel) (by decide +kernel)
theorem wm_B_3 : Cond.methodLink R_B 3 objectInit ∈ TT := tt_of 152 (by decide +kernel) (by decide +kernel)
theorem wk_B_9 : Cond.classLink R_B 9 R_H ∈ TT := tt_of 153 (by decide +kernel) (by decide +kernel)
theorem wm_B_11 : Cond.methodLink R_B 11 y_H_init ∈ TT := tt_of 154 (by decide +kernel) (by decide +kernel)
theorem wf_B_14 : Cond.fieldLink R_B 14 "DigitMill$Bench" "left" "LDigitMill$Whole;" ∈ TT := tt_of 155 (by decide +kernel) (by decide +kernel)
theorem wf_D_70 : Cond.fieldLinkNest R_D 70 "DigitMill$Bench" "left" "LDigitMill$Whole;" "DigitMill" ∈ NT := nt_of 156 (by decide +kernel) (by decide +kernel)
theorem wf_B_20 : Cond.fieldLink R_B 20 "DigitMill$Bench" "right" "LDigitMill$Whole;" ∈ TT := tt_of 157 (by decide +kernel) (by decide +kernel)
theorem wf_D_82 : Cond.fieldLinkNest R_D 82 "DigitMill$Bench" "right" "LDigitMill$Whole;" "DigitMill" ∈ NT := nt_of 158 (by decide +kernel) (by decide +kernel)
theorem wf_B_23 : Cond.fieldLink R_B 23 "DigitMill$Bench" "result" "LDigitMill$Whole;" ∈ TT := tt_of 159 (by decide +kernel) (by decide +kernel)
theorem wf_D_54 : Cond.fieldLinkNest R_D 54 "DigitMill$Bench" "result" "LDigitMill$Whole;" "DigitMill" ∈ NT := nt_of 160 (by decide +kernel) (by decide +kernel)
theorem wk_D_26 : Cond.classLink R_D 26 R_S ∈ TT := tt_of 168 (by decide +kernel) (by decide +kernel)
theorem wx_S : Cond.instantiable R_S 5 ∈ TT := tt_of 169 (by decide +kernel) (by decide +kernel)
theorem wm_D_28 : Cond.methodLinkNest R_D 28 y_S_init "DigitMill" ∈ NT := nt_of 170 (by decide +kernel) (by decide +kernel)
theorem wi_S_init : Cond.instanceMethod y_S_init ∈ TT := tt_of 171 (by decide +kernel) (by decide +kernel)
theorem wc_S_init : Cond.code y_S_init c_S_init 1 none ∈ TT := tt_of 172 (by decide +kernel) (by decide +kernel)
theorem wm_S_3 : Cond.methodLink R_S 3 objectInit ∈ TT := tt_of 173 (by decide +kernel) (by decide +kernel)
theorem wf_S_11 : Cond.fieldLink R_S 11 "DigitMill$Series" "rows" "[[I" ∈ TT := tt_of 176 (by decide +kernel) (by decide +kernel)
theorem wf_S_16 : Cond.fieldLink R_S 16 "DigitMill$Series" "depths" "[I" ∈ TT := tt_of 177 (by decide +kernel) (by decide +kernel)
theorem wf_S_20 : Cond.fieldLink R_S 20 "DigitMill$Series" "work" "[J" ∈ TT := tt_of 178 (by decide +kernel) (by decide +kernel)
theorem wf_S_24 : Cond.fieldLink R_S 24 "DigitMill$Series" "sum" "[J" ∈ TT := tt_of 179 (by decide +kernel) (by decide +kernel)
theorem wf_S_36 : Cond.fieldLink R_S 36 "DigitMill$Series" "depth" "I" ∈ TT := tt_of 180 (by decide +kernel) (by decide +kernel)
theorem wa_long : Cond.arrayClass .long ∈ TT := tt_of 192 (by decide +kernel) (by decide +kernel)
theorem wf_D_12 : Cond.fieldLink R_D 12 "DigitMill" "text" "LDigitMill$Text;" ∈ TT := tt_of 193 (by decide +kernel) (by decide +kernel)
theorem wf_D_16 : Cond.fieldLink R_D 16 "DigitMill" "other" "LDigitMill$Text;" ∈ TT := tt_of 194 (by decide +kernel) (by decide +kernel)
theorem wf_D_22 : Cond.fieldLink R_D 22 "DigitMill" "bench" "LDigitMill$Bench;" ∈ TT := tt_of 195 (by decide +kernel) (by decide +kernel)
theorem wf_D_29 : Cond.fieldLink R_D 29 "DigitMill" "series" "LDigitMill$Series;" ∈ TT := tt_of 196 (by decide +kernel) (by decide +kernel)
theorem wm_L_96 : Cond.methodLink R_L 96 y_D_keep ∈ TT := tt_of 206 (by decide +kernel) (by decide +kernel)
theorem wi_D_keep : Cond.instanceMethod y_D_keep ∈ TT := tt_of 207 (by decide +kernel) (by decide +kernel)
theorem ws_D_keep : Cond.selects R_D y_D_keep y_D_keep ∈ TT := tt_of 208 (by decide +kernel) (by decide +kernel)
theorem wc_D_keep : Cond.code y_D_keep c_D_keep 1 none ∈ TT := tt_of 209 (by decide +kernel) (by decide +kernel)
theorem wm_D_118 : Cond.methodLink R_D 118 y_T_copyText ∈ TT := tt_of 210 (by decide +kernel) (by decide +kernel)
theorem wi_T_copyText : Cond.instanceMethod y_T_copyText ∈ TT := tt_of 211 (by decide +kernel) (by decide +kernel)
theorem ws_T_copyText : Cond.selects R_T y_T_copyText y_T_copyText ∈ TT := tt_of 212 (by decide +kernel) (by decide +kernel)
theorem wc_T_copyText : Cond.code y_T_copyText c_T_copyText 2 none ∈ TT := tt_of 213 (by decide +kernel) (by decide +kernel)
theorem wm_T_51 : Cond.methodLink R_T 51 y_T_replace ∈ TT := tt_of 214 (by decide +kernel) (by decide +kernel)
theorem wi_T_replace : Cond.instanceMethod y_T_replace ∈ TT := tt_of 215 (by decide +kernel) (by decide +kernel)
theorem ws_T_replace : Cond.selects R_T y_T_replace y_T_replace ∈ TT := tt_of 216 (by decide +kernel) (by decide +kernel)
theorem wc_T_replace : Cond.code y_T_replace c_T_replace 3 none ∈ TT := tt_of 217 (by decide +kernel) (by decide +kernel)
theorem wm_T_44 : Cond.methodLink R_T 44 y_H_copy ∈ TT := tt_of 218 (by decide +kernel) (by decide +kernel)
theorem wi_H_copy : Cond.instanceMethod y_H_copy ∈ TT := tt_of 219 (by decide +kernel) (by decide +kernel)
theorem ws_H_copy : Cond.selects R_H y_H_copy y_H_copy ∈ TT := tt_of 220 (by decide +kernel) (by decide +kernel)
theorem wc_H_copy : Cond.code y_H_copy c_H_copy 2 none ∈ TT := tt_of 221 (by decide +kernel) (by decide +kernel)
theorem wm_H_21 : Cond.methodLink R_H 21 y_H_load ∈ TT := tt_of 222 (by decide +kernel) (by decide +kernel)
theorem wi_H_load : Cond.instanceMethod y_H_load ∈ TT := tt_of 223 (by decide +kernel) (by decide +kernel)
theorem ws_H_load : Cond.selects R_H y_H_load y_H_load ∈ TT := tt_of 224 (by decide +kernel) (by decide +kernel)
theorem wc_H_load : Cond.code y_H_load c_H_load 3 none ∈ TT := tt_of 225 (by decide +kernel) (by decide +kernel)
theorem wm_H_31 : Cond.methodLink R_H 31 arraycopyName ∈ TT := tt_of 229 (by decide +kernel) (by decide +kernel)
theorem wm_H_37 : Cond.methodLink R_H 37 y_H_trim ∈ TT := tt_of 232 (by decide +kernel) (by decide +kernel)
theorem wi_H_trim : Cond.instanceMethod y_H_trim ∈ TT := tt_of 233 (by decide +kernel) (by decide +kernel)
theorem ws_H_trim : Cond.selects R_H y_H_trim y_H_trim ∈ TT := tt_of 234 (by decide +kernel) (by decide +kernel)
theorem wc_H_trim : Cond.code y_H_trim c_H_trim 1 none ∈ TT := tt_of 235 (by decide +kernel) (by decide +kernel)
theorem wm_T_48 : Cond.methodLink R_T 48 y_T_changeBase ∈ TT := tt_of 236 (by decide +kernel) (by decide +kernel)
theorem wi_T_changeBase : Cond.instanceMethod y_T_changeBase ∈ TT := tt_of 237 (by decide +kernel) (by decide +kernel)
theorem ws_T_changeBase : Cond.selects R_T y_T_changeBase y_T_changeBase ∈ TT := tt_of 238 (by decide +kernel) (by decide +kernel)
theorem wc_T_changeBase : Cond.code y_T_changeBase c_T_changeBase 2 none ∈ TT := tt_of 239 (by decide +kernel) (by decide +kernel)
theorem wm_T_55 : Cond.methodLink R_T 55 arraycopyName ∈ TT := tt_of 240 (by decide +kernel) (by decide +kernel)
theorem wm_L_100 : Cond.methodLink R_L 100 y_D_swap ∈ TT := tt_of 241 (by decide +kernel) (by decide +kernel)
theorem wi_D_swap : Cond.instanceMethod y_D_swap ∈ TT := tt_of 242 (by decide +kernel) (by decide +kernel)
theorem ws_D_swap : Cond.selects R_D y_D_swap y_D_swap ∈ TT := tt_of 243 (by decide +kernel) (by decide +kernel)
theorem wc_D_swap : Cond.code y_D_swap c_D_swap 2 (some .int) ∈ TT := tt_of 244 (by decide +kernel) (by decide +kernel)
theorem wm_D_114 : Cond.methodLink R_D 114 y_D_digits ∈ TT := tt_of 245 (by decide +kernel) (by decide +kernel)
theorem wi_D_digits : Cond.instanceMethod y_D_digits ∈ TT := tt_of 247 (by decide +kernel) (by decide +kernel)
theorem wc_D_digits : Cond.code y_D_digits c_D_digits 1 (some .int) ∈ TT := tt_of 248 (by decide +kernel) (by decide +kernel)
theorem wm_D_209 : Cond.methodLink R_D 209 y_T_tell ∈ TT := tt_of 249 (by decide +kernel) (by decide +kernel)
theorem wi_T_tell : Cond.instanceMethod y_T_tell ∈ TT := tt_of 250 (by decide +kernel) (by decide +kernel)
theorem ws_T_tell : Cond.selects R_T y_T_tell y_T_tell ∈ TT := tt_of 251 (by decide +kernel) (by decide +kernel)
theorem wc_T_tell : Cond.code y_T_tell c_T_tell 3 none ∈ TT := tt_of 252 (by decide +kernel) (by decide +kernel)
theorem wm_T_67 : Cond.methodLink R_T 67 y_H_shrink ∈ TT := tt_of 253 (by decide +kernel) (by decide +kernel)
theorem wi_H_shrink : Cond.instanceMethod y_H_shrink ∈ TT := tt_of 254 (by decide +kernel) (by decide +kernel)
theorem ws_H_shrink : Cond.selects R_H y_H_shrink y_H_shrink ∈ TT := tt_of 255 (by decide +kernel) (by decide +kernel)
theorem wc_H_shrink : Cond.code y_H_shrink c_H_shrink 9 (some .int) ∈ TT := tt_of 256 (by decide +kernel) (by decide +kernel)
theorem wm_T_71 : Cond.methodLink R_T 71 y_JM_max ∈ TT := tt_of 257 (by decide +kernel) (by decide +kernel)
theorem wt_JM_max : Cond.static y_JM_max ∈ TT := tt_of 258 (by decide +kernel) (by decide +kernel)
theorem wc_JM_max : Cond.code y_JM_max c_JM_max 2 (some .int) ∈ TT := tt_of 259 (by decide +kernel) (by decide +kernel)
theorem wm_T_77 : Cond.methodLink R_T 77 y_T_measure ∈ TT := tt_of 260 (by decide +kernel) (by decide +kernel)
theorem wi_T_measure : Cond.instanceMethod y_T_measure ∈ TT := tt_of 262 (by decide +kernel) (by decide +kernel)
theorem wc_T_measure : Cond.code y_T_measure c_T_measure 3 none ∈ TT := tt_of 263 (by decide +kernel) (by decide +kernel)
theorem wm_L_117 : Cond.methodLink R_L 117 y_D_rooted ∈ TT := tt_of 264 (by decide +kernel) (by decide +kernel)
theorem wi_D_rooted : Cond.instanceMethod y_D_rooted ∈ TT := tt_of 265 (by decide +kernel) (by decide +kernel)
theorem ws_D_rooted : Cond.selects R_D y_D_rooted y_D_rooted ∈ TT := tt_of 266 (by decide +kernel) (by decide +kernel)
theorem wc_D_rooted : Cond.code y_D_rooted c_D_rooted 1 (some .int) ∈ TT := tt_of 267 (by decide +kernel) (by decide +kernel)
theorem wm_D_101 : Cond.methodLink R_D 101 y_H_copy ∈ TT := tt_of 268 (by decide +kernel) (by decide +kernel)
theorem wm_D_158 : Cond.methodLink R_D 158 y_B_extractRoot ∈ TT := tt_of 269 (by decide +kernel) (by decide +kernel)
theorem wi_B_extractRoot : Cond.instanceMethod y_B_extractRoot ∈ TT := tt_of 270 (by decide +kernel) (by decide +kernel)
theorem ws_B_extractRoot : Cond.selects R_B y_B_extractRoot y_B_extractRoot ∈ TT := tt_of 271 (by decide +kernel) (by decide +kernel)
theorem wc_B_extractRoot : Cond.code y_B_extractRoot c_B_extractRoot 4 none ∈ TT := tt_of 272 (by decide +kernel) (by decide +kernel)
theorem wm_B_91 : Cond.methodLink R_B 91 y_H_length ∈ TT := tt_of 273 (by decide +kernel) (by decide +kernel)
theorem wi_H_length : Cond.instanceMethod y_H_length ∈ TT := tt_of 274 (by decide +kernel) (by decide +kernel)
theorem ws_H_length : Cond.selects R_H y_H_length y_H_length ∈ TT := tt_of 275 (by decide +kernel) (by decide +kernel)
theorem wc_H_length : Cond.code y_H_length c_H_length 1 (some .int) ∈ TT := tt_of 276 (by decide +kernel) (by decide +kernel)
theorem wm_H_40 : Cond.methodLinkNest R_H 40 y_D_bitsOf "DigitMill" ∈ NT := nt_of 277 (by decide +kernel) (by decide +kernel)
theorem wt_D_bitsOf : Cond.static y_D_bitsOf ∈ TT := tt_of 278 (by decide +kernel) (by decide +kernel)
theorem wc_D_bitsOf : Cond.code y_D_bitsOf c_D_bitsOf 1 (some .int) ∈ TT := tt_of 279 (by decide +kernel) (by decide +kernel)
theorem wm_D_202 : Cond.methodLink R_D 202 y_JI_numberOfLeadingZeros ∈ TT := tt_of 280 (by decide +kernel) (by decide +kernel)
theorem wt_JI_numberOfLeadingZeros : Cond.static y_JI_numberOfLeadingZeros ∈ TT := tt_of 281 (by decide +kernel) (by decide +kernel)
theorem wc_JI_numberOfLeadingZeros : Cond.code y_JI_numberOfLeadingZeros c_JI_numberOfLeadingZeros 2 (some .int) ∈ TT := tt_of 282 (by decide +kernel) (by decide +kernel)
theorem wv_JI_264 : Cond.constant "java/lang/Integer" 264 (65536) ∈ TT := tt_of 283 (by decide +kernel) (by decide +kernel)
theorem wm_B_54 : Cond.methodLink R_B 54 y_H_zero ∈ TT := tt_of 284 (by decide +kernel) (by decide +kernel)
theorem wi_H_zero : Cond.instanceMethod y_H_zero ∈ TT := tt_of 285 (by decide +kernel) (by decide +kernel)
theorem ws_H_zero : Cond.selects R_H y_H_zero y_H_zero ∈ TT := tt_of 286 (by decide +kernel) (by decide +kernel)
theorem wc_H_zero : Cond.code y_H_zero c_H_zero 2 none ∈ TT := tt_of 287 (by decide +kernel) (by decide +kernel)
theorem wm_H_69 : Cond.methodLink R_H 69 y_JA_fillI ∈ TT := tt_of 288 (by decide +kernel) (by decide +kernel)
theorem wt_JA_fillI : Cond.static y_JA_fillI ∈ TT := tt_of 289 (by decide +kernel) (by decide +kernel)
theorem wc_JA_fillI : Cond.code y_JA_fillI c_JA_fillI 5 none ∈ TT := tt_of 290 (by decide +kernel) (by decide +kernel)
theorem wm_JA_13 : Cond.methodLink "java/util/Arrays" 13 y_JA_rangeCheck ∈ TT := tt_of 291 (by decide +kernel) (by decide +kernel)
theorem wt_JA_rangeCheck : Cond.static y_JA_rangeCheck ∈ TT := tt_of 292 (by decide +kernel) (by decide +kernel)
theorem wc_JA_rangeCheck : Cond.code y_JA_rangeCheck c_JA_rangeCheck 3 none ∈ TT := tt_of 293 (by decide +kernel) (by decide +kernel)
theorem wm_JA_47 : Cond.methodLink "java/util/Arrays" 47 ⟨"java/lang/StringBuilder", "<init>", "()V"⟩ ∈ TT := tt_of 339 (by decide +kernel) (by decide +kernel)
theorem wa_byte : Cond.arrayClass .byte ∈ TT := tt_of 368 (by decide +kernel) (by decide +kernel)
theorem wm_JA_50 : Cond.methodLink "java/util/Arrays" 50 ⟨"java/lang/StringBuilder", "append", "(Ljava/lang/String;)Ljava/lang/StringBuilder;"⟩ ∈ TT := tt_of 370 (by decide +kernel) (by decide +kernel)
theorem wt_JA_copyOf : Cond.static y_JA_copyOf ∈ TT := tt_of 399 (by decide +kernel) (by decide +kernel)
theorem wc_JA_copyOf : Cond.code y_JA_copyOf c_JA_copyOf 3 (some (.array .byte)) ∈ TT := tt_of 400 (by decide +kernel) (by decide +kernel)
theorem wm_JA_310 : Cond.methodLink "java/util/Arrays" 310 ⟨"[B", "clone", "()Ljava/lang/Object;"⟩ ∈ TT := tt_of 401 (by decide +kernel) (by decide +kernel)
theorem wm_JA_150 : Cond.methodLink "java/util/Arrays" 150 arraycopyName ∈ TT := tt_of 409 (by decide +kernel) (by decide +kernel)
theorem wm_JA_54 : Cond.methodLink "java/util/Arrays" 54 ⟨"java/lang/StringBuilder", "append", "(I)Ljava/lang/StringBuilder;"⟩ ∈ TT := tt_of 484 (by decide +kernel) (by decide +kernel)
theorem wt_JI_stringSize : Cond.static y_JI_stringSize ∈ TT := tt_of 492 (by decide +kernel) (by decide +kernel)
theorem wc_JI_stringSize : Cond.code y_JI_stringSize c_JI_stringSize 4 (some .int) ∈ TT := tt_of 493 (by decide +kernel) (by decide +kernel)
theorem wt_JI_getChars : Cond.static y_JI_getChars ∈ TT := tt_of 495 (by decide +kernel) (by decide +kernel)
theorem wc_JI_getChars : Cond.code y_JI_getChars c_JI_getChars 7 (some .int) ∈ TT := tt_of 496 (by decide +kernel) (by decide +kernel)
theorem wm_JA_61 : Cond.methodLink "java/util/Arrays" 61 ⟨"java/lang/StringBuilder", "toString", "()Ljava/lang/String;"⟩ ∈ TT := tt_of 511 (by decide +kernel) (by decide +kernel)
theorem wt_JA_copyOfRange : Cond.static y_JA_copyOfRange ∈ TT := tt_of 539 (by decide +kernel) (by decide +kernel)
theorem wc_JA_copyOfRange : Cond.code y_JA_copyOfRange c_JA_copyOfRange 3 (some (.array .byte)) ∈ TT := tt_of 540 (by decide +kernel) (by decide +kernel)
theorem wm_JA_339 : Cond.methodLink "java/util/Arrays" 339 y_JA_copyOfRangeByte ∈ TT := tt_of 541 (by decide +kernel) (by decide +kernel)
theorem wt_JA_copyOfRangeByte : Cond.static y_JA_copyOfRangeByte ∈ TT := tt_of 542 (by decide +kernel) (by decide +kernel)
theorem wc_JA_copyOfRangeByte : Cond.code y_JA_copyOfRangeByte c_JA_copyOfRangeByte 5 (some (.array .byte)) ∈ TT := tt_of 543 (by decide +kernel) (by decide +kernel)
theorem wm_JA_343 : Cond.methodLink "java/util/Arrays" 343 y_JA_checkLength ∈ TT := tt_of 544 (by decide +kernel) (by decide +kernel)
theorem wt_JA_checkLength : Cond.static y_JA_checkLength ∈ TT := tt_of 545 (by decide +kernel) (by decide +kernel)
theorem wc_JA_checkLength : Cond.code y_JA_checkLength c_JA_checkLength 2 none ∈ TT := tt_of 546 (by decide +kernel) (by decide +kernel)
theorem wm_JA_65 : Cond.methodLink "java/util/Arrays" 65 ⟨"java/lang/IllegalArgumentException", "<init>", "(Ljava/lang/String;)V"⟩ ∈ TT := tt_of 548 (by decide +kernel) (by decide +kernel)
theorem wm_JA_70 : Cond.methodLink "java/util/Arrays" 70 ⟨"java/lang/ArrayIndexOutOfBoundsException", "<init>", "(I)V"⟩ ∈ TT := tt_of 599 (by decide +kernel) (by decide +kernel)
theorem wm_B_74 : Cond.methodLink R_B 74 y_H_trim ∈ TT := tt_of 619 (by decide +kernel) (by decide +kernel)
theorem wm_B_65 : Cond.methodLink R_B 65 y_H_lift ∈ TT := tt_of 620 (by decide +kernel) (by decide +kernel)
theorem wi_H_lift : Cond.instanceMethod y_H_lift ∈ TT := tt_of 621 (by decide +kernel) (by decide +kernel)
theorem ws_H_lift : Cond.selects R_H y_H_lift y_H_lift ∈ TT := tt_of 622 (by decide +kernel) (by decide +kernel)
theorem wc_H_lift : Cond.code y_H_lift c_H_lift 3 none ∈ TT := tt_of 623 (by decide +kernel) (by decide +kernel)
theorem wm_H_62 : Cond.methodLink R_H 62 y_H_scale ∈ TT := tt_of 624 (by decide +kernel) (by decide +kernel)
theorem wi_H_scale : Cond.instanceMethod y_H_scale ∈ TT := tt_of 625 (by decide +kernel) (by decide +kernel)
theorem ws_H_scale : Cond.selects R_H y_H_scale y_H_scale ∈ TT := tt_of 626 (by decide +kernel) (by decide +kernel)
theorem wc_H_scale : Cond.code y_H_scale c_H_scale 6 none ∈ TT := tt_of 627 (by decide +kernel) (by decide +kernel)
theorem wv_H_19 : Cond.constantLong R_H 19 (1073741823) ∈ TT := tt_of 628 (by decide +kernel) (by decide +kernel)
theorem wm_H_51 : Cond.methodLink R_H 51 y_H_append ∈ TT := tt_of 629 (by decide +kernel) (by decide +kernel)
theorem wi_H_append : Cond.instanceMethod y_H_append ∈ TT := tt_of 630 (by decide +kernel) (by decide +kernel)
theorem ws_H_append : Cond.selects R_H y_H_append y_H_append ∈ TT := tt_of 631 (by decide +kernel) (by decide +kernel)
theorem wc_H_append : Cond.code y_H_append c_H_append 2 none ∈ TT := tt_of 632 (by decide +kernel) (by decide +kernel)
theorem wm_B_95 : Cond.methodLink R_B 95 y_B_takeFirstRootLimb ∈ TT := tt_of 633 (by decide +kernel) (by decide +kernel)
theorem wi_B_takeFirstRootLimb : Cond.instanceMethod y_B_takeFirstRootLimb ∈ TT := tt_of 635 (by decide +kernel) (by decide +kernel)
theorem wc_B_takeFirstRootLimb : Cond.code y_B_takeFirstRootLimb c_B_takeFirstRootLimb 10 none ∈ TT := tt_of 636 (by decide +kernel) (by decide +kernel)
theorem wv_B_77 : Cond.constantLong R_B 77 (1073741823) ∈ TT := tt_of 637 (by decide +kernel) (by decide +kernel)
theorem wm_B_101 : Cond.methodLink R_B 101 y_B_setTwice ∈ TT := tt_of 638 (by decide +kernel) (by decide +kernel)
theorem wi_B_setTwice : Cond.instanceMethod y_B_setTwice ∈ TT := tt_of 640 (by decide +kernel) (by decide +kernel)
theorem wc_B_setTwice : Cond.code y_B_setTwice c_B_setTwice 4 none ∈ TT := tt_of 641 (by decide +kernel) (by decide +kernel)
theorem wv_B_105 : Cond.constantLong R_B 105 (2) ∈ TT := tt_of 642 (by decide +kernel) (by decide +kernel)
theorem wm_B_98 : Cond.methodLink R_B 98 y_B_takeRootLimb ∈ TT := tt_of 643 (by decide +kernel) (by decide +kernel)
theorem wi_B_takeRootLimb : Cond.instanceMethod y_B_takeRootLimb ∈ TT := tt_of 645 (by decide +kernel) (by decide +kernel)
theorem wc_B_takeRootLimb : Cond.code y_B_takeRootLimb c_B_takeRootLimb 12 none ∈ TT := tt_of 646 (by decide +kernel) (by decide +kernel)
theorem wm_B_85 : Cond.methodLink R_B 85 y_H_takeAway ∈ TT := tt_of 650 (by decide +kernel) (by decide +kernel)
theorem wi_H_takeAway : Cond.instanceMethod y_H_takeAway ∈ TT := tt_of 651 (by decide +kernel) (by decide +kernel)
theorem ws_H_takeAway : Cond.selects R_H y_H_takeAway y_H_takeAway ∈ TT := tt_of 652 (by decide +kernel) (by decide +kernel)
theorem wc_H_takeAway : Cond.code y_H_takeAway c_H_takeAway 10 (some .int) ∈ TT := tt_of 653 (by decide +kernel) (by decide +kernel)
theorem wv_B_89 : Cond.constantLong R_B 89 (-1) ∈ TT := tt_of 654 (by decide +kernel) (by decide +kernel)
theorem wm_B_47 : Cond.methodLink R_B 47 y_H_lower ∈ TT := tt_of 655 (by decide +kernel) (by decide +kernel)
theorem wi_H_lower : Cond.instanceMethod y_H_lower ∈ TT := tt_of 656 (by decide +kernel) (by decide +kernel)
theorem ws_H_lower : Cond.selects R_H y_H_lower y_H_lower ∈ TT := tt_of 657 (by decide +kernel) (by decide +kernel)
theorem wc_H_lower : Cond.code y_H_lower c_H_lower 2 none ∈ TT := tt_of 658 (by decide +kernel) (by decide +kernel)
theorem wm_H_75 : Cond.methodLink R_H 75 y_H_drop ∈ TT := tt_of 659 (by decide +kernel) (by decide +kernel)
theorem wi_H_drop : Cond.instanceMethod y_H_drop ∈ TT := tt_of 660 (by decide +kernel) (by decide +kernel)
theorem ws_H_drop : Cond.selects R_H y_H_drop y_H_drop ∈ TT := tt_of 661 (by decide +kernel) (by decide +kernel)
theorem wc_H_drop : Cond.code y_H_drop c_H_drop 3 none ∈ TT := tt_of 662 (by decide +kernel) (by decide +kernel)
theorem wm_H_44 : Cond.methodLink R_H 44 y_JM_max ∈ TT := tt_of 663 (by decide +kernel) (by decide +kernel)
theorem wm_H_78 : Cond.methodLink R_H 78 y_H_shrink ∈ TT := tt_of 664 (by decide +kernel) (by decide +kernel)
theorem wm_D_58 : Cond.methodLink R_D 58 y_D_retell ∈ TT := tt_of 665 (by decide +kernel) (by decide +kernel)
theorem wi_D_retell : Cond.instanceMethod y_D_retell ∈ TT := tt_of 667 (by decide +kernel) (by decide +kernel)
theorem wc_D_retell : Cond.code y_D_retell c_D_retell 3 (some .int) ∈ TT := tt_of 668 (by decide +kernel) (by decide +kernel)
theorem wm_D_154 : Cond.methodLink R_D 154 y_T_replace ∈ TT := tt_of 669 (by decide +kernel) (by decide +kernel)
theorem wm_L_136 : Cond.methodLink R_L 136 y_D_compare ∈ TT := tt_of 670 (by decide +kernel) (by decide +kernel)
theorem wi_D_compare : Cond.instanceMethod y_D_compare ∈ TT := tt_of 671 (by decide +kernel) (by decide +kernel)
theorem ws_D_compare : Cond.selects R_D y_D_compare y_D_compare ∈ TT := tt_of 672 (by decide +kernel) (by decide +kernel)
theorem wc_D_compare : Cond.code y_D_compare c_D_compare 1 (some .int) ∈ TT := tt_of 673 (by decide +kernel) (by decide +kernel)
theorem wm_D_125 : Cond.methodLink R_D 125 y_H_order ∈ TT := tt_of 674 (by decide +kernel) (by decide +kernel)
theorem wi_H_order : Cond.instanceMethod y_H_order ∈ TT := tt_of 675 (by decide +kernel) (by decide +kernel)
theorem ws_H_order : Cond.selects R_H y_H_order y_H_order ∈ TT := tt_of 676 (by decide +kernel) (by decide +kernel)
theorem wc_H_order : Cond.code y_H_order c_H_order 3 (some .int) ∈ TT := tt_of 677 (by decide +kernel) (by decide +kernel)
theorem wm_L_69 : Cond.methodLink R_L 69 y_L_mill ∈ TT := tt_of 678 (by decide +kernel) (by decide +kernel)
theorem wt_L_mill : Cond.static y_L_mill ∈ TT := tt_of 679 (by decide +kernel) (by decide +kernel)
theorem wm_L_7 : Cond.methodLink R_L 7 y_D_mill ∈ TT := tt_of 683 (by decide +kernel) (by decide +kernel)
theorem wi_D_mill : Cond.instanceMethod y_D_mill ∈ TT := tt_of 684 (by decide +kernel) (by decide +kernel)
theorem ws_D_mill : Cond.selects R_D y_D_mill y_D_mill ∈ TT := tt_of 685 (by decide +kernel) (by decide +kernel)
theorem wc_D_mill : Cond.code y_D_mill c_D_mill 4 (some .int) ∈ TT := tt_of 686 (by decide +kernel) (by decide +kernel)
theorem wm_D_37 : Cond.methodLink R_D 37 ⟨"java/lang/IllegalArgumentException", "<init>", "(Ljava/lang/String;)V"⟩ ∈ TT := tt_of 689 (by decide +kernel) (by decide +kernel)
theorem wm_D_40 : Cond.methodLink R_D 40 y_D_refuseWrongPlaces ∈ TT := tt_of 690 (by decide +kernel) (by decide +kernel)
theorem wt_D_refuseWrongPlaces : Cond.static y_D_refuseWrongPlaces ∈ TT := tt_of 691 (by decide +kernel) (by decide +kernel)
theorem wc_D_refuseWrongPlaces : Cond.code y_D_refuseWrongPlaces c_D_refuseWrongPlaces 2 none ∈ TT := tt_of 692 (by decide +kernel) (by decide +kernel)
theorem wm_D_88 : Cond.methodLink R_D 88 y_D_refuseWrongBase ∈ TT := tt_of 694 (by decide +kernel) (by decide +kernel)
theorem wt_D_refuseWrongBase : Cond.static y_D_refuseWrongBase ∈ TT := tt_of 695 (by decide +kernel) (by decide +kernel)
theorem wc_D_refuseWrongBase : Cond.code y_D_refuseWrongBase c_D_refuseWrongBase 1 none ∈ TT := tt_of 696 (by decide +kernel) (by decide +kernel)
theorem wm_D_44 : Cond.methodLink R_D 44 y_D_refuseTooManyPlaces ∈ TT := tt_of 698 (by decide +kernel) (by decide +kernel)
theorem wt_D_refuseTooManyPlaces : Cond.static y_D_refuseTooManyPlaces ∈ TT := tt_of 699 (by decide +kernel) (by decide +kernel)
theorem wc_D_refuseTooManyPlaces : Cond.code y_D_refuseTooManyPlaces c_D_refuseTooManyPlaces 2 none ∈ TT := tt_of 700 (by decide +kernel) (by decide +kernel)
theorem wm_D_192 : Cond.methodLink R_D 192 y_D_bitsPerDigit ∈ TT := tt_of 701 (by decide +kernel) (by decide +kernel)
theorem wt_D_bitsPerDigit : Cond.static y_D_bitsPerDigit ∈ TT := tt_of 702 (by decide +kernel) (by decide +kernel)
theorem wc_D_bitsPerDigit : Cond.code y_D_bitsPerDigit c_D_bitsPerDigit 1 (some .int) ∈ TT := tt_of 703 (by decide +kernel) (by decide +kernel)
theorem wm_D_199 : Cond.methodLink R_D 199 y_D_bitsOf ∈ TT := tt_of 704 (by decide +kernel) (by decide +kernel)
theorem wm_D_144 : Cond.methodLink R_D 144 ⟨"java/lang/UnsupportedOperationException", "<init>", "(Ljava/lang/String;)V"⟩ ∈ TT := tt_of 715 (by decide +kernel) (by decide +kernel)
theorem wm_D_47 : Cond.methodLink R_D 47 y_B_makeGolden ∈ TT := tt_of 721 (by decide +kernel) (by decide +kernel)
theorem wi_B_makeGolden : Cond.instanceMethod y_B_makeGolden ∈ TT := tt_of 722 (by decide +kernel) (by decide +kernel)
theorem ws_B_makeGolden : Cond.selects R_B y_B_makeGolden y_B_makeGolden ∈ TT := tt_of 723 (by decide +kernel) (by decide +kernel)
theorem wc_B_makeGolden : Cond.code y_B_makeGolden c_B_makeGolden 3 none ∈ TT := tt_of 724 (by decide +kernel) (by decide +kernel)
theorem wv_B_37 : Cond.constantLong R_B 37 (5) ∈ TT := tt_of 725 (by decide +kernel) (by decide +kernel)
theorem wm_B_39 : Cond.methodLink R_B 39 y_B_makeRoot ∈ TT := tt_of 726 (by decide +kernel) (by decide +kernel)
theorem wi_B_makeRoot : Cond.instanceMethod y_B_makeRoot ∈ TT := tt_of 727 (by decide +kernel) (by decide +kernel)
theorem ws_B_makeRoot : Cond.selects R_B y_B_makeRoot y_B_makeRoot ∈ TT := tt_of 728 (by decide +kernel) (by decide +kernel)
theorem wc_B_makeRoot : Cond.code y_B_makeRoot c_B_makeRoot 5 none ∈ TT := tt_of 729 (by decide +kernel) (by decide +kernel)
theorem wm_B_26 : Cond.methodLink R_B 26 y_H_assign ∈ TT := tt_of 730 (by decide +kernel) (by decide +kernel)
theorem wi_H_assign : Cond.instanceMethod y_H_assign ∈ TT := tt_of 731 (by decide +kernel) (by decide +kernel)
theorem ws_H_assign : Cond.selects R_H y_H_assign y_H_assign ∈ TT := tt_of 732 (by decide +kernel) (by decide +kernel)
theorem wc_H_assign : Cond.code y_H_assign c_H_assign 5 none ∈ TT := tt_of 733 (by decide +kernel) (by decide +kernel)
theorem wm_B_30 : Cond.methodLink R_B 30 y_H_raise ∈ TT := tt_of 734 (by decide +kernel) (by decide +kernel)
theorem wi_H_raise : Cond.instanceMethod y_H_raise ∈ TT := tt_of 735 (by decide +kernel) (by decide +kernel)
theorem ws_H_raise : Cond.selects R_H y_H_raise y_H_raise ∈ TT := tt_of 736 (by decide +kernel) (by decide +kernel)
theorem wc_H_raise : Cond.code y_H_raise c_H_raise 6 none ∈ TT := tt_of 737 (by decide +kernel) (by decide +kernel)
theorem wm_H_55 : Cond.methodLinkNest R_H 55 y_D_digitsPerGroup "DigitMill" ∈ NT := nt_of 738 (by decide +kernel) (by decide +kernel)
theorem wm_H_58 : Cond.methodLinkNest R_H 58 y_D_power "DigitMill" ∈ NT := nt_of 739 (by decide +kernel) (by decide +kernel)
theorem wt_D_power : Cond.static y_D_power ∈ TT := tt_of 740 (by decide +kernel) (by decide +kernel)
theorem wc_D_power : Cond.code y_D_power c_D_power 5 (some .long) ∈ TT := tt_of 741 (by decide +kernel) (by decide +kernel)
theorem wm_B_34 : Cond.methodLink R_B 34 y_B_extractRoot ∈ TT := tt_of 742 (by decide +kernel) (by decide +kernel)
theorem wm_B_43 : Cond.methodLink R_B 43 y_H_increase ∈ TT := tt_of 743 (by decide +kernel) (by decide +kernel)
theorem wi_H_increase : Cond.instanceMethod y_H_increase ∈ TT := tt_of 744 (by decide +kernel) (by decide +kernel)
theorem ws_H_increase : Cond.selects R_H y_H_increase y_H_increase ∈ TT := tt_of 745 (by decide +kernel) (by decide +kernel)
theorem wc_H_increase : Cond.code y_H_increase c_H_increase 6 none ∈ TT := tt_of 746 (by decide +kernel) (by decide +kernel)
theorem wm_H_47 : Cond.methodLink R_H 47 y_H_limbAt ∈ TT := tt_of 747 (by decide +kernel) (by decide +kernel)
theorem wi_H_limbAt : Cond.instanceMethod y_H_limbAt ∈ TT := tt_of 748 (by decide +kernel) (by decide +kernel)
theorem ws_H_limbAt : Cond.selects R_H y_H_limbAt y_H_limbAt ∈ TT := tt_of 749 (by decide +kernel) (by decide +kernel)
theorem wc_H_limbAt : Cond.code y_H_limbAt c_H_limbAt 2 (some .int) ∈ TT := tt_of 750 (by decide +kernel) (by decide +kernel)
theorem wv_H_50 : Cond.constant R_H 50 (1073741823) ∈ TT := tt_of 751 (by decide +kernel) (by decide +kernel)
theorem wm_D_50 : Cond.methodLink R_D 50 y_D_makeConstant ∈ TT := tt_of 752 (by decide +kernel) (by decide +kernel)
theorem wi_D_makeConstant : Cond.instanceMethod y_D_makeConstant ∈ TT := tt_of 754 (by decide +kernel) (by decide +kernel)
theorem wc_D_makeConstant : Cond.code y_D_makeConstant c_D_makeConstant 9 none ∈ TT := tt_of 755 (by decide +kernel) (by decide +kernel)
theorem wm_D_217 : Cond.methodLink R_D 217 y_S_reach ∈ TT := tt_of 756 (by decide +kernel) (by decide +kernel)
theorem wi_S_reach : Cond.instanceMethod y_S_reach ∈ TT := tt_of 757 (by decide +kernel) (by decide +kernel)
theorem ws_S_reach : Cond.selects R_S y_S_reach y_S_reach ∈ TT := tt_of 758 (by decide +kernel) (by decide +kernel)
theorem wc_S_reach : Cond.code y_S_reach c_S_reach 4 (some .int) ∈ TT := tt_of 759 (by decide +kernel) (by decide +kernel)
theorem wm_S_27 : Cond.methodLink R_S 27 y_JM_max ∈ TT := tt_of 760 (by decide +kernel) (by decide +kernel)
theorem wm_S_40 : Cond.methodLink R_S 40 y_JA_fillJ ∈ TT := tt_of 762 (by decide +kernel) (by decide +kernel)
theorem wt_JA_fillJ : Cond.static y_JA_fillJ ∈ TT := tt_of 763 (by decide +kernel) (by decide +kernel)
theorem wc_JA_fillJ : Cond.code y_JA_fillJ c_JA_fillJ 5 none ∈ TT := tt_of 764 (by decide +kernel) (by decide +kernel)
theorem wm_S_46 : Cond.methodLink R_S 46 y_S_sumUp ∈ TT := tt_of 765 (by decide +kernel) (by decide +kernel)
theorem wi_S_sumUp : Cond.instanceMethod y_S_sumUp ∈ TT := tt_of 767 (by decide +kernel) (by decide +kernel)
theorem wc_S_sumUp : Cond.code y_S_sumUp c_S_sumUp 2 none ∈ TT := tt_of 768 (by decide +kernel) (by decide +kernel)
theorem wm_S_53 : Cond.methodLink R_S 53 y_S_sumPi ∈ TT := tt_of 769 (by decide +kernel) (by decide +kernel)
theorem wi_S_sumPi : Cond.instanceMethod y_S_sumPi ∈ TT := tt_of 771 (by decide +kernel) (by decide +kernel)
theorem wc_S_sumPi : Cond.code y_S_sumPi c_S_sumPi 1 none ∈ TT := tt_of 772 (by decide +kernel) (by decide +kernel)
theorem wm_S_65 : Cond.methodLink R_S 65 y_S_foldArctan ∈ TT := tt_of 773 (by decide +kernel) (by decide +kernel)
theorem wi_S_foldArctan : Cond.instanceMethod y_S_foldArctan ∈ TT := tt_of 775 (by decide +kernel) (by decide +kernel)
theorem wc_S_foldArctan : Cond.code y_S_foldArctan c_S_foldArctan 4 none ∈ TT := tt_of 776 (by decide +kernel) (by decide +kernel)
theorem wm_S_77 : Cond.methodLink R_S 77 y_S_begin ∈ TT := tt_of 777 (by decide +kernel) (by decide +kernel)
theorem wi_S_begin : Cond.instanceMethod y_S_begin ∈ TT := tt_of 779 (by decide +kernel) (by decide +kernel)
theorem wc_S_begin : Cond.code y_S_begin c_S_begin 1 none ∈ TT := tt_of 780 (by decide +kernel) (by decide +kernel)
theorem wm_S_80 : Cond.methodLink R_S 80 y_S_bitsNeeded ∈ TT := tt_of 781 (by decide +kernel) (by decide +kernel)
theorem wi_S_bitsNeeded : Cond.instanceMethod y_S_bitsNeeded ∈ TT := tt_of 783 (by decide +kernel) (by decide +kernel)
theorem wc_S_bitsNeeded : Cond.code y_S_bitsNeeded c_S_bitsNeeded 1 (some .int) ∈ TT := tt_of 784 (by decide +kernel) (by decide +kernel)
theorem wm_S_84 : Cond.methodLink R_S 84 y_S_lowest ∈ TT := tt_of 785 (by decide +kernel) (by decide +kernel)
theorem wi_S_lowest : Cond.instanceMethod y_S_lowest ∈ TT := tt_of 787 (by decide +kernel) (by decide +kernel)
theorem wc_S_lowest : Cond.code y_S_lowest c_S_lowest 2 (some .int) ∈ TT := tt_of 788 (by decide +kernel) (by decide +kernel)
theorem wm_S_69 : Cond.methodLink R_S 69 y_S_fold ∈ TT := tt_of 789 (by decide +kernel) (by decide +kernel)
theorem wi_S_fold : Cond.instanceMethod y_S_fold ∈ TT := tt_of 791 (by decide +kernel) (by decide +kernel)
theorem wc_S_fold : Cond.code y_S_fold c_S_fold 11 none ∈ TT := tt_of 792 (by decide +kernel) (by decide +kernel)
theorem wm_S_73 : Cond.methodLink R_S 73 y_S_gather ∈ TT := tt_of 793 (by decide +kernel) (by decide +kernel)
theorem wi_S_gather : Cond.instanceMethod y_S_gather ∈ TT := tt_of 795 (by decide +kernel) (by decide +kernel)
theorem wc_S_gather : Cond.code y_S_gather c_S_gather 2 none ∈ TT := tt_of 796 (by decide +kernel) (by decide +kernel)
theorem wv_S_76 : Cond.constant R_S 76 (57122) ∈ TT := tt_of 797 (by decide +kernel) (by decide +kernel)
theorem wm_S_56 : Cond.methodLink R_S 56 y_S_sumE ∈ TT := tt_of 798 (by decide +kernel) (by decide +kernel)
theorem wi_S_sumE : Cond.instanceMethod y_S_sumE ∈ TT := tt_of 800 (by decide +kernel) (by decide +kernel)
theorem wc_S_sumE : Cond.code y_S_sumE c_S_sumE 4 none ∈ TT := tt_of 801 (by decide +kernel) (by decide +kernel)
theorem wm_S_88 : Cond.methodLinkNest R_S 88 y_D_bitsOf "DigitMill" ∈ NT := nt_of 802 (by decide +kernel) (by decide +kernel)
theorem wm_S_59 : Cond.methodLink R_S 59 y_S_sumLogTwo ∈ TT := tt_of 803 (by decide +kernel) (by decide +kernel)
theorem wi_S_sumLogTwo : Cond.instanceMethod y_S_sumLogTwo ∈ TT := tt_of 805 (by decide +kernel) (by decide +kernel)
theorem wc_S_sumLogTwo : Cond.code y_S_sumLogTwo c_S_sumLogTwo 2 none ∈ TT := tt_of 806 (by decide +kernel) (by decide +kernel)
theorem wm_S_62 : Cond.methodLink R_S 62 y_S_sumCubes ∈ TT := tt_of 807 (by decide +kernel) (by decide +kernel)
theorem wi_S_sumCubes : Cond.instanceMethod y_S_sumCubes ∈ TT := tt_of 809 (by decide +kernel) (by decide +kernel)
theorem wc_S_sumCubes : Cond.code y_S_sumCubes c_S_sumCubes 4 none ∈ TT := tt_of 810 (by decide +kernel) (by decide +kernel)
theorem wv_S_91 : Cond.constantLong R_S 91 (77) ∈ TT := tt_of 811 (by decide +kernel) (by decide +kernel)
theorem wm_S_50 : Cond.methodLink R_S 50 y_S_settle ∈ TT := tt_of 812 (by decide +kernel) (by decide +kernel)
theorem wi_S_settle : Cond.instanceMethod y_S_settle ∈ TT := tt_of 814 (by decide +kernel) (by decide +kernel)
theorem wc_S_settle : Cond.code y_S_settle c_S_settle 6 none ∈ TT := tt_of 815 (by decide +kernel) (by decide +kernel)
theorem wv_S_93 : Cond.constantLong R_S 93 (1073741823) ∈ TT := tt_of 816 (by decide +kernel) (by decide +kernel)
theorem wm_D_221 : Cond.methodLink R_D 221 y_S_row ∈ TT := tt_of 817 (by decide +kernel) (by decide +kernel)
theorem wi_S_row : Cond.instanceMethod y_S_row ∈ TT := tt_of 818 (by decide +kernel) (by decide +kernel)
theorem ws_S_row : Cond.selects R_S y_S_row y_S_row ∈ TT := tt_of 819 (by decide +kernel) (by decide +kernel)
theorem wc_S_row : Cond.code y_S_row c_S_row 2 (some (.array .int)) ∈ TT := tt_of 820 (by decide +kernel) (by decide +kernel)
theorem wm_D_225 : Cond.methodLink R_D 225 y_H_load ∈ TT := tt_of 821 (by decide +kernel) (by decide +kernel)
theorem wm_D_79 : Cond.methodLink R_D 79 y_H_raise ∈ TT := tt_of 822 (by decide +kernel) (by decide +kernel)
theorem wm_D_229 : Cond.methodLink R_D 229 y_H_absorbsCarry ∈ TT := tt_of 823 (by decide +kernel) (by decide +kernel)
theorem wi_H_absorbsCarry : Cond.instanceMethod y_H_absorbsCarry ∈ TT := tt_of 824 (by decide +kernel) (by decide +kernel)
theorem ws_H_absorbsCarry : Cond.selects R_H y_H_absorbsCarry y_H_absorbsCarry ∈ TT := tt_of 825 (by decide +kernel) (by decide +kernel)
theorem wc_H_absorbsCarry : Cond.code y_H_absorbsCarry c_H_absorbsCarry 4 (some .boolean) ∈ TT := tt_of 826 (by decide +kernel) (by decide +kernel)
theorem wm_D_233 : Cond.methodLink R_D 233 y_H_drop ∈ TT := tt_of 827 (by decide +kernel) (by decide +kernel)
theorem wm_L_80 : Cond.methodLink R_L 80 y_L_root ∈ TT := tt_of 828 (by decide +kernel) (by decide +kernel)
theorem wt_L_root : Cond.static y_L_root ∈ TT := tt_of 829 (by decide +kernel) (by decide +kernel)
theorem wm_L_17 : Cond.methodLink R_L 17 y_D_root ∈ TT := tt_of 831 (by decide +kernel) (by decide +kernel)
theorem wi_D_root : Cond.instanceMethod y_D_root ∈ TT := tt_of 832 (by decide +kernel) (by decide +kernel)
theorem ws_D_root : Cond.selects R_D y_D_root y_D_root ∈ TT := tt_of 833 (by decide +kernel) (by decide +kernel)
theorem wc_D_root : Cond.code y_D_root c_D_root 5 (some .int) ∈ TT := tt_of 834 (by decide +kernel) (by decide +kernel)
theorem wm_D_64 : Cond.methodLink R_D 64 y_B_makeRoot ∈ TT := tt_of 836 (by decide +kernel) (by decide +kernel)
theorem wm_L_84 : Cond.methodLink R_L 84 y_L_over ∈ TT := tt_of 837 (by decide +kernel) (by decide +kernel)
theorem wt_L_over : Cond.static y_L_over ∈ TT := tt_of 838 (by decide +kernel) (by decide +kernel)
theorem wm_L_21 : Cond.methodLink R_L 21 y_D_over ∈ TT := tt_of 840 (by decide +kernel) (by decide +kernel)
theorem wi_D_over : Cond.instanceMethod y_D_over ∈ TT := tt_of 841 (by decide +kernel) (by decide +kernel)
theorem ws_D_over : Cond.selects R_D y_D_over y_D_over ∈ TT := tt_of 842 (by decide +kernel) (by decide +kernel)
theorem wc_D_over : Cond.code y_D_over c_D_over 7 (some .int) ∈ TT := tt_of 843 (by decide +kernel) (by decide +kernel)
theorem wm_D_73 : Cond.methodLink R_D 73 y_H_assign ∈ TT := tt_of 845 (by decide +kernel) (by decide +kernel)
theorem wm_D_85 : Cond.methodLink R_D 85 y_B_makeQuotient ∈ TT := tt_of 846 (by decide +kernel) (by decide +kernel)
theorem wi_B_makeQuotient : Cond.instanceMethod y_B_makeQuotient ∈ TT := tt_of 847 (by decide +kernel) (by decide +kernel)
theorem ws_B_makeQuotient : Cond.selects R_B y_B_makeQuotient y_B_makeQuotient ∈ TT := tt_of 848 (by decide +kernel) (by decide +kernel)
theorem wc_B_makeQuotient : Cond.code y_B_makeQuotient c_B_makeQuotient 4 none ∈ TT := tt_of 849 (by decide +kernel) (by decide +kernel)
theorem wm_B_61 : Cond.methodLinkNest R_B 61 y_D_bitsOf "DigitMill" ∈ NT := nt_of 850 (by decide +kernel) (by decide +kernel)
theorem wm_B_68 : Cond.methodLink R_B 68 y_H_openTop ∈ TT := tt_of 851 (by decide +kernel) (by decide +kernel)
theorem wi_H_openTop : Cond.instanceMethod y_H_openTop ∈ TT := tt_of 852 (by decide +kernel) (by decide +kernel)
theorem ws_H_openTop : Cond.selects R_H y_H_openTop y_H_openTop ∈ TT := tt_of 853 (by decide +kernel) (by decide +kernel)
theorem wc_H_openTop : Cond.code y_H_openTop c_H_openTop 1 none ∈ TT := tt_of 854 (by decide +kernel) (by decide +kernel)
theorem wm_B_71 : Cond.methodLink R_B 71 y_B_quotientLimb ∈ TT := tt_of 855 (by decide +kernel) (by decide +kernel)
theorem wi_B_quotientLimb : Cond.instanceMethod y_B_quotientLimb ∈ TT := tt_of 857 (by decide +kernel) (by decide +kernel)
theorem wc_B_quotientLimb : Cond.code y_B_quotientLimb c_B_quotientLimb 9 (some .int) ∈ TT := tt_of 858 (by decide +kernel) (by decide +kernel)
theorem wm_L_88 : Cond.methodLink R_L 88 y_L_number ∈ TT := tt_of 859 (by decide +kernel) (by decide +kernel)
theorem wt_L_number : Cond.static y_L_number ∈ TT := tt_of 860 (by decide +kernel) (by decide +kernel)
theorem wm_L_25 : Cond.methodLink R_L 25 y_D_number ∈ TT := tt_of 862 (by decide +kernel) (by decide +kernel)
theorem wi_D_number : Cond.instanceMethod y_D_number ∈ TT := tt_of 863 (by decide +kernel) (by decide +kernel)
theorem ws_D_number : Cond.selects R_D y_D_number y_D_number ∈ TT := tt_of 864 (by decide +kernel) (by decide +kernel)
theorem wc_D_number : Cond.code y_D_number c_D_number 4 (some .int) ∈ TT := tt_of 865 (by decide +kernel) (by decide +kernel)
theorem wm_L_92 : Cond.methodLink R_L 92 y_L_push ∈ TT := tt_of 866 (by decide +kernel) (by decide +kernel)
theorem wt_L_push : Cond.static y_L_push ∈ TT := tt_of 867 (by decide +kernel) (by decide +kernel)
theorem wm_L_29 : Cond.methodLink R_L 29 y_D_push ∈ TT := tt_of 869 (by decide +kernel) (by decide +kernel)
theorem wi_D_push : Cond.instanceMethod y_D_push ∈ TT := tt_of 870 (by decide +kernel) (by decide +kernel)
theorem ws_D_push : Cond.selects R_D y_D_push y_D_push ∈ TT := tt_of 871 (by decide +kernel) (by decide +kernel)
theorem wc_D_push : Cond.code y_D_push c_D_push 3 (some .int) ∈ TT := tt_of 872 (by decide +kernel) (by decide +kernel)
theorem wm_D_105 : Cond.methodLink R_D 105 y_H_scale ∈ TT := tt_of 874 (by decide +kernel) (by decide +kernel)
theorem wm_D_108 : Cond.methodLink R_D 108 y_D_refuseTooLong ∈ TT := tt_of 875 (by decide +kernel) (by decide +kernel)
theorem wt_D_refuseTooLong : Cond.static y_D_refuseTooLong ∈ TT := tt_of 876 (by decide +kernel) (by decide +kernel)
theorem wc_D_refuseTooLong : Cond.code y_D_refuseTooLong c_D_refuseTooLong 1 none ∈ TT := tt_of 877 (by decide +kernel) (by decide +kernel)
theorem wm_D_137 : Cond.methodLink R_D 137 y_H_length ∈ TT := tt_of 878 (by decide +kernel) (by decide +kernel)
theorem wm_D_111 : Cond.methodLink R_D 111 y_T_shiftIn ∈ TT := tt_of 880 (by decide +kernel) (by decide +kernel)
theorem wi_T_shiftIn : Cond.instanceMethod y_T_shiftIn ∈ TT := tt_of 881 (by decide +kernel) (by decide +kernel)
theorem ws_T_shiftIn : Cond.selects R_T y_T_shiftIn y_T_shiftIn ∈ TT := tt_of 882 (by decide +kernel) (by decide +kernel)
theorem wc_T_shiftIn : Cond.code y_T_shiftIn c_T_shiftIn 9 none ∈ TT := tt_of 883 (by decide +kernel) (by decide +kernel)
theorem wm_L_104 : Cond.methodLink R_L 104 y_L_add ∈ TT := tt_of 884 (by decide +kernel) (by decide +kernel)
theorem wt_L_add : Cond.static y_L_add ∈ TT := tt_of 885 (by decide +kernel) (by decide +kernel)
theorem wm_L_33 : Cond.methodLink R_L 33 y_D_add ∈ TT := tt_of 887 (by decide +kernel) (by decide +kernel)
theorem wi_D_add : Cond.instanceMethod y_D_add ∈ TT := tt_of 888 (by decide +kernel) (by decide +kernel)
theorem ws_D_add : Cond.selects R_D y_D_add y_D_add ∈ TT := tt_of 889 (by decide +kernel) (by decide +kernel)
theorem wc_D_add : Cond.code y_D_add c_D_add 2 (some .int) ∈ TT := tt_of 890 (by decide +kernel) (by decide +kernel)
theorem wm_D_122 : Cond.methodLink R_D 122 y_H_increase ∈ TT := tt_of 891 (by decide +kernel) (by decide +kernel)
theorem wm_L_108 : Cond.methodLink R_L 108 y_L_subtract ∈ TT := tt_of 892 (by decide +kernel) (by decide +kernel)
theorem wt_L_subtract : Cond.static y_L_subtract ∈ TT := tt_of 893 (by decide +kernel) (by decide +kernel)
theorem wm_L_37 : Cond.methodLink R_L 37 y_D_subtract ∈ TT := tt_of 896 (by decide +kernel) (by decide +kernel)
theorem wi_D_subtract : Cond.instanceMethod y_D_subtract ∈ TT := tt_of 897 (by decide +kernel) (by decide +kernel)
theorem ws_D_subtract : Cond.selects R_D y_D_subtract y_D_subtract ∈ TT := tt_of 898 (by decide +kernel) (by decide +kernel)
theorem wc_D_subtract : Cond.code y_D_subtract c_D_subtract 2 (some .int) ∈ TT := tt_of 899 (by decide +kernel) (by decide +kernel)
theorem wm_D_133 : Cond.methodLink R_D 133 ⟨"java/lang/ArithmeticException", "<init>", "(Ljava/lang/String;)V"⟩ ∈ TT := tt_of 910 (by decide +kernel) (by decide +kernel)
theorem wm_D_134 : Cond.methodLink R_D 134 y_H_decrease ∈ TT := tt_of 916 (by decide +kernel) (by decide +kernel)
theorem wi_H_decrease : Cond.instanceMethod y_H_decrease ∈ TT := tt_of 917 (by decide +kernel) (by decide +kernel)
theorem ws_H_decrease : Cond.selects R_H y_H_decrease y_H_decrease ∈ TT := tt_of 918 (by decide +kernel) (by decide +kernel)
theorem wc_H_decrease : Cond.code y_H_decrease c_H_decrease 5 none ∈ TT := tt_of 919 (by decide +kernel) (by decide +kernel)
theorem wm_L_111 : Cond.methodLink R_L 111 y_L_times ∈ TT := tt_of 920 (by decide +kernel) (by decide +kernel)
theorem wt_L_times : Cond.static y_L_times ∈ TT := tt_of 921 (by decide +kernel) (by decide +kernel)
theorem wm_L_42 : Cond.methodLink R_L 42 y_D_times ∈ TT := tt_of 923 (by decide +kernel) (by decide +kernel)
theorem wi_D_times : Cond.instanceMethod y_D_times ∈ TT := tt_of 924 (by decide +kernel) (by decide +kernel)
theorem ws_D_times : Cond.selects R_D y_D_times y_D_times ∈ TT := tt_of 925 (by decide +kernel) (by decide +kernel)
theorem wc_D_times : Cond.code y_D_times c_D_times 2 (some .int) ∈ TT := tt_of 926 (by decide +kernel) (by decide +kernel)
theorem wm_D_145 : Cond.methodLink R_D 145 y_H_multiply ∈ TT := tt_of 928 (by decide +kernel) (by decide +kernel)
theorem wi_H_multiply : Cond.instanceMethod y_H_multiply ∈ TT := tt_of 929 (by decide +kernel) (by decide +kernel)
theorem ws_H_multiply : Cond.selects R_H y_H_multiply y_H_multiply ∈ TT := tt_of 930 (by decide +kernel) (by decide +kernel)
theorem wc_H_multiply : Cond.code y_H_multiply c_H_multiply 9 none ∈ TT := tt_of 931 (by decide +kernel) (by decide +kernel)
theorem wm_H_66 : Cond.methodLink R_H 66 y_H_zero ∈ TT := tt_of 932 (by decide +kernel) (by decide +kernel)
theorem wm_L_114 : Cond.methodLink R_L 114 y_L_divide ∈ TT := tt_of 933 (by decide +kernel) (by decide +kernel)
theorem wt_L_divide : Cond.static y_L_divide ∈ TT := tt_of 934 (by decide +kernel) (by decide +kernel)
theorem wm_L_45 : Cond.methodLink R_L 45 y_D_divide ∈ TT := tt_of 936 (by decide +kernel) (by decide +kernel)
theorem wi_D_divide : Cond.instanceMethod y_D_divide ∈ TT := tt_of 937 (by decide +kernel) (by decide +kernel)
theorem ws_D_divide : Cond.selects R_D y_D_divide y_D_divide ∈ TT := tt_of 938 (by decide +kernel) (by decide +kernel)
theorem wc_D_divide : Cond.code y_D_divide c_D_divide 1 (some .int) ∈ TT := tt_of 939 (by decide +kernel) (by decide +kernel)
theorem wm_L_121 : Cond.methodLink R_L 121 y_L_convert ∈ TT := tt_of 941 (by decide +kernel) (by decide +kernel)
theorem wt_L_convert : Cond.static y_L_convert ∈ TT := tt_of 942 (by decide +kernel) (by decide +kernel)
theorem wm_L_48 : Cond.methodLink R_L 48 y_D_convert ∈ TT := tt_of 944 (by decide +kernel) (by decide +kernel)
theorem wi_D_convert : Cond.instanceMethod y_D_convert ∈ TT := tt_of 945 (by decide +kernel) (by decide +kernel)
theorem ws_D_convert : Cond.selects R_D y_D_convert y_D_convert ∈ TT := tt_of 946 (by decide +kernel) (by decide +kernel)
theorem wc_D_convert : Cond.code y_D_convert c_D_convert 2 (some .int) ∈ TT := tt_of 947 (by decide +kernel) (by decide +kernel)
theorem wm_D_161 : Cond.methodLink R_D 161 y_T_changeBase ∈ TT := tt_of 948 (by decide +kernel) (by decide +kernel)
theorem wm_L_124 : Cond.methodLink R_L 124 y_L_digit ∈ TT := tt_of 949 (by decide +kernel) (by decide +kernel)
theorem wt_L_digit : Cond.static y_L_digit ∈ TT := tt_of 950 (by decide +kernel) (by decide +kernel)
theorem wm_L_51 : Cond.methodLink R_L 51 y_D_digit ∈ TT := tt_of 953 (by decide +kernel) (by decide +kernel)
theorem wi_D_digit : Cond.instanceMethod y_D_digit ∈ TT := tt_of 954 (by decide +kernel) (by decide +kernel)
theorem ws_D_digit : Cond.selects R_D y_D_digit y_D_digit ∈ TT := tt_of 955 (by decide +kernel) (by decide +kernel)
theorem wc_D_digit : Cond.code y_D_digit c_D_digit 2 (some .int) ∈ TT := tt_of 956 (by decide +kernel) (by decide +kernel)
theorem wm_D_168 : Cond.methodLink R_D 168 ⟨"java/lang/IndexOutOfBoundsException", "<init>", "(Ljava/lang/String;)V"⟩ ∈ TT := tt_of 967 (by decide +kernel) (by decide +kernel)
theorem wm_D_169 : Cond.methodLink R_D 169 y_T_digitAt ∈ TT := tt_of 970 (by decide +kernel) (by decide +kernel)
theorem wi_T_digitAt : Cond.instanceMethod y_T_digitAt ∈ TT := tt_of 971 (by decide +kernel) (by decide +kernel)
theorem ws_T_digitAt : Cond.selects R_T y_T_digitAt y_T_digitAt ∈ TT := tt_of 972 (by decide +kernel) (by decide +kernel)
theorem wc_T_digitAt : Cond.code y_T_digitAt c_T_digitAt 4 (some .int) ∈ TT := tt_of 973 (by decide +kernel) (by decide +kernel)
theorem wm_L_127 : Cond.methodLink R_L 127 y_L_about ∈ TT := tt_of 974 (by decide +kernel) (by decide +kernel)
theorem wt_L_about : Cond.static y_L_about ∈ TT := tt_of 975 (by decide +kernel) (by decide +kernel)
theorem wm_L_56 : Cond.methodLink R_L 56 y_D_about ∈ TT := tt_of 977 (by decide +kernel) (by decide +kernel)
theorem wi_D_about : Cond.instanceMethod y_D_about ∈ TT := tt_of 978 (by decide +kernel) (by decide +kernel)
theorem ws_D_about : Cond.selects R_D y_D_about y_D_about ∈ TT := tt_of 979 (by decide +kernel) (by decide +kernel)
theorem wc_D_about : Cond.code y_D_about c_D_about 2 (some .int) ∈ TT := tt_of 980 (by decide +kernel) (by decide +kernel)
theorem wm_D_173 : Cond.methodLink R_D 173 y_D_digitSum ∈ TT := tt_of 981 (by decide +kernel) (by decide +kernel)
theorem wi_D_digitSum : Cond.instanceMethod y_D_digitSum ∈ TT := tt_of 983 (by decide +kernel) (by decide +kernel)
theorem wc_D_digitSum : Cond.code y_D_digitSum c_D_digitSum 1 (some .int) ∈ TT := tt_of 984 (by decide +kernel) (by decide +kernel)
theorem wm_D_214 : Cond.methodLink R_D 214 y_T_sumOfDigits ∈ TT := tt_of 985 (by decide +kernel) (by decide +kernel)
theorem wi_T_sumOfDigits : Cond.instanceMethod y_T_sumOfDigits ∈ TT := tt_of 986 (by decide +kernel) (by decide +kernel)
theorem ws_T_sumOfDigits : Cond.selects R_T y_T_sumOfDigits y_T_sumOfDigits ∈ TT := tt_of 987 (by decide +kernel) (by decide +kernel)
theorem wc_T_sumOfDigits : Cond.code y_T_sumOfDigits c_T_sumOfDigits 4 (some .int) ∈ TT := tt_of 988 (by decide +kernel) (by decide +kernel)
theorem wm_L_130 : Cond.methodLink R_L 130 y_L_count ∈ TT := tt_of 990 (by decide +kernel) (by decide +kernel)
theorem wt_L_count : Cond.static y_L_count ∈ TT := tt_of 991 (by decide +kernel) (by decide +kernel)
theorem wm_L_59 : Cond.methodLink R_L 59 y_D_count ∈ TT := tt_of 993 (by decide +kernel) (by decide +kernel)
theorem wi_D_count : Cond.instanceMethod y_D_count ∈ TT := tt_of 994 (by decide +kernel) (by decide +kernel)
theorem ws_D_count : Cond.selects R_D y_D_count y_D_count ∈ TT := tt_of 995 (by decide +kernel) (by decide +kernel)
theorem wc_D_count : Cond.code y_D_count c_D_count 6 (some .int) ∈ TT := tt_of 996 (by decide +kernel) (by decide +kernel)
theorem wm_L_133 : Cond.methodLink R_L 133 y_L_find ∈ TT := tt_of 998 (by decide +kernel) (by decide +kernel)
theorem wt_L_find : Cond.static y_L_find ∈ TT := tt_of 999 (by decide +kernel) (by decide +kernel)
theorem wm_L_62 : Cond.methodLink R_L 62 y_D_find ∈ TT := tt_of 1001 (by decide +kernel) (by decide +kernel)
theorem wi_D_find : Cond.instanceMethod y_D_find ∈ TT := tt_of 1002 (by decide +kernel) (by decide +kernel)
theorem ws_D_find : Cond.selects R_D y_D_find y_D_find ∈ TT := tt_of 1003 (by decide +kernel) (by decide +kernel)
theorem wc_D_find : Cond.code y_D_find c_D_find 12 (some .int) ∈ TT := tt_of 1004 (by decide +kernel) (by decide +kernel)
theorem wm_D_182 : Cond.methodLink R_D 182 y_D_power ∈ TT := tt_of 1006 (by decide +kernel) (by decide +kernel)
theorem wk_L_66 : Cond.classLink R_L 66 R_M ∈ TT := tt_of 1008 (by decide +kernel) (by decide +kernel)
theorem wx_M : Cond.instantiable R_M 10 ∈ TT := tt_of 1009 (by decide +kernel) (by decide +kernel)
theorem wm_L_68 : Cond.methodLink R_L 68 y_M_init ∈ TT := tt_of 1010 (by decide +kernel) (by decide +kernel)
theorem wi_M_init : Cond.instanceMethod y_M_init ∈ TT := tt_of 1011 (by decide +kernel) (by decide +kernel)
theorem wc_M_init : Cond.code y_M_init c_M_init 1 none ∈ TT := tt_of 1012 (by decide +kernel) (by decide +kernel)
theorem wm_M_1 : Cond.methodLink R_M 1 objectInit ∈ TT := tt_of 1013 (by decide +kernel) (by decide +kernel)
theorem wf_M_7 : Cond.fieldLink R_M 7 "DigitMillModel" "d" "[I" ∈ TT := tt_of 1014 (by decide +kernel) (by decide +kernel)
theorem wf_M_13 : Cond.fieldLink R_M 13 "DigitMillModel" "n" "[I" ∈ TT := tt_of 1015 (by decide +kernel) (by decide +kernel)
theorem wf_M_16 : Cond.fieldLink R_M 16 "DigitMillModel" "base" "I" ∈ TT := tt_of 1016 (by decide +kernel) (by decide +kernel)
theorem wf_M_20 : Cond.fieldLink R_M 20 "DigitMillModel" "otherBase" "I" ∈ TT := tt_of 1017 (by decide +kernel) (by decide +kernel)
theorem wf_M_23 : Cond.fieldLink R_M 23 "DigitMillModel" "digits" "[I" ∈ TT := tt_of 1018 (by decide +kernel) (by decide +kernel)
theorem wf_M_146 : Cond.fieldLink R_M 146 "DigitMillModel" "many" "I" ∈ TT := tt_of 1019 (by decide +kernel) (by decide +kernel)
theorem wf_M_136 : Cond.fieldLink R_M 136 "DigitMillModel" "known" "Z" ∈ TT := tt_of 1020 (by decide +kernel) (by decide +kernel)
theorem wf_M_26 : Cond.fieldLink R_M 26 "DigitMillModel" "wanted" "[I" ∈ TT := tt_of 1021 (by decide +kernel) (by decide +kernel)
theorem wf_M_29 : Cond.fieldLink R_M 29 "DigitMillModel" "thrown" "I" ∈ TT := tt_of 1022 (by decide +kernel) (by decide +kernel)
theorem wf_M_42 : Cond.fieldLink R_M 42 "DigitMillModel" "left" "J" ∈ TT := tt_of 1023 (by decide +kernel) (by decide +kernel)
theorem wm_L_75 : Cond.methodLink R_L 75 y_M_thrown ∈ TT := tt_of 1045 (by decide +kernel) (by decide +kernel)
theorem wi_M_thrown : Cond.instanceMethod y_M_thrown ∈ TT := tt_of 1046 (by decide +kernel) (by decide +kernel)
theorem ws_M_thrown : Cond.selects R_M y_M_thrown y_M_thrown ∈ TT := tt_of 1047 (by decide +kernel) (by decide +kernel)
theorem wc_M_thrown : Cond.code y_M_thrown c_M_thrown 1 (some .int) ∈ TT := tt_of 1048 (by decide +kernel) (by decide +kernel)
theorem wm_L_74 : Cond.methodLink R_L 74 y_M_mill ∈ TT := tt_of 1049 (by decide +kernel) (by decide +kernel)
theorem wi_M_mill : Cond.instanceMethod y_M_mill ∈ TT := tt_of 1050 (by decide +kernel) (by decide +kernel)
theorem ws_M_mill : Cond.selects R_M y_M_mill y_M_mill ∈ TT := tt_of 1051 (by decide +kernel) (by decide +kernel)
theorem wc_M_mill : Cond.code y_M_mill c_M_mill 4 (some .int) ∈ TT := tt_of 1052 (by decide +kernel) (by decide +kernel)
theorem wm_M_150 : Cond.methodLink R_M 150 y_M_isWrong ∈ TT := tt_of 1053 (by decide +kernel) (by decide +kernel)
theorem wi_M_isWrong : Cond.instanceMethod y_M_isWrong ∈ TT := tt_of 1055 (by decide +kernel) (by decide +kernel)
theorem wc_M_isWrong : Cond.code y_M_isWrong c_M_isWrong 4 (some .boolean) ∈ TT := tt_of 1056 (by decide +kernel) (by decide +kernel)
theorem wm_M_124 : Cond.methodLink R_M 124 y_M_isBase ∈ TT := tt_of 1057 (by decide +kernel) (by decide +kernel)
theorem wt_M_isBase : Cond.static y_M_isBase ∈ TT := tt_of 1058 (by decide +kernel) (by decide +kernel)
theorem wc_M_isBase : Cond.code y_M_isBase c_M_isBase 1 (some .boolean) ∈ TT := tt_of 1059 (by decide +kernel) (by decide +kernel)
theorem wm_M_128 : Cond.methodLink R_M 128 y_M_fails ∈ TT := tt_of 1060 (by decide +kernel) (by decide +kernel)
theorem wi_M_fails : Cond.instanceMethod y_M_fails ∈ TT := tt_of 1062 (by decide +kernel) (by decide +kernel)
theorem wc_M_fails : Cond.code y_M_fails c_M_fails 3 (some .boolean) ∈ TT := tt_of 1063 (by decide +kernel) (by decide +kernel)
theorem wm_M_132 : Cond.methodLink R_M 132 y_M_log ∈ TT := tt_of 1064 (by decide +kernel) (by decide +kernel)
theorem wt_M_log : Cond.static y_M_log ∈ TT := tt_of 1065 (by decide +kernel) (by decide +kernel)
theorem wc_M_log : Cond.code y_M_log c_M_log 2 (some .int) ∈ TT := tt_of 1066 (by decide +kernel) (by decide +kernel)
theorem wm_M_154 : Cond.methodLink R_M 154 y_M_golden ∈ TT := tt_of 1067 (by decide +kernel) (by decide +kernel)
theorem wi_M_golden : Cond.instanceMethod y_M_golden ∈ TT := tt_of 1069 (by decide +kernel) (by decide +kernel)
theorem wc_M_golden : Cond.code y_M_golden c_M_golden 3 none ∈ TT := tt_of 1070 (by decide +kernel) (by decide +kernel)
theorem wm_M_102 : Cond.methodLink R_M 102 y_M_power ∈ TT := tt_of 1071 (by decide +kernel) (by decide +kernel)
theorem wi_M_power : Cond.instanceMethod y_M_power ∈ TT := tt_of 1073 (by decide +kernel) (by decide +kernel)
theorem wc_M_power : Cond.code y_M_power c_M_power 5 none ∈ TT := tt_of 1074 (by decide +kernel) (by decide +kernel)
theorem wm_M_83 : Cond.methodLink R_M 83 y_M_set ∈ TT := tt_of 1075 (by decide +kernel) (by decide +kernel)
theorem wi_M_set : Cond.instanceMethod y_M_set ∈ TT := tt_of 1077 (by decide +kernel) (by decide +kernel)
theorem wc_M_set : Cond.code y_M_set c_M_set 6 none ∈ TT := tt_of 1078 (by decide +kernel) (by decide +kernel)
theorem wv_M_32 : Cond.constantLong R_M 32 (32767) ∈ TT := tt_of 1079 (by decide +kernel) (by decide +kernel)
theorem wm_M_60 : Cond.methodLink R_M 60 y_M_grow ∈ TT := tt_of 1080 (by decide +kernel) (by decide +kernel)
theorem wi_M_grow : Cond.instanceMethod y_M_grow ∈ TT := tt_of 1082 (by decide +kernel) (by decide +kernel)
theorem wc_M_grow : Cond.code y_M_grow c_M_grow 9 none ∈ TT := tt_of 1083 (by decide +kernel) (by decide +kernel)
theorem wm_M_34 : Cond.methodLink R_M 34 y_M_at ∈ TT := tt_of 1084 (by decide +kernel) (by decide +kernel)
theorem wi_M_at : Cond.instanceMethod y_M_at ∈ TT := tt_of 1086 (by decide +kernel) (by decide +kernel)
theorem wc_M_at : Cond.code y_M_at c_M_at 3 (some .int) ∈ TT := tt_of 1087 (by decide +kernel) (by decide +kernel)
theorem wm_M_38 : Cond.methodLink R_M 38 y_M_trim ∈ TT := tt_of 1088 (by decide +kernel) (by decide +kernel)
theorem wi_M_trim : Cond.instanceMethod y_M_trim ∈ TT := tt_of 1090 (by decide +kernel) (by decide +kernel)
theorem wc_M_trim : Cond.code y_M_trim c_M_trim 2 none ∈ TT := tt_of 1091 (by decide +kernel) (by decide +kernel)
theorem wv_M_90 : Cond.constantLong R_M 90 (5) ∈ TT := tt_of 1092 (by decide +kernel) (by decide +kernel)
theorem wm_M_121 : Cond.methodLink R_M 121 y_M_rootOf ∈ TT := tt_of 1093 (by decide +kernel) (by decide +kernel)
theorem wi_M_rootOf : Cond.instanceMethod y_M_rootOf ∈ TT := tt_of 1095 (by decide +kernel) (by decide +kernel)
theorem wc_M_rootOf : Cond.code y_M_rootOf c_M_rootOf 8 none ∈ TT := tt_of 1096 (by decide +kernel) (by decide +kernel)
theorem wv_M_54 : Cond.constantLong R_M 54 (32768) ∈ TT := tt_of 1097 (by decide +kernel) (by decide +kernel)
theorem wm_M_46 : Cond.methodLink R_M 46 y_M_shift ∈ TT := tt_of 1098 (by decide +kernel) (by decide +kernel)
theorem wi_M_shift : Cond.instanceMethod y_M_shift ∈ TT := tt_of 1100 (by decide +kernel) (by decide +kernel)
theorem wc_M_shift : Cond.code y_M_shift c_M_shift 6 none ∈ TT := tt_of 1101 (by decide +kernel) (by decide +kernel)
theorem wm_M_70 : Cond.methodLink R_M 70 y_M_copy ∈ TT := tt_of 1102 (by decide +kernel) (by decide +kernel)
theorem wi_M_copy : Cond.instanceMethod y_M_copy ∈ TT := tt_of 1104 (by decide +kernel) (by decide +kernel)
theorem wc_M_copy : Cond.code y_M_copy c_M_copy 4 none ∈ TT := tt_of 1105 (by decide +kernel) (by decide +kernel)
theorem wv_M_73 : Cond.constantLong R_M 73 (2) ∈ TT := tt_of 1106 (by decide +kernel) (by decide +kernel)
theorem wm_M_56 : Cond.methodLink R_M 56 y_M_leading ∈ TT := tt_of 1107 (by decide +kernel) (by decide +kernel)
theorem wi_M_leading : Cond.instanceMethod y_M_leading ∈ TT := tt_of 1109 (by decide +kernel) (by decide +kernel)
theorem wc_M_leading : Cond.code y_M_leading c_M_leading 3 (some .long) ∈ TT := tt_of 1110 (by decide +kernel) (by decide +kernel)
theorem wv_M_75 : Cond.constantLong R_M 75 (3) ∈ TT := tt_of 1111 (by decide +kernel) (by decide +kernel)
theorem wv_M_77 : Cond.constantLong R_M 77 (8) ∈ TT := tt_of 1112 (by decide +kernel) (by decide +kernel)
theorem wm_M_79 : Cond.methodLink R_M 79 y_M_greatest ∈ TT := tt_of 1113 (by decide +kernel) (by decide +kernel)
theorem wi_M_greatest : Cond.instanceMethod y_M_greatest ∈ TT := tt_of 1115 (by decide +kernel) (by decide +kernel)
theorem wc_M_greatest : Cond.code y_M_greatest c_M_greatest 11 (some .long) ∈ TT := tt_of 1116 (by decide +kernel) (by decide +kernel)
theorem wm_M_67 : Cond.methodLink R_M 67 y_M_order ∈ TT := tt_of 1117 (by decide +kernel) (by decide +kernel)
theorem wi_M_order : Cond.instanceMethod y_M_order ∈ TT := tt_of 1119 (by decide +kernel) (by decide +kernel)
theorem wc_M_order : Cond.code y_M_order c_M_order 4 (some .int) ∈ TT := tt_of 1120 (by decide +kernel) (by decide +kernel)
theorem wm_M_64 : Cond.methodLink R_M 64 y_M_lessTimes ∈ TT := tt_of 1121 (by decide +kernel) (by decide +kernel)
theorem wi_M_lessTimes : Cond.instanceMethod y_M_lessTimes ∈ TT := tt_of 1123 (by decide +kernel) (by decide +kernel)
theorem wc_M_lessTimes : Cond.code y_M_lessTimes c_M_lessTimes 8 none ∈ TT := tt_of 1124 (by decide +kernel) (by decide +kernel)
theorem wm_M_50 : Cond.methodLink R_M 50 y_M_addTimes ∈ TT := tt_of 1125 (by decide +kernel) (by decide +kernel)
theorem wi_M_addTimes : Cond.instanceMethod y_M_addTimes ∈ TT := tt_of 1127 (by decide +kernel) (by decide +kernel)
theorem wc_M_addTimes : Cond.code y_M_addTimes c_M_addTimes 8 none ∈ TT := tt_of 1128 (by decide +kernel) (by decide +kernel)
theorem wm_M_87 : Cond.methodLink R_M 87 y_M_lower ∈ TT := tt_of 1129 (by decide +kernel) (by decide +kernel)
theorem wi_M_lower : Cond.instanceMethod y_M_lower ∈ TT := tt_of 1131 (by decide +kernel) (by decide +kernel)
theorem wc_M_lower : Cond.code y_M_lower c_M_lower 7 none ∈ TT := tt_of 1132 (by decide +kernel) (by decide +kernel)
theorem wm_M_157 : Cond.methodLink R_M 157 y_M_constant ∈ TT := tt_of 1133 (by decide +kernel) (by decide +kernel)
theorem wi_M_constant : Cond.instanceMethod y_M_constant ∈ TT := tt_of 1135 (by decide +kernel) (by decide +kernel)
theorem wc_M_constant : Cond.code y_M_constant c_M_constant 9 none ∈ TT := tt_of 1136 (by decide +kernel) (by decide +kernel)
theorem wm_M_106 : Cond.methodLink R_M 106 y_M_arcs ∈ TT := tt_of 1137 (by decide +kernel) (by decide +kernel)
theorem wi_M_arcs : Cond.instanceMethod y_M_arcs ∈ TT := tt_of 1139 (by decide +kernel) (by decide +kernel)
theorem wc_M_arcs : Cond.code y_M_arcs c_M_arcs 2 (some .int) ∈ TT := tt_of 1140 (by decide +kernel) (by decide +kernel)
theorem wv_M_92 : Cond.constantLong R_M 92 (16) ∈ TT := tt_of 1141 (by decide +kernel) (by decide +kernel)
theorem wm_M_94 : Cond.methodLink R_M 94 y_M_arc ∈ TT := tt_of 1142 (by decide +kernel) (by decide +kernel)
theorem wi_M_arc : Cond.instanceMethod y_M_arc ∈ TT := tt_of 1144 (by decide +kernel) (by decide +kernel)
theorem wc_M_arc : Cond.code y_M_arc c_M_arc 7 (some .int) ∈ TT := tt_of 1145 (by decide +kernel) (by decide +kernel)
theorem wv_M_98 : Cond.constantLong R_M 98 (239) ∈ TT := tt_of 1146 (by decide +kernel) (by decide +kernel)
theorem wv_M_100 : Cond.constantLong R_M 100 (4) ∈ TT := tt_of 1147 (by decide +kernel) (by decide +kernel)
theorem wm_M_110 : Cond.methodLink R_M 110 y_M_factorials ∈ TT := tt_of 1148 (by decide +kernel) (by decide +kernel)
theorem wi_M_factorials : Cond.instanceMethod y_M_factorials ∈ TT := tt_of 1150 (by decide +kernel) (by decide +kernel)
theorem wc_M_factorials : Cond.code y_M_factorials c_M_factorials 2 (some .int) ∈ TT := tt_of 1151 (by decide +kernel) (by decide +kernel)
theorem wm_M_113 : Cond.methodLink R_M 113 y_M_halves ∈ TT := tt_of 1152 (by decide +kernel) (by decide +kernel)
theorem wi_M_halves : Cond.instanceMethod y_M_halves ∈ TT := tt_of 1154 (by decide +kernel) (by decide +kernel)
theorem wc_M_halves : Cond.code y_M_halves c_M_halves 2 (some .int) ∈ TT := tt_of 1155 (by decide +kernel) (by decide +kernel)
theorem wm_M_116 : Cond.methodLink R_M 116 y_M_cubes ∈ TT := tt_of 1156 (by decide +kernel) (by decide +kernel)
theorem wi_M_cubes : Cond.instanceMethod y_M_cubes ∈ TT := tt_of 1158 (by decide +kernel) (by decide +kernel)
theorem wc_M_cubes : Cond.code y_M_cubes c_M_cubes 2 (some .int) ∈ TT := tt_of 1159 (by decide +kernel) (by decide +kernel)
theorem wv_M_119 : Cond.constantLong R_M 119 (64) ∈ TT := tt_of 1160 (by decide +kernel) (by decide +kernel)
theorem wm_M_160 : Cond.methodLink R_M 160 y_M_told ∈ TT := tt_of 1161 (by decide +kernel) (by decide +kernel)
theorem wi_M_told : Cond.instanceMethod y_M_told ∈ TT := tt_of 1163 (by decide +kernel) (by decide +kernel)
theorem wc_M_told : Cond.code y_M_told c_M_told 2 (some .int) ∈ TT := tt_of 1164 (by decide +kernel) (by decide +kernel)
theorem wm_M_140 : Cond.methodLink R_M 140 y_M_howMany ∈ TT := tt_of 1165 (by decide +kernel) (by decide +kernel)
theorem wi_M_howMany : Cond.instanceMethod y_M_howMany ∈ TT := tt_of 1167 (by decide +kernel) (by decide +kernel)
theorem wc_M_howMany : Cond.code y_M_howMany c_M_howMany 1 (some .int) ∈ TT := tt_of 1168 (by decide +kernel) (by decide +kernel)
theorem wm_M_143 : Cond.methodLink R_M 143 y_M_tell ∈ TT := tt_of 1169 (by decide +kernel) (by decide +kernel)
theorem wi_M_tell : Cond.instanceMethod y_M_tell ∈ TT := tt_of 1171 (by decide +kernel) (by decide +kernel)
theorem wc_M_tell : Cond.code y_M_tell c_M_tell 5 none ∈ TT := tt_of 1172 (by decide +kernel) (by decide +kernel)
theorem wv_M_149 : Cond.constant R_M 149 (32768) ∈ TT := tt_of 1173 (by decide +kernel) (by decide +kernel)
theorem wm_L_83 : Cond.methodLink R_L 83 y_M_root ∈ TT := tt_of 1174 (by decide +kernel) (by decide +kernel)
theorem wi_M_root : Cond.instanceMethod y_M_root ∈ TT := tt_of 1175 (by decide +kernel) (by decide +kernel)
theorem ws_M_root : Cond.selects R_M y_M_root y_M_root ∈ TT := tt_of 1176 (by decide +kernel) (by decide +kernel)
theorem wc_M_root : Cond.code y_M_root c_M_root 5 (some .int) ∈ TT := tt_of 1177 (by decide +kernel) (by decide +kernel)
theorem wm_M_163 : Cond.methodLink R_M 163 y_M_product ∈ TT := tt_of 1178 (by decide +kernel) (by decide +kernel)
theorem wi_M_product : Cond.instanceMethod y_M_product ∈ TT := tt_of 1180 (by decide +kernel) (by decide +kernel)
theorem wc_M_product : Cond.code y_M_product c_M_product 5 none ∈ TT := tt_of 1181 (by decide +kernel) (by decide +kernel)
theorem wm_L_87 : Cond.methodLink R_L 87 y_M_over ∈ TT := tt_of 1182 (by decide +kernel) (by decide +kernel)
theorem wi_M_over : Cond.instanceMethod y_M_over ∈ TT := tt_of 1183 (by decide +kernel) (by decide +kernel)
theorem ws_M_over : Cond.selects R_M y_M_over y_M_over ∈ TT := tt_of 1184 (by decide +kernel) (by decide +kernel)
theorem wc_M_over : Cond.code y_M_over c_M_over 7 (some .int) ∈ TT := tt_of 1185 (by decide +kernel) (by decide +kernel)
theorem wm_M_166 : Cond.methodLink R_M 166 y_M_quotient ∈ TT := tt_of 1186 (by decide +kernel) (by decide +kernel)
theorem wi_M_quotient : Cond.instanceMethod y_M_quotient ∈ TT := tt_of 1188 (by decide +kernel) (by decide +kernel)
theorem wc_M_quotient : Cond.code y_M_quotient c_M_quotient 10 none ∈ TT := tt_of 1189 (by decide +kernel) (by decide +kernel)
theorem wm_L_91 : Cond.methodLink R_L 91 y_M_number ∈ TT := tt_of 1190 (by decide +kernel) (by decide +kernel)
theorem wi_M_number : Cond.instanceMethod y_M_number ∈ TT := tt_of 1191 (by decide +kernel) (by decide +kernel)
theorem ws_M_number : Cond.selects R_M y_M_number y_M_number ∈ TT := tt_of 1192 (by decide +kernel) (by decide +kernel)
theorem wc_M_number : Cond.code y_M_number c_M_number 4 (some .int) ∈ TT := tt_of 1193 (by decide +kernel) (by decide +kernel)
theorem wm_L_95 : Cond.methodLink R_L 95 y_M_push ∈ TT := tt_of 1194 (by decide +kernel) (by decide +kernel)
theorem wi_M_push : Cond.instanceMethod y_M_push ∈ TT := tt_of 1195 (by decide +kernel) (by decide +kernel)
theorem ws_M_push : Cond.selects R_M y_M_push y_M_push ∈ TT := tt_of 1196 (by decide +kernel) (by decide +kernel)
theorem wc_M_push : Cond.code y_M_push c_M_push 2 (some .int) ∈ TT := tt_of 1197 (by decide +kernel) (by decide +kernel)
theorem wm_M_172 : Cond.methodLink R_M 172 y_M_become ∈ TT := tt_of 1198 (by decide +kernel) (by decide +kernel)
theorem wi_M_become : Cond.instanceMethod y_M_become ∈ TT := tt_of 1200 (by decide +kernel) (by decide +kernel)
theorem wc_M_become : Cond.code y_M_become c_M_become 3 (some .int) ∈ TT := tt_of 1201 (by decide +kernel) (by decide +kernel)
theorem wm_M_169 : Cond.methodLink R_M 169 y_M_length ∈ TT := tt_of 1202 (by decide +kernel) (by decide +kernel)
theorem wi_M_length : Cond.instanceMethod y_M_length ∈ TT := tt_of 1204 (by decide +kernel) (by decide +kernel)
theorem wc_M_length : Cond.code y_M_length c_M_length 3 (some .int) ∈ TT := tt_of 1205 (by decide +kernel) (by decide +kernel)
theorem wm_L_99 : Cond.methodLink R_L 99 y_M_keep ∈ TT := tt_of 1206 (by decide +kernel) (by decide +kernel)
theorem wi_M_keep : Cond.instanceMethod y_M_keep ∈ TT := tt_of 1207 (by decide +kernel) (by decide +kernel)
theorem ws_M_keep : Cond.selects R_M y_M_keep y_M_keep ∈ TT := tt_of 1208 (by decide +kernel) (by decide +kernel)
theorem wc_M_keep : Cond.code y_M_keep c_M_keep 1 none ∈ TT := tt_of 1209 (by decide +kernel) (by decide +kernel)
theorem wm_L_103 : Cond.methodLink R_L 103 y_M_swap ∈ TT := tt_of 1210 (by decide +kernel) (by decide +kernel)
theorem wi_M_swap : Cond.instanceMethod y_M_swap ∈ TT := tt_of 1211 (by decide +kernel) (by decide +kernel)
theorem ws_M_swap : Cond.selects R_M y_M_swap y_M_swap ∈ TT := tt_of 1212 (by decide +kernel) (by decide +kernel)
theorem wc_M_swap : Cond.code y_M_swap c_M_swap 2 (some .int) ∈ TT := tt_of 1213 (by decide +kernel) (by decide +kernel)
theorem wm_L_107 : Cond.methodLink R_L 107 y_M_add ∈ TT := tt_of 1214 (by decide +kernel) (by decide +kernel)
theorem wi_M_add : Cond.instanceMethod y_M_add ∈ TT := tt_of 1215 (by decide +kernel) (by decide +kernel)
theorem ws_M_add : Cond.selects R_M y_M_add y_M_add ∈ TT := tt_of 1216 (by decide +kernel) (by decide +kernel)
theorem wc_M_add : Cond.code y_M_add c_M_add 1 (some .int) ∈ TT := tt_of 1217 (by decide +kernel) (by decide +kernel)
theorem wm_L_110 : Cond.methodLink R_L 110 y_M_subtract ∈ TT := tt_of 1218 (by decide +kernel) (by decide +kernel)
theorem wi_M_subtract : Cond.instanceMethod y_M_subtract ∈ TT := tt_of 1219 (by decide +kernel) (by decide +kernel)
theorem ws_M_subtract : Cond.selects R_M y_M_subtract y_M_subtract ∈ TT := tt_of 1220 (by decide +kernel) (by decide +kernel)
theorem wc_M_subtract : Cond.code y_M_subtract c_M_subtract 1 (some .int) ∈ TT := tt_of 1221 (by decide +kernel) (by decide +kernel)
theorem wm_L_113 : Cond.methodLink R_L 113 y_M_times ∈ TT := tt_of 1222 (by decide +kernel) (by decide +kernel)
theorem wi_M_times : Cond.instanceMethod y_M_times ∈ TT := tt_of 1223 (by decide +kernel) (by decide +kernel)
theorem ws_M_times : Cond.selects R_M y_M_times y_M_times ∈ TT := tt_of 1224 (by decide +kernel) (by decide +kernel)
theorem wc_M_times : Cond.code y_M_times c_M_times 1 (some .int) ∈ TT := tt_of 1225 (by decide +kernel) (by decide +kernel)
theorem wm_L_116 : Cond.methodLink R_L 116 y_M_divide ∈ TT := tt_of 1226 (by decide +kernel) (by decide +kernel)
theorem wi_M_divide : Cond.instanceMethod y_M_divide ∈ TT := tt_of 1227 (by decide +kernel) (by decide +kernel)
theorem ws_M_divide : Cond.selects R_M y_M_divide y_M_divide ∈ TT := tt_of 1228 (by decide +kernel) (by decide +kernel)
theorem wc_M_divide : Cond.code y_M_divide c_M_divide 1 (some .int) ∈ TT := tt_of 1229 (by decide +kernel) (by decide +kernel)
theorem wm_L_120 : Cond.methodLink R_L 120 y_M_rooted ∈ TT := tt_of 1230 (by decide +kernel) (by decide +kernel)
theorem wi_M_rooted : Cond.instanceMethod y_M_rooted ∈ TT := tt_of 1231 (by decide +kernel) (by decide +kernel)
theorem ws_M_rooted : Cond.selects R_M y_M_rooted y_M_rooted ∈ TT := tt_of 1232 (by decide +kernel) (by decide +kernel)
theorem wc_M_rooted : Cond.code y_M_rooted c_M_rooted 1 (some .int) ∈ TT := tt_of 1233 (by decide +kernel) (by decide +kernel)
theorem wm_L_123 : Cond.methodLink R_L 123 y_M_convert ∈ TT := tt_of 1234 (by decide +kernel) (by decide +kernel)
theorem wi_M_convert : Cond.instanceMethod y_M_convert ∈ TT := tt_of 1235 (by decide +kernel) (by decide +kernel)
theorem ws_M_convert : Cond.selects R_M y_M_convert y_M_convert ∈ TT := tt_of 1236 (by decide +kernel) (by decide +kernel)
theorem wc_M_convert : Cond.code y_M_convert c_M_convert 2 (some .int) ∈ TT := tt_of 1237 (by decide +kernel) (by decide +kernel)
theorem wm_L_126 : Cond.methodLink R_L 126 y_M_digit ∈ TT := tt_of 1238 (by decide +kernel) (by decide +kernel)
theorem wi_M_digit : Cond.instanceMethod y_M_digit ∈ TT := tt_of 1239 (by decide +kernel) (by decide +kernel)
theorem ws_M_digit : Cond.selects R_M y_M_digit y_M_digit ∈ TT := tt_of 1240 (by decide +kernel) (by decide +kernel)
theorem wc_M_digit : Cond.code y_M_digit c_M_digit 2 (some .int) ∈ TT := tt_of 1241 (by decide +kernel) (by decide +kernel)
theorem wm_L_129 : Cond.methodLink R_L 129 y_M_about ∈ TT := tt_of 1242 (by decide +kernel) (by decide +kernel)
theorem wi_M_about : Cond.instanceMethod y_M_about ∈ TT := tt_of 1243 (by decide +kernel) (by decide +kernel)
theorem ws_M_about : Cond.selects R_M y_M_about y_M_about ∈ TT := tt_of 1244 (by decide +kernel) (by decide +kernel)
theorem wc_M_about : Cond.code y_M_about c_M_about 4 (some .int) ∈ TT := tt_of 1245 (by decide +kernel) (by decide +kernel)
theorem wm_L_132 : Cond.methodLink R_L 132 y_M_count ∈ TT := tt_of 1246 (by decide +kernel) (by decide +kernel)
theorem wi_M_count : Cond.instanceMethod y_M_count ∈ TT := tt_of 1247 (by decide +kernel) (by decide +kernel)
theorem ws_M_count : Cond.selects R_M y_M_count y_M_count ∈ TT := tt_of 1248 (by decide +kernel) (by decide +kernel)
theorem wc_M_count : Cond.code y_M_count c_M_count 6 (some .int) ∈ TT := tt_of 1249 (by decide +kernel) (by decide +kernel)
theorem wm_L_135 : Cond.methodLink R_L 135 y_M_find ∈ TT := tt_of 1250 (by decide +kernel) (by decide +kernel)
theorem wi_M_find : Cond.instanceMethod y_M_find ∈ TT := tt_of 1251 (by decide +kernel) (by decide +kernel)
theorem ws_M_find : Cond.selects R_M y_M_find y_M_find ∈ TT := tt_of 1252 (by decide +kernel) (by decide +kernel)
theorem wc_M_find : Cond.code y_M_find c_M_find 11 (some .int) ∈ TT := tt_of 1253 (by decide +kernel) (by decide +kernel)
theorem wm_L_139 : Cond.methodLink R_L 139 y_M_compare ∈ TT := tt_of 1254 (by decide +kernel) (by decide +kernel)
theorem wi_M_compare : Cond.instanceMethod y_M_compare ∈ TT := tt_of 1255 (by decide +kernel) (by decide +kernel)
theorem ws_M_compare : Cond.selects R_M y_M_compare y_M_compare ∈ TT := tt_of 1256 (by decide +kernel) (by decide +kernel)
theorem wc_M_compare : Cond.code y_M_compare c_M_compare 1 (some .int) ∈ TT := tt_of 1257 (by decide +kernel) (by decide +kernel)
theorem wv_L_78 : Cond.constantLong R_L 78 (4294967295) ∈ TT := tt_of 1258 (by decide +kernel) (by decide +kernel)
theorem ws_T_setPowers : Cond.selects R_T y_T_setPowers y_T_setPowers ∈ TT := tt_of 0 (by decide +kernel) (by decide +kernel)
theorem ws_D_digits : Cond.selects R_D y_D_digits y_D_digits ∈ TT := tt_of 1 (by decide +kernel) (by decide +kernel)
theorem ws_T_measure : Cond.selects R_T y_T_measure y_T_measure ∈ TT := tt_of 2 (by decide +kernel) (by decide +kernel)
theorem ws_B_takeFirstRootLimb : Cond.selects R_B y_B_takeFirstRootLimb y_B_takeFirstRootLimb ∈ TT := tt_of 4 (by decide +kernel) (by decide +kernel)
theorem ws_B_setTwice : Cond.selects R_B y_B_setTwice y_B_setTwice ∈ TT := tt_of 5 (by decide +kernel) (by decide +kernel)
theorem ws_B_takeRootLimb : Cond.selects R_B y_B_takeRootLimb y_B_takeRootLimb ∈ TT := tt_of 6 (by decide +kernel) (by decide +kernel)
theorem ws_D_retell : Cond.selects R_D y_D_retell y_D_retell ∈ TT := tt_of 7 (by decide +kernel) (by decide +kernel)
theorem ws_D_makeConstant : Cond.selects R_D y_D_makeConstant y_D_makeConstant ∈ TT := tt_of 8 (by decide +kernel) (by decide +kernel)
theorem ws_S_sumUp : Cond.selects R_S y_S_sumUp y_S_sumUp ∈ TT := tt_of 9 (by decide +kernel) (by decide +kernel)
theorem ws_S_sumPi : Cond.selects R_S y_S_sumPi y_S_sumPi ∈ TT := tt_of 10 (by decide +kernel) (by decide +kernel)
theorem ws_S_foldArctan : Cond.selects R_S y_S_foldArctan y_S_foldArctan ∈ TT := tt_of 11 (by decide +kernel) (by decide +kernel)
theorem ws_S_begin : Cond.selects R_S y_S_begin y_S_begin ∈ TT := tt_of 12 (by decide +kernel) (by decide +kernel)
theorem ws_S_bitsNeeded : Cond.selects R_S y_S_bitsNeeded y_S_bitsNeeded ∈ TT := tt_of 13 (by decide +kernel) (by decide +kernel)
theorem ws_S_lowest : Cond.selects R_S y_S_lowest y_S_lowest ∈ TT := tt_of 14 (by decide +kernel) (by decide +kernel)
theorem ws_S_fold : Cond.selects R_S y_S_fold y_S_fold ∈ TT := tt_of 15 (by decide +kernel) (by decide +kernel)
theorem ws_S_gather : Cond.selects R_S y_S_gather y_S_gather ∈ TT := tt_of 16 (by decide +kernel) (by decide +kernel)
theorem ws_S_sumE : Cond.selects R_S y_S_sumE y_S_sumE ∈ TT := tt_of 17 (by decide +kernel) (by decide +kernel)
theorem ws_S_sumLogTwo : Cond.selects R_S y_S_sumLogTwo y_S_sumLogTwo ∈ TT := tt_of 18 (by decide +kernel) (by decide +kernel)
theorem ws_S_sumCubes : Cond.selects R_S y_S_sumCubes y_S_sumCubes ∈ TT := tt_of 19 (by decide +kernel) (by decide +kernel)
theorem ws_S_settle : Cond.selects R_S y_S_settle y_S_settle ∈ TT := tt_of 20 (by decide +kernel) (by decide +kernel)
theorem ws_B_quotientLimb : Cond.selects R_B y_B_quotientLimb y_B_quotientLimb ∈ TT := tt_of 21 (by decide +kernel) (by decide +kernel)
theorem ws_D_digitSum : Cond.selects R_D y_D_digitSum y_D_digitSum ∈ TT := tt_of 22 (by decide +kernel) (by decide +kernel)
theorem ws_M_isWrong : Cond.selects R_M y_M_isWrong y_M_isWrong ∈ TT := tt_of 23 (by decide +kernel) (by decide +kernel)
theorem ws_M_fails : Cond.selects R_M y_M_fails y_M_fails ∈ TT := tt_of 24 (by decide +kernel) (by decide +kernel)
theorem ws_M_golden : Cond.selects R_M y_M_golden y_M_golden ∈ TT := tt_of 25 (by decide +kernel) (by decide +kernel)
theorem ws_M_power : Cond.selects R_M y_M_power y_M_power ∈ TT := tt_of 26 (by decide +kernel) (by decide +kernel)
theorem ws_M_set : Cond.selects R_M y_M_set y_M_set ∈ TT := tt_of 27 (by decide +kernel) (by decide +kernel)
theorem ws_M_grow : Cond.selects R_M y_M_grow y_M_grow ∈ TT := tt_of 28 (by decide +kernel) (by decide +kernel)
theorem ws_M_at : Cond.selects R_M y_M_at y_M_at ∈ TT := tt_of 29 (by decide +kernel) (by decide +kernel)
theorem ws_M_trim : Cond.selects R_M y_M_trim y_M_trim ∈ TT := tt_of 30 (by decide +kernel) (by decide +kernel)
theorem ws_M_rootOf : Cond.selects R_M y_M_rootOf y_M_rootOf ∈ TT := tt_of 31 (by decide +kernel) (by decide +kernel)
theorem ws_M_shift : Cond.selects R_M y_M_shift y_M_shift ∈ TT := tt_of 32 (by decide +kernel) (by decide +kernel)
theorem ws_M_copy : Cond.selects R_M y_M_copy y_M_copy ∈ TT := tt_of 33 (by decide +kernel) (by decide +kernel)
theorem ws_M_leading : Cond.selects R_M y_M_leading y_M_leading ∈ TT := tt_of 34 (by decide +kernel) (by decide +kernel)
theorem ws_M_greatest : Cond.selects R_M y_M_greatest y_M_greatest ∈ TT := tt_of 35 (by decide +kernel) (by decide +kernel)
theorem ws_M_order : Cond.selects R_M y_M_order y_M_order ∈ TT := tt_of 36 (by decide +kernel) (by decide +kernel)
theorem ws_M_lessTimes : Cond.selects R_M y_M_lessTimes y_M_lessTimes ∈ TT := tt_of 37 (by decide +kernel) (by decide +kernel)
theorem ws_M_addTimes : Cond.selects R_M y_M_addTimes y_M_addTimes ∈ TT := tt_of 38 (by decide +kernel) (by decide +kernel)
theorem ws_M_lower : Cond.selects R_M y_M_lower y_M_lower ∈ TT := tt_of 39 (by decide +kernel) (by decide +kernel)
theorem ws_M_constant : Cond.selects R_M y_M_constant y_M_constant ∈ TT := tt_of 40 (by decide +kernel) (by decide +kernel)
theorem ws_M_arcs : Cond.selects R_M y_M_arcs y_M_arcs ∈ TT := tt_of 41 (by decide +kernel) (by decide +kernel)
theorem ws_M_arc : Cond.selects R_M y_M_arc y_M_arc ∈ TT := tt_of 42 (by decide +kernel) (by decide +kernel)
theorem ws_M_factorials : Cond.selects R_M y_M_factorials y_M_factorials ∈ TT := tt_of 43 (by decide +kernel) (by decide +kernel)
theorem ws_M_halves : Cond.selects R_M y_M_halves y_M_halves ∈ TT := tt_of 44 (by decide +kernel) (by decide +kernel)
theorem ws_M_cubes : Cond.selects R_M y_M_cubes y_M_cubes ∈ TT := tt_of 45 (by decide +kernel) (by decide +kernel)
theorem ws_M_told : Cond.selects R_M y_M_told y_M_told ∈ TT := tt_of 46 (by decide +kernel) (by decide +kernel)
theorem ws_M_howMany : Cond.selects R_M y_M_howMany y_M_howMany ∈ TT := tt_of 47 (by decide +kernel) (by decide +kernel)
theorem ws_M_tell : Cond.selects R_M y_M_tell y_M_tell ∈ TT := tt_of 48 (by decide +kernel) (by decide +kernel)
theorem ws_M_product : Cond.selects R_M y_M_product y_M_product ∈ TT := tt_of 49 (by decide +kernel) (by decide +kernel)
theorem ws_M_quotient : Cond.selects R_M y_M_quotient y_M_quotient ∈ TT := tt_of 50 (by decide +kernel) (by decide +kernel)
theorem ws_M_become : Cond.selects R_M y_M_become y_M_become ∈ TT := tt_of 51 (by decide +kernel) (by decide +kernel)
theorem ws_M_length : Cond.selects R_M y_M_length y_M_length ∈ TT := tt_of 52 (by decide +kernel) (by decide +kernel)
theorem in_B : ∀ w ∈ u_ws R_B F_B 3, w ∈ TT := fun w h => by
  have h2 : w ∈ [Cond.laysFinal R_B "DigitMill$Bench" "left" "LDigitMill$Whole;", Cond.laysFinal R_B "DigitMill$Bench" "right" "LDigitMill$Whole;", Cond.laysFinal R_B "DigitMill$Bench" "result" "LDigitMill$Whole;"] := h
  revert w
  intro w _ h2
  simp only [List.mem_cons, List.not_mem_nil, or_false] at h2
  rcases h2 with rfl | rfl | rfl
  · exact tt_of 161 (by decide +kernel) (by decide +kernel)
  · exact tt_of 163 (by decide +kernel) (by decide +kernel)
  · exact tt_of 165 (by decide +kernel) (by decide +kernel)
theorem in_S : ∀ w ∈ u_ws R_S F_S 5, w ∈ TT := fun w h => by
  have h2 : w ∈ [Cond.laysFinal R_S "DigitMill$Series" "rows" "[[I", Cond.laysFinal R_S "DigitMill$Series" "depths" "[I", Cond.laysFinal R_S "DigitMill$Series" "work" "[J", Cond.laysFinal R_S "DigitMill$Series" "sum" "[J", Cond.lays R_S "DigitMill$Series" "depth" "I"] := h
  revert w
  intro w _ h2
  simp only [List.mem_cons, List.not_mem_nil, or_false] at h2
  rcases h2 with rfl | rfl | rfl | rfl | rfl
  · exact tt_of 181 (by decide +kernel) (by decide +kernel)
  · exact tt_of 183 (by decide +kernel) (by decide +kernel)
  · exact tt_of 185 (by decide +kernel) (by decide +kernel)
  · exact tt_of 187 (by decide +kernel) (by decide +kernel)
  · exact tt_of 189 (by decide +kernel) (by decide +kernel)
theorem in_T : ∀ w ∈ u_ws R_T F_T 8, w ∈ TT := fun w h => by
  have h2 : w ∈ [Cond.laysFinal R_T "DigitMill$Text" "whole" "LDigitMill$Whole;", Cond.lays R_T "DigitMill$Text" "base" "I", Cond.laysFinal R_T "DigitMill$Text" "groups" "[I", Cond.lays R_T "DigitMill$Text" "groupsUsed" "I", Cond.lays R_T "DigitMill$Text" "perGroup" "I", Cond.laysFinal R_T "DigitMill$Text" "powers" "[I", Cond.lays R_T "DigitMill$Text" "digits" "I", Cond.lays R_T "DigitMill$Text" "told" "Z"] := h
  revert w
  intro w _ h2
  simp only [List.mem_cons, List.not_mem_nil, or_false] at h2
  rcases h2 with rfl | rfl | rfl | rfl | rfl | rfl | rfl | rfl
  · exact tt_of 130 (by decide +kernel) (by decide +kernel)
  · exact tt_of 132 (by decide +kernel) (by decide +kernel)
  · exact tt_of 134 (by decide +kernel) (by decide +kernel)
  · exact tt_of 136 (by decide +kernel) (by decide +kernel)
  · exact tt_of 138 (by decide +kernel) (by decide +kernel)
  · exact tt_of 140 (by decide +kernel) (by decide +kernel)
  · exact tt_of 142 (by decide +kernel) (by decide +kernel)
  · exact tt_of 144 (by decide +kernel) (by decide +kernel)
theorem in_H : ∀ w ∈ u_ws R_H F_H 2, w ∈ TT := fun w h => by
  have h2 : w ∈ [Cond.laysFinal R_H "DigitMill$Whole" "limbs" "[I", Cond.lays R_H "DigitMill$Whole" "size" "I"] := h
  revert w
  intro w _ h2
  simp only [List.mem_cons, List.not_mem_nil, or_false] at h2
  rcases h2 with rfl | rfl
  · exact tt_of 105 (by decide +kernel) (by decide +kernel)
  · exact tt_of 107 (by decide +kernel) (by decide +kernel)
theorem in_D : ∀ w ∈ u_ws R_D F_D 4, w ∈ TT := fun w h => by
  have h2 : w ∈ [Cond.lays R_D "DigitMill" "text" "LDigitMill$Text;", Cond.lays R_D "DigitMill" "other" "LDigitMill$Text;", Cond.laysFinal R_D "DigitMill" "bench" "LDigitMill$Bench;", Cond.laysFinal R_D "DigitMill" "series" "LDigitMill$Series;"] := h
  revert w
  intro w _ h2
  simp only [List.mem_cons, List.not_mem_nil, or_false] at h2
  rcases h2 with rfl | rfl | rfl | rfl
  · exact tt_of 197 (by decide +kernel) (by decide +kernel)
  · exact tt_of 199 (by decide +kernel) (by decide +kernel)
  · exact tt_of 201 (by decide +kernel) (by decide +kernel)
  · exact tt_of 203 (by decide +kernel) (by decide +kernel)
theorem in_M : ∀ w ∈ u_ws R_M F_M 10, w ∈ TT := fun w h => by
  have h2 : w ∈ [Cond.laysFinal R_M "DigitMillModel" "d" "[I", Cond.laysFinal R_M "DigitMillModel" "n" "[I", Cond.lays R_M "DigitMillModel" "base" "I", Cond.lays R_M "DigitMillModel" "otherBase" "I", Cond.laysFinal R_M "DigitMillModel" "digits" "[I", Cond.lays R_M "DigitMillModel" "many" "I", Cond.lays R_M "DigitMillModel" "known" "Z", Cond.laysFinal R_M "DigitMillModel" "wanted" "[I", Cond.lays R_M "DigitMillModel" "thrown" "I", Cond.lays R_M "DigitMillModel" "left" "J"] := h
  revert w
  intro w _ h2
  simp only [List.mem_cons, List.not_mem_nil, or_false] at h2
  rcases h2 with rfl | rfl | rfl | rfl | rfl | rfl | rfl | rfl | rfl | rfl
  · exact tt_of 1024 (by decide +kernel) (by decide +kernel)
  · exact tt_of 1026 (by decide +kernel) (by decide +kernel)
  · exact tt_of 1028 (by decide +kernel) (by decide +kernel)
  · exact tt_of 1030 (by decide +kernel) (by decide +kernel)
  · exact tt_of 1032 (by decide +kernel) (by decide +kernel)
  · exact tt_of 1034 (by decide +kernel) (by decide +kernel)
  · exact tt_of 1036 (by decide +kernel) (by decide +kernel)
  · exact tt_of 1038 (by decide +kernel) (by decide +kernel)
  · exact tt_of 1040 (by decide +kernel) (by decide +kernel)
  · exact tt_of 1042 (by decide +kernel) (by decide +kernel)
end
section
theorem d_T_init_0 : decode c_T_init 0 = .ok (.aload_n 0, 1) := by decide +kernel
theorem d_T_init_1 : decode c_T_init 1 = .ok (.invokespecial 3, 3) := by decide +kernel
theorem d_T_init_4 : decode c_T_init 4 = .ok (.aload_n 0, 1) := by decide +kernel
theorem d_T_init_5 : decode c_T_init 5 = .ok (.new 9, 3) := by decide +kernel
theorem d_T_init_8 : decode c_T_init 8 = .ok (.dup, 1) := by decide +kernel
theorem d_T_init_9 : decode c_T_init 9 = .ok (.sipush 800, 3) := by decide +kernel
theorem d_T_init_12 : decode c_T_init 12 = .ok (.invokespecial 11, 3) := by decide +kernel
theorem d_T_init_15 : decode c_T_init 15 = .ok (.putfield 14, 3) := by decide +kernel
theorem d_T_init_18 : decode c_T_init 18 = .ok (.aload_n 0, 1) := by decide +kernel
theorem d_T_init_19 : decode c_T_init 19 = .ok (.bipush 10, 2) := by decide +kernel
theorem d_T_init_21 : decode c_T_init 21 = .ok (.putfield 20, 3) := by decide +kernel
theorem d_T_init_24 : decode c_T_init 24 = .ok (.aload_n 0, 1) := by decide +kernel
theorem d_T_init_25 : decode c_T_init 25 = .ok (.sipush 960, 3) := by decide +kernel
theorem d_T_init_28 : decode c_T_init 28 = .ok (.newarray .int, 2) := by decide +kernel
theorem d_T_init_30 : decode c_T_init 30 = .ok (.putfield 24, 3) := by decide +kernel
theorem d_T_init_33 : decode c_T_init 33 = .ok (.aload_n 0, 1) := by decide +kernel
theorem d_T_init_34 : decode c_T_init 34 = .ok (.bipush 31, 2) := by decide +kernel
theorem d_T_init_36 : decode c_T_init 36 = .ok (.newarray .int, 2) := by decide +kernel
theorem d_T_init_38 : decode c_T_init 38 = .ok (.putfield 28, 3) := by decide +kernel
theorem d_T_init_41 : decode c_T_init 41 = .ok (.aload_n 0, 1) := by decide +kernel
theorem d_T_init_42 : decode c_T_init 42 = .ok (.invokevirtual 31, 3) := by decide +kernel
theorem d_T_init_45 : decode c_T_init 45 = .ok (.aload_n 0, 1) := by decide +kernel
theorem d_T_init_46 : decode c_T_init 46 = .ok (.iconst 1, 1) := by decide +kernel
theorem d_T_init_47 : decode c_T_init 47 = .ok (.putfield 34, 3) := by decide +kernel
theorem d_T_init_50 : decode c_T_init 50 = .ok (.aload_n 0, 1) := by decide +kernel
theorem d_T_init_51 : decode c_T_init 51 = .ok (.iconst 1, 1) := by decide +kernel
theorem d_T_init_52 : decode c_T_init 52 = .ok (.putfield 37, 3) := by decide +kernel
theorem d_T_init_55 : decode c_T_init 55 = .ok (.aload_n 0, 1) := by decide +kernel
theorem d_T_init_56 : decode c_T_init 56 = .ok (.iconst 1, 1) := by decide +kernel
theorem d_T_init_57 : decode c_T_init 57 = .ok (.putfield 40, 3) := by decide +kernel
theorem d_T_init_60 : decode c_T_init 60 = .ok (.return_, 1) := by decide +kernel
theorem d_T_setPowers_0 : decode c_T_setPowers 0 = .ok (.aload_n 0, 1) := by decide +kernel
theorem d_T_setPowers_1 : decode c_T_setPowers 1 = .ok (.aload_n 0, 1) := by decide +kernel
theorem d_T_setPowers_2 : decode c_T_setPowers 2 = .ok (.getfield 20, 3) := by decide +kernel
theorem d_T_setPowers_5 : decode c_T_setPowers 5 = .ok (.invokestatic 80, 3) := by decide +kernel
theorem d_T_setPowers_8 : decode c_T_setPowers 8 = .ok (.putfield 61, 3) := by decide +kernel
theorem d_T_setPowers_11 : decode c_T_setPowers 11 = .ok (.aload_n 0, 1) := by decide +kernel
theorem d_T_setPowers_12 : decode c_T_setPowers 12 = .ok (.getfield 28, 3) := by decide +kernel
theorem d_T_setPowers_15 : decode c_T_setPowers 15 = .ok (.iconst 0, 1) := by decide +kernel
theorem d_T_setPowers_16 : decode c_T_setPowers 16 = .ok (.iconst 1, 1) := by decide +kernel
theorem d_T_setPowers_17 : decode c_T_setPowers 17 = .ok (.iastore, 1) := by decide +kernel
theorem d_T_setPowers_18 : decode c_T_setPowers 18 = .ok (.iconst 1, 1) := by decide +kernel
theorem d_T_setPowers_19 : decode c_T_setPowers 19 = .ok (.istore_n 1, 1) := by decide +kernel
theorem d_T_setPowers_20 : decode c_T_setPowers 20 = .ok (.iload_n 1, 1) := by decide +kernel
theorem d_T_setPowers_21 : decode c_T_setPowers 21 = .ok (.aload_n 0, 1) := by decide +kernel
theorem d_T_setPowers_22 : decode c_T_setPowers 22 = .ok (.getfield 61, 3) := by decide +kernel
theorem d_T_setPowers_25 : decode c_T_setPowers 25 = .ok (.if_icmp .gt 28, 3) := by decide +kernel
theorem d_T_setPowers_28 : decode c_T_setPowers 28 = .ok (.aload_n 0, 1) := by decide +kernel
theorem d_T_setPowers_29 : decode c_T_setPowers 29 = .ok (.getfield 28, 3) := by decide +kernel
theorem d_T_setPowers_32 : decode c_T_setPowers 32 = .ok (.iload_n 1, 1) := by decide +kernel
theorem d_T_setPowers_33 : decode c_T_setPowers 33 = .ok (.aload_n 0, 1) := by decide +kernel
theorem d_T_setPowers_34 : decode c_T_setPowers 34 = .ok (.getfield 28, 3) := by decide +kernel
theorem d_T_setPowers_37 : decode c_T_setPowers 37 = .ok (.iload_n 1, 1) := by decide +kernel
theorem d_T_setPowers_38 : decode c_T_setPowers 38 = .ok (.iconst 1, 1) := by decide +kernel
theorem d_T_setPowers_39 : decode c_T_setPowers 39 = .ok (.isub, 1) := by decide +kernel
theorem d_T_setPowers_40 : decode c_T_setPowers 40 = .ok (.iaload, 1) := by decide +kernel
theorem d_T_setPowers_41 : decode c_T_setPowers 41 = .ok (.aload_n 0, 1) := by decide +kernel
theorem d_T_setPowers_42 : decode c_T_setPowers 42 = .ok (.getfield 20, 3) := by decide +kernel
theorem d_T_setPowers_45 : decode c_T_setPowers 45 = .ok (.imul, 1) := by decide +kernel
theorem d_T_setPowers_46 : decode c_T_setPowers 46 = .ok (.iastore, 1) := by decide +kernel
theorem d_T_setPowers_47 : decode c_T_setPowers 47 = .ok (.iinc 1 1, 3) := by decide +kernel
theorem d_T_setPowers_50 : decode c_T_setPowers 50 = .ok (.goto (-30), 3) := by decide +kernel
theorem d_T_setPowers_53 : decode c_T_setPowers 53 = .ok (.return_, 1) := by decide +kernel
theorem d_B_init_0 : decode c_B_init 0 = .ok (.aload_n 0, 1) := by decide +kernel
theorem d_B_init_1 : decode c_B_init 1 = .ok (.invokespecial 3, 3) := by decide +kernel
theorem d_B_init_4 : decode c_B_init 4 = .ok (.aload_n 0, 1) := by decide +kernel
theorem d_B_init_5 : decode c_B_init 5 = .ok (.new 9, 3) := by decide +kernel
theorem d_B_init_8 : decode c_B_init 8 = .ok (.dup, 1) := by decide +kernel
theorem d_B_init_9 : decode c_B_init 9 = .ok (.sipush 1400, 3) := by decide +kernel
theorem d_B_init_12 : decode c_B_init 12 = .ok (.invokespecial 11, 3) := by decide +kernel
theorem d_B_init_15 : decode c_B_init 15 = .ok (.putfield 14, 3) := by decide +kernel
theorem d_B_init_18 : decode c_B_init 18 = .ok (.aload_n 0, 1) := by decide +kernel
theorem d_B_init_19 : decode c_B_init 19 = .ok (.new 9, 3) := by decide +kernel
theorem d_B_init_22 : decode c_B_init 22 = .ok (.dup, 1) := by decide +kernel
theorem d_B_init_23 : decode c_B_init 23 = .ok (.sipush 1400, 3) := by decide +kernel
theorem d_B_init_26 : decode c_B_init 26 = .ok (.invokespecial 11, 3) := by decide +kernel
theorem d_B_init_29 : decode c_B_init 29 = .ok (.putfield 20, 3) := by decide +kernel
theorem d_B_init_32 : decode c_B_init 32 = .ok (.aload_n 0, 1) := by decide +kernel
theorem d_B_init_33 : decode c_B_init 33 = .ok (.new 9, 3) := by decide +kernel
theorem d_B_init_36 : decode c_B_init 36 = .ok (.dup, 1) := by decide +kernel
theorem d_B_init_37 : decode c_B_init 37 = .ok (.sipush 1400, 3) := by decide +kernel
theorem d_B_init_40 : decode c_B_init 40 = .ok (.invokespecial 11, 3) := by decide +kernel
theorem d_B_init_43 : decode c_B_init 43 = .ok (.putfield 23, 3) := by decide +kernel
theorem d_B_init_46 : decode c_B_init 46 = .ok (.return_, 1) := by decide +kernel
theorem d_T_copyText_0 : decode c_T_copyText 0 = .ok (.aload_n 0, 1) := by decide +kernel
theorem d_T_copyText_1 : decode c_T_copyText 1 = .ok (.aload_n 1, 1) := by decide +kernel
theorem d_T_copyText_2 : decode c_T_copyText 2 = .ok (.getfield 14, 3) := by decide +kernel
theorem d_T_copyText_5 : decode c_T_copyText 5 = .ok (.aload_n 1, 1) := by decide +kernel
theorem d_T_copyText_6 : decode c_T_copyText 6 = .ok (.getfield 20, 3) := by decide +kernel
theorem d_T_copyText_9 : decode c_T_copyText 9 = .ok (.invokevirtual 51, 3) := by decide +kernel
theorem d_T_copyText_12 : decode c_T_copyText 12 = .ok (.aload_n 0, 1) := by decide +kernel
theorem d_T_copyText_13 : decode c_T_copyText 13 = .ok (.aload_n 1, 1) := by decide +kernel
theorem d_T_copyText_14 : decode c_T_copyText 14 = .ok (.getfield 34, 3) := by decide +kernel
theorem d_T_copyText_17 : decode c_T_copyText 17 = .ok (.putfield 34, 3) := by decide +kernel
theorem d_T_copyText_20 : decode c_T_copyText 20 = .ok (.aload_n 1, 1) := by decide +kernel
theorem d_T_copyText_21 : decode c_T_copyText 21 = .ok (.getfield 24, 3) := by decide +kernel
theorem d_T_copyText_24 : decode c_T_copyText 24 = .ok (.iconst 0, 1) := by decide +kernel
theorem d_T_copyText_25 : decode c_T_copyText 25 = .ok (.aload_n 0, 1) := by decide +kernel
theorem d_T_copyText_26 : decode c_T_copyText 26 = .ok (.getfield 24, 3) := by decide +kernel
theorem d_T_copyText_29 : decode c_T_copyText 29 = .ok (.iconst 0, 1) := by decide +kernel
theorem d_T_copyText_30 : decode c_T_copyText 30 = .ok (.aload_n 0, 1) := by decide +kernel
theorem d_T_copyText_31 : decode c_T_copyText 31 = .ok (.getfield 34, 3) := by decide +kernel
theorem d_T_copyText_34 : decode c_T_copyText 34 = .ok (.invokestatic 55, 3) := by decide +kernel
theorem d_T_copyText_37 : decode c_T_copyText 37 = .ok (.aload_n 0, 1) := by decide +kernel
theorem d_T_copyText_38 : decode c_T_copyText 38 = .ok (.aload_n 1, 1) := by decide +kernel
theorem d_T_copyText_39 : decode c_T_copyText 39 = .ok (.getfield 61, 3) := by decide +kernel
theorem d_T_copyText_42 : decode c_T_copyText 42 = .ok (.putfield 61, 3) := by decide +kernel
theorem d_T_copyText_45 : decode c_T_copyText 45 = .ok (.aload_n 1, 1) := by decide +kernel
theorem d_T_copyText_46 : decode c_T_copyText 46 = .ok (.getfield 28, 3) := by decide +kernel
theorem d_T_copyText_49 : decode c_T_copyText 49 = .ok (.iconst 0, 1) := by decide +kernel
theorem d_T_copyText_50 : decode c_T_copyText 50 = .ok (.aload_n 0, 1) := by decide +kernel
theorem d_T_copyText_51 : decode c_T_copyText 51 = .ok (.getfield 28, 3) := by decide +kernel
theorem d_T_copyText_54 : decode c_T_copyText 54 = .ok (.iconst 0, 1) := by decide +kernel
theorem d_T_copyText_55 : decode c_T_copyText 55 = .ok (.aload_n 0, 1) := by decide +kernel
theorem d_T_copyText_56 : decode c_T_copyText 56 = .ok (.getfield 28, 3) := by decide +kernel
theorem d_T_copyText_59 : decode c_T_copyText 59 = .ok (.arraylength, 1) := by decide +kernel
theorem d_T_copyText_60 : decode c_T_copyText 60 = .ok (.invokestatic 55, 3) := by decide +kernel
theorem d_T_copyText_63 : decode c_T_copyText 63 = .ok (.aload_n 0, 1) := by decide +kernel
theorem d_T_copyText_64 : decode c_T_copyText 64 = .ok (.aload_n 1, 1) := by decide +kernel
theorem d_T_copyText_65 : decode c_T_copyText 65 = .ok (.getfield 37, 3) := by decide +kernel
theorem d_T_copyText_68 : decode c_T_copyText 68 = .ok (.putfield 37, 3) := by decide +kernel
theorem d_T_copyText_71 : decode c_T_copyText 71 = .ok (.aload_n 0, 1) := by decide +kernel
theorem d_T_copyText_72 : decode c_T_copyText 72 = .ok (.aload_n 1, 1) := by decide +kernel
theorem d_T_copyText_73 : decode c_T_copyText 73 = .ok (.getfield 40, 3) := by decide +kernel
theorem d_T_copyText_76 : decode c_T_copyText 76 = .ok (.putfield 40, 3) := by decide +kernel
theorem d_T_copyText_79 : decode c_T_copyText 79 = .ok (.return_, 1) := by decide +kernel
theorem d_T_replace_0 : decode c_T_replace 0 = .ok (.aload_n 0, 1) := by decide +kernel
theorem d_T_replace_1 : decode c_T_replace 1 = .ok (.getfield 14, 3) := by decide +kernel
theorem d_T_replace_4 : decode c_T_replace 4 = .ok (.aload_n 1, 1) := by decide +kernel
theorem d_T_replace_5 : decode c_T_replace 5 = .ok (.invokevirtual 44, 3) := by decide +kernel
theorem d_T_replace_8 : decode c_T_replace 8 = .ok (.aload_n 0, 1) := by decide +kernel
theorem d_T_replace_9 : decode c_T_replace 9 = .ok (.iload_n 2, 1) := by decide +kernel
theorem d_T_replace_10 : decode c_T_replace 10 = .ok (.invokevirtual 48, 3) := by decide +kernel
theorem d_T_replace_13 : decode c_T_replace 13 = .ok (.return_, 1) := by decide +kernel
theorem d_T_changeBase_0 : decode c_T_changeBase 0 = .ok (.aload_n 0, 1) := by decide +kernel
theorem d_T_changeBase_1 : decode c_T_changeBase 1 = .ok (.iload_n 1, 1) := by decide +kernel
theorem d_T_changeBase_2 : decode c_T_changeBase 2 = .ok (.putfield 20, 3) := by decide +kernel
theorem d_T_changeBase_5 : decode c_T_changeBase 5 = .ok (.aload_n 0, 1) := by decide +kernel
theorem d_T_changeBase_6 : decode c_T_changeBase 6 = .ok (.iconst 0, 1) := by decide +kernel
theorem d_T_changeBase_7 : decode c_T_changeBase 7 = .ok (.putfield 40, 3) := by decide +kernel
theorem d_T_changeBase_10 : decode c_T_changeBase 10 = .ok (.return_, 1) := by decide +kernel
theorem d_T_tell_0 : decode c_T_tell 0 = .ok (.aload_n 0, 1) := by decide +kernel
theorem d_T_tell_1 : decode c_T_tell 1 = .ok (.getfield 40, 3) := by decide +kernel
theorem d_T_tell_4 : decode c_T_tell 4 = .ok (.ifCond .eq 4, 3) := by decide +kernel
theorem d_T_tell_7 : decode c_T_tell 7 = .ok (.return_, 1) := by decide +kernel
theorem d_T_tell_8 : decode c_T_tell 8 = .ok (.aload_n 0, 1) := by decide +kernel
theorem d_T_tell_9 : decode c_T_tell 9 = .ok (.invokevirtual 31, 3) := by decide +kernel
theorem d_T_tell_12 : decode c_T_tell 12 = .ok (.aload_n 0, 1) := by decide +kernel
theorem d_T_tell_13 : decode c_T_tell 13 = .ok (.getfield 28, 3) := by decide +kernel
theorem d_T_tell_16 : decode c_T_tell 16 = .ok (.aload_n 0, 1) := by decide +kernel
theorem d_T_tell_17 : decode c_T_tell 17 = .ok (.getfield 61, 3) := by decide +kernel
theorem d_T_tell_20 : decode c_T_tell 20 = .ok (.iaload, 1) := by decide +kernel
theorem d_T_tell_21 : decode c_T_tell 21 = .ok (.istore_n 2, 1) := by decide +kernel
theorem d_T_tell_22 : decode c_T_tell 22 = .ok (.aload_n 1, 1) := by decide +kernel
theorem d_T_tell_23 : decode c_T_tell 23 = .ok (.aload_n 0, 1) := by decide +kernel
theorem d_T_tell_24 : decode c_T_tell 24 = .ok (.getfield 14, 3) := by decide +kernel
theorem d_T_tell_27 : decode c_T_tell 27 = .ok (.invokevirtual 44, 3) := by decide +kernel
theorem d_T_tell_30 : decode c_T_tell 30 = .ok (.aload_n 0, 1) := by decide +kernel
theorem d_T_tell_31 : decode c_T_tell 31 = .ok (.getfield 24, 3) := by decide +kernel
theorem d_T_tell_34 : decode c_T_tell 34 = .ok (.iconst 0, 1) := by decide +kernel
theorem d_T_tell_35 : decode c_T_tell 35 = .ok (.iconst 0, 1) := by decide +kernel
theorem d_T_tell_36 : decode c_T_tell 36 = .ok (.iastore, 1) := by decide +kernel
theorem d_T_tell_37 : decode c_T_tell 37 = .ok (.aload_n 0, 1) := by decide +kernel
theorem d_T_tell_38 : decode c_T_tell 38 = .ok (.iconst 0, 1) := by decide +kernel
theorem d_T_tell_39 : decode c_T_tell 39 = .ok (.putfield 34, 3) := by decide +kernel
theorem d_T_tell_42 : decode c_T_tell 42 = .ok (.aload_n 1, 1) := by decide +kernel
theorem d_T_tell_43 : decode c_T_tell 43 = .ok (.getfield 64, 3) := by decide +kernel
theorem d_T_tell_46 : decode c_T_tell 46 = .ok (.ifCond .le 42, 3) := by decide +kernel
theorem d_T_tell_49 : decode c_T_tell 49 = .ok (.aload_n 0, 1) := by decide +kernel
theorem d_T_tell_50 : decode c_T_tell 50 = .ok (.getfield 34, 3) := by decide +kernel
theorem d_T_tell_53 : decode c_T_tell 53 = .ok (.aload_n 0, 1) := by decide +kernel
theorem d_T_tell_54 : decode c_T_tell 54 = .ok (.getfield 24, 3) := by decide +kernel
theorem d_T_tell_57 : decode c_T_tell 57 = .ok (.arraylength, 1) := by decide +kernel
theorem d_T_tell_58 : decode c_T_tell 58 = .ok (.if_icmp .ge 30, 3) := by decide +kernel
theorem d_T_tell_61 : decode c_T_tell 61 = .ok (.aload_n 0, 1) := by decide +kernel
theorem d_T_tell_62 : decode c_T_tell 62 = .ok (.getfield 24, 3) := by decide +kernel
theorem d_T_tell_65 : decode c_T_tell 65 = .ok (.aload_n 0, 1) := by decide +kernel
theorem d_T_tell_66 : decode c_T_tell 66 = .ok (.getfield 34, 3) := by decide +kernel
theorem d_T_tell_69 : decode c_T_tell 69 = .ok (.aload_n 1, 1) := by decide +kernel
theorem d_T_tell_70 : decode c_T_tell 70 = .ok (.iload_n 2, 1) := by decide +kernel
theorem d_T_tell_71 : decode c_T_tell 71 = .ok (.invokevirtual 67, 3) := by decide +kernel
theorem d_T_tell_74 : decode c_T_tell 74 = .ok (.iastore, 1) := by decide +kernel
theorem d_T_tell_75 : decode c_T_tell 75 = .ok (.aload_n 0, 1) := by decide +kernel
theorem d_T_tell_76 : decode c_T_tell 76 = .ok (.dup, 1) := by decide +kernel
theorem d_T_tell_77 : decode c_T_tell 77 = .ok (.getfield 34, 3) := by decide +kernel
theorem d_T_tell_80 : decode c_T_tell 80 = .ok (.iconst 1, 1) := by decide +kernel
theorem d_T_tell_81 : decode c_T_tell 81 = .ok (.iadd, 1) := by decide +kernel
theorem d_T_tell_82 : decode c_T_tell 82 = .ok (.putfield 34, 3) := by decide +kernel
theorem d_T_tell_85 : decode c_T_tell 85 = .ok (.goto (-43), 3) := by decide +kernel
theorem d_T_tell_88 : decode c_T_tell 88 = .ok (.aload_n 0, 1) := by decide +kernel
theorem d_T_tell_89 : decode c_T_tell 89 = .ok (.iconst 1, 1) := by decide +kernel
theorem d_T_tell_90 : decode c_T_tell 90 = .ok (.aload_n 0, 1) := by decide +kernel
theorem d_T_tell_91 : decode c_T_tell 91 = .ok (.getfield 34, 3) := by decide +kernel
theorem d_T_tell_94 : decode c_T_tell 94 = .ok (.invokestatic 71, 3) := by decide +kernel
theorem d_T_tell_97 : decode c_T_tell 97 = .ok (.putfield 34, 3) := by decide +kernel
theorem d_T_tell_100 : decode c_T_tell 100 = .ok (.aload_n 0, 1) := by decide +kernel
theorem d_T_tell_101 : decode c_T_tell 101 = .ok (.invokevirtual 77, 3) := by decide +kernel
theorem d_T_tell_104 : decode c_T_tell 104 = .ok (.aload_n 0, 1) := by decide +kernel
theorem d_T_tell_105 : decode c_T_tell 105 = .ok (.iconst 1, 1) := by decide +kernel
theorem d_T_tell_106 : decode c_T_tell 106 = .ok (.putfield 40, 3) := by decide +kernel
theorem d_T_tell_109 : decode c_T_tell 109 = .ok (.return_, 1) := by decide +kernel
theorem d_T_measure_0 : decode c_T_measure 0 = .ok (.aload_n 0, 1) := by decide +kernel
theorem d_T_measure_1 : decode c_T_measure 1 = .ok (.getfield 24, 3) := by decide +kernel
theorem d_T_measure_4 : decode c_T_measure 4 = .ok (.aload_n 0, 1) := by decide +kernel
theorem d_T_measure_5 : decode c_T_measure 5 = .ok (.getfield 34, 3) := by decide +kernel
theorem d_T_measure_8 : decode c_T_measure 8 = .ok (.iconst 1, 1) := by decide +kernel
theorem d_T_measure_9 : decode c_T_measure 9 = .ok (.isub, 1) := by decide +kernel
theorem d_T_measure_10 : decode c_T_measure 10 = .ok (.iaload, 1) := by decide +kernel
theorem d_T_measure_11 : decode c_T_measure 11 = .ok (.istore_n 1, 1) := by decide +kernel
theorem d_T_measure_12 : decode c_T_measure 12 = .ok (.iconst 1, 1) := by decide +kernel
theorem d_T_measure_13 : decode c_T_measure 13 = .ok (.istore_n 2, 1) := by decide +kernel
theorem d_T_measure_14 : decode c_T_measure 14 = .ok (.iload_n 2, 1) := by decide +kernel
theorem d_T_measure_15 : decode c_T_measure 15 = .ok (.aload_n 0, 1) := by decide +kernel
theorem d_T_measure_16 : decode c_T_measure 16 = .ok (.getfield 61, 3) := by decide +kernel
theorem d_T_measure_19 : decode c_T_measure 19 = .ok (.if_icmp .ge 19, 3) := by decide +kernel
theorem d_T_measure_22 : decode c_T_measure 22 = .ok (.iload_n 1, 1) := by decide +kernel
theorem d_T_measure_23 : decode c_T_measure 23 = .ok (.aload_n 0, 1) := by decide +kernel
theorem d_T_measure_24 : decode c_T_measure 24 = .ok (.getfield 28, 3) := by decide +kernel
theorem d_T_measure_27 : decode c_T_measure 27 = .ok (.iload_n 2, 1) := by decide +kernel
theorem d_T_measure_28 : decode c_T_measure 28 = .ok (.iaload, 1) := by decide +kernel
theorem d_T_measure_29 : decode c_T_measure 29 = .ok (.if_icmp .lt 9, 3) := by decide +kernel
theorem d_T_measure_32 : decode c_T_measure 32 = .ok (.iinc 2 1, 3) := by decide +kernel
theorem d_T_measure_35 : decode c_T_measure 35 = .ok (.goto (-21), 3) := by decide +kernel
theorem d_T_measure_38 : decode c_T_measure 38 = .ok (.aload_n 0, 1) := by decide +kernel
theorem d_T_measure_39 : decode c_T_measure 39 = .ok (.aload_n 0, 1) := by decide +kernel
theorem d_T_measure_40 : decode c_T_measure 40 = .ok (.getfield 34, 3) := by decide +kernel
theorem d_T_measure_43 : decode c_T_measure 43 = .ok (.iconst 1, 1) := by decide +kernel
theorem d_T_measure_44 : decode c_T_measure 44 = .ok (.isub, 1) := by decide +kernel
theorem d_T_measure_45 : decode c_T_measure 45 = .ok (.aload_n 0, 1) := by decide +kernel
theorem d_T_measure_46 : decode c_T_measure 46 = .ok (.getfield 61, 3) := by decide +kernel
theorem d_T_measure_49 : decode c_T_measure 49 = .ok (.imul, 1) := by decide +kernel
theorem d_T_measure_50 : decode c_T_measure 50 = .ok (.iload_n 2, 1) := by decide +kernel
theorem d_T_measure_51 : decode c_T_measure 51 = .ok (.iadd, 1) := by decide +kernel
theorem d_T_measure_52 : decode c_T_measure 52 = .ok (.putfield 37, 3) := by decide +kernel
theorem d_T_measure_55 : decode c_T_measure 55 = .ok (.return_, 1) := by decide +kernel
theorem d_B_extractRoot_0 : decode c_B_extractRoot 0 = .ok (.aload_n 0, 1) := by decide +kernel
theorem d_B_extractRoot_1 : decode c_B_extractRoot 1 = .ok (.getfield 14, 3) := by decide +kernel
theorem d_B_extractRoot_4 : decode c_B_extractRoot 4 = .ok (.invokevirtual 91, 3) := by decide +kernel
theorem d_B_extractRoot_7 : decode c_B_extractRoot 7 = .ok (.bipush 60, 2) := by decide +kernel
theorem d_B_extractRoot_9 : decode c_B_extractRoot 9 = .ok (.iadd, 1) := by decide +kernel
theorem d_B_extractRoot_10 : decode c_B_extractRoot 10 = .ok (.iconst 1, 1) := by decide +kernel
theorem d_B_extractRoot_11 : decode c_B_extractRoot 11 = .ok (.isub, 1) := by decide +kernel
theorem d_B_extractRoot_12 : decode c_B_extractRoot 12 = .ok (.bipush 60, 2) := by decide +kernel
theorem d_B_extractRoot_14 : decode c_B_extractRoot 14 = .ok (.idiv, 1) := by decide +kernel
theorem d_B_extractRoot_15 : decode c_B_extractRoot 15 = .ok (.istore_n 1, 1) := by decide +kernel
theorem d_B_extractRoot_16 : decode c_B_extractRoot 16 = .ok (.aload_n 0, 1) := by decide +kernel
theorem d_B_extractRoot_17 : decode c_B_extractRoot 17 = .ok (.getfield 23, 3) := by decide +kernel
theorem d_B_extractRoot_20 : decode c_B_extractRoot 20 = .ok (.iload_n 1, 1) := by decide +kernel
theorem d_B_extractRoot_21 : decode c_B_extractRoot 21 = .ok (.iconst 1, 1) := by decide +kernel
theorem d_B_extractRoot_22 : decode c_B_extractRoot 22 = .ok (.iadd, 1) := by decide +kernel
theorem d_B_extractRoot_23 : decode c_B_extractRoot 23 = .ok (.invokevirtual 54, 3) := by decide +kernel
theorem d_B_extractRoot_26 : decode c_B_extractRoot 26 = .ok (.iload_n 1, 1) := by decide +kernel
theorem d_B_extractRoot_27 : decode c_B_extractRoot 27 = .ok (.ifCond .ne 11, 3) := by decide +kernel
theorem d_B_extractRoot_30 : decode c_B_extractRoot 30 = .ok (.aload_n 0, 1) := by decide +kernel
theorem d_B_extractRoot_31 : decode c_B_extractRoot 31 = .ok (.getfield 23, 3) := by decide +kernel
theorem d_B_extractRoot_34 : decode c_B_extractRoot 34 = .ok (.invokevirtual 74, 3) := by decide +kernel
theorem d_B_extractRoot_37 : decode c_B_extractRoot 37 = .ok (.return_, 1) := by decide +kernel
theorem d_B_extractRoot_38 : decode c_B_extractRoot 38 = .ok (.iload_n 1, 1) := by decide +kernel
theorem d_B_extractRoot_39 : decode c_B_extractRoot 39 = .ok (.iconst 2, 1) := by decide +kernel
theorem d_B_extractRoot_40 : decode c_B_extractRoot 40 = .ok (.imul, 1) := by decide +kernel
theorem d_B_extractRoot_41 : decode c_B_extractRoot 41 = .ok (.bipush 30, 2) := by decide +kernel
theorem d_B_extractRoot_43 : decode c_B_extractRoot 43 = .ok (.imul, 1) := by decide +kernel
theorem d_B_extractRoot_44 : decode c_B_extractRoot 44 = .ok (.aload_n 0, 1) := by decide +kernel
theorem d_B_extractRoot_45 : decode c_B_extractRoot 45 = .ok (.getfield 14, 3) := by decide +kernel
theorem d_B_extractRoot_48 : decode c_B_extractRoot 48 = .ok (.invokevirtual 91, 3) := by decide +kernel
theorem d_B_extractRoot_51 : decode c_B_extractRoot 51 = .ok (.isub, 1) := by decide +kernel
theorem d_B_extractRoot_52 : decode c_B_extractRoot 52 = .ok (.iconst 2, 1) := by decide +kernel
theorem d_B_extractRoot_53 : decode c_B_extractRoot 53 = .ok (.idiv, 1) := by decide +kernel
theorem d_B_extractRoot_54 : decode c_B_extractRoot 54 = .ok (.istore_n 2, 1) := by decide +kernel
theorem d_B_extractRoot_55 : decode c_B_extractRoot 55 = .ok (.aload_n 0, 1) := by decide +kernel
theorem d_B_extractRoot_56 : decode c_B_extractRoot 56 = .ok (.getfield 14, 3) := by decide +kernel
theorem d_B_extractRoot_59 : decode c_B_extractRoot 59 = .ok (.iconst 2, 1) := by decide +kernel
theorem d_B_extractRoot_60 : decode c_B_extractRoot 60 = .ok (.iload_n 2, 1) := by decide +kernel
theorem d_B_extractRoot_61 : decode c_B_extractRoot 61 = .ok (.imul, 1) := by decide +kernel
theorem d_B_extractRoot_62 : decode c_B_extractRoot 62 = .ok (.invokevirtual 65, 3) := by decide +kernel
theorem d_B_extractRoot_65 : decode c_B_extractRoot 65 = .ok (.aload_n 0, 1) := by decide +kernel
theorem d_B_extractRoot_66 : decode c_B_extractRoot 66 = .ok (.iload_n 1, 1) := by decide +kernel
theorem d_B_extractRoot_67 : decode c_B_extractRoot 67 = .ok (.invokevirtual 95, 3) := by decide +kernel
theorem d_B_extractRoot_70 : decode c_B_extractRoot 70 = .ok (.iconst 1, 1) := by decide +kernel
theorem d_B_extractRoot_71 : decode c_B_extractRoot 71 = .ok (.istore_n 3, 1) := by decide +kernel
theorem d_B_extractRoot_72 : decode c_B_extractRoot 72 = .ok (.iload_n 3, 1) := by decide +kernel
theorem d_B_extractRoot_73 : decode c_B_extractRoot 73 = .ok (.iload_n 1, 1) := by decide +kernel
theorem d_B_extractRoot_74 : decode c_B_extractRoot 74 = .ok (.if_icmp .ge 15, 3) := by decide +kernel
theorem d_B_extractRoot_77 : decode c_B_extractRoot 77 = .ok (.aload_n 0, 1) := by decide +kernel
theorem d_B_extractRoot_78 : decode c_B_extractRoot 78 = .ok (.iload_n 1, 1) := by decide +kernel
theorem d_B_extractRoot_79 : decode c_B_extractRoot 79 = .ok (.iload_n 3, 1) := by decide +kernel
theorem d_B_extractRoot_80 : decode c_B_extractRoot 80 = .ok (.invokevirtual 98, 3) := by decide +kernel
theorem d_B_extractRoot_83 : decode c_B_extractRoot 83 = .ok (.iinc 3 1, 3) := by decide +kernel
theorem d_B_extractRoot_86 : decode c_B_extractRoot 86 = .ok (.goto (-14), 3) := by decide +kernel
theorem d_B_extractRoot_89 : decode c_B_extractRoot 89 = .ok (.aload_n 0, 1) := by decide +kernel
theorem d_B_extractRoot_90 : decode c_B_extractRoot 90 = .ok (.getfield 23, 3) := by decide +kernel
theorem d_B_extractRoot_93 : decode c_B_extractRoot 93 = .ok (.iload_n 2, 1) := by decide +kernel
theorem d_B_extractRoot_94 : decode c_B_extractRoot 94 = .ok (.iconst 1, 1) := by decide +kernel
theorem d_B_extractRoot_95 : decode c_B_extractRoot 95 = .ok (.iadd, 1) := by decide +kernel
theorem d_B_extractRoot_96 : decode c_B_extractRoot 96 = .ok (.invokevirtual 47, 3) := by decide +kernel
theorem d_B_extractRoot_99 : decode c_B_extractRoot 99 = .ok (.return_, 1) := by decide +kernel
theorem d_B_takeFirstRootLimb_0 : decode c_B_takeFirstRootLimb 0 = .ok (.iconst 2, 1) := by decide +kernel
theorem d_B_takeFirstRootLimb_1 : decode c_B_takeFirstRootLimb 1 = .ok (.iload_n 1, 1) := by decide +kernel
theorem d_B_takeFirstRootLimb_2 : decode c_B_takeFirstRootLimb 2 = .ok (.imul, 1) := by decide +kernel
theorem d_B_takeFirstRootLimb_3 : decode c_B_takeFirstRootLimb 3 = .ok (.iconst 1, 1) := by decide +kernel
theorem d_B_takeFirstRootLimb_4 : decode c_B_takeFirstRootLimb 4 = .ok (.isub, 1) := by decide +kernel
theorem d_B_takeFirstRootLimb_5 : decode c_B_takeFirstRootLimb 5 = .ok (.istore_n 2, 1) := by decide +kernel
theorem d_B_takeFirstRootLimb_6 : decode c_B_takeFirstRootLimb 6 = .ok (.aload_n 0, 1) := by decide +kernel
theorem d_B_takeFirstRootLimb_7 : decode c_B_takeFirstRootLimb 7 = .ok (.getfield 14, 3) := by decide +kernel
theorem d_B_takeFirstRootLimb_10 : decode c_B_takeFirstRootLimb 10 = .ok (.getfield 57, 3) := by decide +kernel
theorem d_B_takeFirstRootLimb_13 : decode c_B_takeFirstRootLimb 13 = .ok (.iload_n 2, 1) := by decide +kernel
theorem d_B_takeFirstRootLimb_14 : decode c_B_takeFirstRootLimb 14 = .ok (.iaload, 1) := by decide +kernel
theorem d_B_takeFirstRootLimb_15 : decode c_B_takeFirstRootLimb 15 = .ok (.i2l, 1) := by decide +kernel
theorem d_B_takeFirstRootLimb_16 : decode c_B_takeFirstRootLimb 16 = .ok (.bipush 30, 2) := by decide +kernel
theorem d_B_takeFirstRootLimb_18 : decode c_B_takeFirstRootLimb 18 = .ok (.lshl, 1) := by decide +kernel
theorem d_B_takeFirstRootLimb_19 : decode c_B_takeFirstRootLimb 19 = .ok (.aload_n 0, 1) := by decide +kernel
theorem d_B_takeFirstRootLimb_20 : decode c_B_takeFirstRootLimb 20 = .ok (.getfield 14, 3) := by decide +kernel
theorem d_B_takeFirstRootLimb_23 : decode c_B_takeFirstRootLimb 23 = .ok (.getfield 57, 3) := by decide +kernel
theorem d_B_takeFirstRootLimb_26 : decode c_B_takeFirstRootLimb 26 = .ok (.iload_n 2, 1) := by decide +kernel
theorem d_B_takeFirstRootLimb_27 : decode c_B_takeFirstRootLimb 27 = .ok (.iconst 1, 1) := by decide +kernel
theorem d_B_takeFirstRootLimb_28 : decode c_B_takeFirstRootLimb 28 = .ok (.isub, 1) := by decide +kernel
theorem d_B_takeFirstRootLimb_29 : decode c_B_takeFirstRootLimb 29 = .ok (.iaload, 1) := by decide +kernel
theorem d_B_takeFirstRootLimb_30 : decode c_B_takeFirstRootLimb 30 = .ok (.i2l, 1) := by decide +kernel
theorem d_B_takeFirstRootLimb_31 : decode c_B_takeFirstRootLimb 31 = .ok (.lor, 1) := by decide +kernel
theorem d_B_takeFirstRootLimb_32 : decode c_B_takeFirstRootLimb 32 = .ok (.lstore_n 3, 1) := by decide +kernel
theorem d_B_takeFirstRootLimb_33 : decode c_B_takeFirstRootLimb 33 = .ok (.lconst 0, 1) := by decide +kernel
theorem d_B_takeFirstRootLimb_34 : decode c_B_takeFirstRootLimb 34 = .ok (.lstore 5, 2) := by decide +kernel
theorem d_B_takeFirstRootLimb_36 : decode c_B_takeFirstRootLimb 36 = .ok (.bipush 29, 2) := by decide +kernel
theorem d_B_takeFirstRootLimb_38 : decode c_B_takeFirstRootLimb 38 = .ok (.istore 7, 2) := by decide +kernel
theorem d_B_takeFirstRootLimb_40 : decode c_B_takeFirstRootLimb 40 = .ok (.iload 7, 2) := by decide +kernel
theorem d_B_takeFirstRootLimb_42 : decode c_B_takeFirstRootLimb 42 = .ok (.ifCond .lt 32, 3) := by decide +kernel
theorem d_B_takeFirstRootLimb_45 : decode c_B_takeFirstRootLimb 45 = .ok (.lload 5, 2) := by decide +kernel
theorem d_B_takeFirstRootLimb_47 : decode c_B_takeFirstRootLimb 47 = .ok (.lconst 1, 1) := by decide +kernel
theorem d_B_takeFirstRootLimb_48 : decode c_B_takeFirstRootLimb 48 = .ok (.iload 7, 2) := by decide +kernel
theorem d_B_takeFirstRootLimb_50 : decode c_B_takeFirstRootLimb 50 = .ok (.lshl, 1) := by decide +kernel
theorem d_B_takeFirstRootLimb_51 : decode c_B_takeFirstRootLimb 51 = .ok (.lor, 1) := by decide +kernel
theorem d_B_takeFirstRootLimb_52 : decode c_B_takeFirstRootLimb 52 = .ok (.lstore 8, 2) := by decide +kernel
theorem d_B_takeFirstRootLimb_54 : decode c_B_takeFirstRootLimb 54 = .ok (.lload 8, 2) := by decide +kernel
theorem d_B_takeFirstRootLimb_56 : decode c_B_takeFirstRootLimb 56 = .ok (.lload 8, 2) := by decide +kernel
theorem d_B_takeFirstRootLimb_58 : decode c_B_takeFirstRootLimb 58 = .ok (.lmul, 1) := by decide +kernel
theorem d_B_takeFirstRootLimb_59 : decode c_B_takeFirstRootLimb 59 = .ok (.lload_n 3, 1) := by decide +kernel
theorem d_B_takeFirstRootLimb_60 : decode c_B_takeFirstRootLimb 60 = .ok (.lcmp, 1) := by decide +kernel
theorem d_B_takeFirstRootLimb_61 : decode c_B_takeFirstRootLimb 61 = .ok (.ifCond .gt 7, 3) := by decide +kernel
theorem d_B_takeFirstRootLimb_64 : decode c_B_takeFirstRootLimb 64 = .ok (.lload 8, 2) := by decide +kernel
theorem d_B_takeFirstRootLimb_66 : decode c_B_takeFirstRootLimb 66 = .ok (.lstore 5, 2) := by decide +kernel
theorem d_B_takeFirstRootLimb_68 : decode c_B_takeFirstRootLimb 68 = .ok (.iinc 7 (-1), 3) := by decide +kernel
theorem d_B_takeFirstRootLimb_71 : decode c_B_takeFirstRootLimb 71 = .ok (.goto (-31), 3) := by decide +kernel
theorem d_B_takeFirstRootLimb_74 : decode c_B_takeFirstRootLimb 74 = .ok (.lload_n 3, 1) := by decide +kernel
theorem d_B_takeFirstRootLimb_75 : decode c_B_takeFirstRootLimb 75 = .ok (.lload 5, 2) := by decide +kernel
theorem d_B_takeFirstRootLimb_77 : decode c_B_takeFirstRootLimb 77 = .ok (.lload 5, 2) := by decide +kernel
theorem d_B_takeFirstRootLimb_79 : decode c_B_takeFirstRootLimb 79 = .ok (.lmul, 1) := by decide +kernel
theorem d_B_takeFirstRootLimb_80 : decode c_B_takeFirstRootLimb 80 = .ok (.lsub, 1) := by decide +kernel
theorem d_B_takeFirstRootLimb_81 : decode c_B_takeFirstRootLimb 81 = .ok (.lstore 7, 2) := by decide +kernel
theorem d_B_takeFirstRootLimb_83 : decode c_B_takeFirstRootLimb 83 = .ok (.aload_n 0, 1) := by decide +kernel
theorem d_B_takeFirstRootLimb_84 : decode c_B_takeFirstRootLimb 84 = .ok (.getfield 14, 3) := by decide +kernel
theorem d_B_takeFirstRootLimb_87 : decode c_B_takeFirstRootLimb 87 = .ok (.getfield 57, 3) := by decide +kernel
theorem d_B_takeFirstRootLimb_90 : decode c_B_takeFirstRootLimb 90 = .ok (.iload_n 2, 1) := by decide +kernel
theorem d_B_takeFirstRootLimb_91 : decode c_B_takeFirstRootLimb 91 = .ok (.lload 7, 2) := by decide +kernel
theorem d_B_takeFirstRootLimb_93 : decode c_B_takeFirstRootLimb 93 = .ok (.bipush 30, 2) := by decide +kernel
theorem d_B_takeFirstRootLimb_95 : decode c_B_takeFirstRootLimb 95 = .ok (.lshr, 1) := by decide +kernel
theorem d_B_takeFirstRootLimb_96 : decode c_B_takeFirstRootLimb 96 = .ok (.l2i, 1) := by decide +kernel
theorem d_B_takeFirstRootLimb_97 : decode c_B_takeFirstRootLimb 97 = .ok (.iastore, 1) := by decide +kernel
theorem d_B_takeFirstRootLimb_98 : decode c_B_takeFirstRootLimb 98 = .ok (.aload_n 0, 1) := by decide +kernel
theorem d_B_takeFirstRootLimb_99 : decode c_B_takeFirstRootLimb 99 = .ok (.getfield 14, 3) := by decide +kernel
theorem d_B_takeFirstRootLimb_102 : decode c_B_takeFirstRootLimb 102 = .ok (.getfield 57, 3) := by decide +kernel
theorem d_B_takeFirstRootLimb_105 : decode c_B_takeFirstRootLimb 105 = .ok (.iload_n 2, 1) := by decide +kernel
theorem d_B_takeFirstRootLimb_106 : decode c_B_takeFirstRootLimb 106 = .ok (.iconst 1, 1) := by decide +kernel
theorem d_B_takeFirstRootLimb_107 : decode c_B_takeFirstRootLimb 107 = .ok (.isub, 1) := by decide +kernel
theorem d_B_takeFirstRootLimb_108 : decode c_B_takeFirstRootLimb 108 = .ok (.lload 7, 2) := by decide +kernel
theorem d_B_takeFirstRootLimb_110 : decode c_B_takeFirstRootLimb 110 = .ok (.ldc2_w 77, 3) := by decide +kernel
theorem d_B_takeFirstRootLimb_113 : decode c_B_takeFirstRootLimb 113 = .ok (.land, 1) := by decide +kernel
theorem d_B_takeFirstRootLimb_114 : decode c_B_takeFirstRootLimb 114 = .ok (.l2i, 1) := by decide +kernel
theorem d_B_takeFirstRootLimb_115 : decode c_B_takeFirstRootLimb 115 = .ok (.iastore, 1) := by decide +kernel
theorem d_B_takeFirstRootLimb_116 : decode c_B_takeFirstRootLimb 116 = .ok (.aload_n 0, 1) := by decide +kernel
theorem d_B_takeFirstRootLimb_117 : decode c_B_takeFirstRootLimb 117 = .ok (.iload_n 1, 1) := by decide +kernel
theorem d_B_takeFirstRootLimb_118 : decode c_B_takeFirstRootLimb 118 = .ok (.iconst 1, 1) := by decide +kernel
theorem d_B_takeFirstRootLimb_119 : decode c_B_takeFirstRootLimb 119 = .ok (.isub, 1) := by decide +kernel
theorem d_B_takeFirstRootLimb_120 : decode c_B_takeFirstRootLimb 120 = .ok (.lload 5, 2) := by decide +kernel
theorem d_B_takeFirstRootLimb_122 : decode c_B_takeFirstRootLimb 122 = .ok (.invokevirtual 101, 3) := by decide +kernel
theorem d_B_takeFirstRootLimb_125 : decode c_B_takeFirstRootLimb 125 = .ok (.return_, 1) := by decide +kernel
theorem d_B_setTwice_0 : decode c_B_setTwice 0 = .ok (.aload_n 0, 1) := by decide +kernel
theorem d_B_setTwice_1 : decode c_B_setTwice 1 = .ok (.getfield 23, 3) := by decide +kernel
theorem d_B_setTwice_4 : decode c_B_setTwice 4 = .ok (.getfield 57, 3) := by decide +kernel
theorem d_B_setTwice_7 : decode c_B_setTwice 7 = .ok (.iload_n 1, 1) := by decide +kernel
theorem d_B_setTwice_8 : decode c_B_setTwice 8 = .ok (.ldc2_w 105, 3) := by decide +kernel
theorem d_B_setTwice_11 : decode c_B_setTwice 11 = .ok (.lload_n 2, 1) := by decide +kernel
theorem d_B_setTwice_12 : decode c_B_setTwice 12 = .ok (.lmul, 1) := by decide +kernel
theorem d_B_setTwice_13 : decode c_B_setTwice 13 = .ok (.ldc2_w 77, 3) := by decide +kernel
theorem d_B_setTwice_16 : decode c_B_setTwice 16 = .ok (.land, 1) := by decide +kernel
theorem d_B_setTwice_17 : decode c_B_setTwice 17 = .ok (.l2i, 1) := by decide +kernel
theorem d_B_setTwice_18 : decode c_B_setTwice 18 = .ok (.iastore, 1) := by decide +kernel
theorem d_B_setTwice_19 : decode c_B_setTwice 19 = .ok (.aload_n 0, 1) := by decide +kernel
theorem d_B_setTwice_20 : decode c_B_setTwice 20 = .ok (.getfield 23, 3) := by decide +kernel
theorem d_B_setTwice_23 : decode c_B_setTwice 23 = .ok (.getfield 57, 3) := by decide +kernel
theorem d_B_setTwice_26 : decode c_B_setTwice 26 = .ok (.iload_n 1, 1) := by decide +kernel
theorem d_B_setTwice_27 : decode c_B_setTwice 27 = .ok (.iconst 1, 1) := by decide +kernel
theorem d_B_setTwice_28 : decode c_B_setTwice 28 = .ok (.iadd, 1) := by decide +kernel
theorem d_B_setTwice_29 : decode c_B_setTwice 29 = .ok (.dup2, 1) := by decide +kernel
theorem d_B_setTwice_30 : decode c_B_setTwice 30 = .ok (.iaload, 1) := by decide +kernel
theorem d_B_setTwice_31 : decode c_B_setTwice 31 = .ok (.ldc2_w 105, 3) := by decide +kernel
theorem d_B_setTwice_34 : decode c_B_setTwice 34 = .ok (.lload_n 2, 1) := by decide +kernel
theorem d_B_setTwice_35 : decode c_B_setTwice 35 = .ok (.lmul, 1) := by decide +kernel
theorem d_B_setTwice_36 : decode c_B_setTwice 36 = .ok (.bipush 30, 2) := by decide +kernel
theorem d_B_setTwice_38 : decode c_B_setTwice 38 = .ok (.lshr, 1) := by decide +kernel
theorem d_B_setTwice_39 : decode c_B_setTwice 39 = .ok (.l2i, 1) := by decide +kernel
theorem d_B_setTwice_40 : decode c_B_setTwice 40 = .ok (.iadd, 1) := by decide +kernel
theorem d_B_setTwice_41 : decode c_B_setTwice 41 = .ok (.iastore, 1) := by decide +kernel
theorem d_B_setTwice_42 : decode c_B_setTwice 42 = .ok (.return_, 1) := by decide +kernel
theorem d_B_takeRootLimb_0 : decode c_B_takeRootLimb 0 = .ok (.iload_n 1, 1) := by decide +kernel
theorem d_B_takeRootLimb_1 : decode c_B_takeRootLimb 1 = .ok (.iconst 1, 1) := by decide +kernel
theorem d_B_takeRootLimb_2 : decode c_B_takeRootLimb 2 = .ok (.isub, 1) := by decide +kernel
theorem d_B_takeRootLimb_3 : decode c_B_takeRootLimb 3 = .ok (.iload_n 2, 1) := by decide +kernel
theorem d_B_takeRootLimb_4 : decode c_B_takeRootLimb 4 = .ok (.isub, 1) := by decide +kernel
theorem d_B_takeRootLimb_5 : decode c_B_takeRootLimb 5 = .ok (.istore_n 3, 1) := by decide +kernel
theorem d_B_takeRootLimb_6 : decode c_B_takeRootLimb 6 = .ok (.iconst 2, 1) := by decide +kernel
theorem d_B_takeRootLimb_7 : decode c_B_takeRootLimb 7 = .ok (.iload_n 3, 1) := by decide +kernel
theorem d_B_takeRootLimb_8 : decode c_B_takeRootLimb 8 = .ok (.imul, 1) := by decide +kernel
theorem d_B_takeRootLimb_9 : decode c_B_takeRootLimb 9 = .ok (.istore 4, 2) := by decide +kernel
theorem d_B_takeRootLimb_11 : decode c_B_takeRootLimb 11 = .ok (.iload 4, 2) := by decide +kernel
theorem d_B_takeRootLimb_13 : decode c_B_takeRootLimb 13 = .ok (.iload_n 2, 1) := by decide +kernel
theorem d_B_takeRootLimb_14 : decode c_B_takeRootLimb 14 = .ok (.iadd, 1) := by decide +kernel
theorem d_B_takeRootLimb_15 : decode c_B_takeRootLimb 15 = .ok (.istore 5, 2) := by decide +kernel
theorem d_B_takeRootLimb_17 : decode c_B_takeRootLimb 17 = .ok (.aload_n 0, 1) := by decide +kernel
theorem d_B_takeRootLimb_18 : decode c_B_takeRootLimb 18 = .ok (.getfield 23, 3) := by decide +kernel
theorem d_B_takeRootLimb_21 : decode c_B_takeRootLimb 21 = .ok (.getfield 57, 3) := by decide +kernel
theorem d_B_takeRootLimb_24 : decode c_B_takeRootLimb 24 = .ok (.iload_n 1, 1) := by decide +kernel
theorem d_B_takeRootLimb_25 : decode c_B_takeRootLimb 25 = .ok (.iaload, 1) := by decide +kernel
theorem d_B_takeRootLimb_26 : decode c_B_takeRootLimb 26 = .ok (.i2l, 1) := by decide +kernel
theorem d_B_takeRootLimb_27 : decode c_B_takeRootLimb 27 = .ok (.bipush 30, 2) := by decide +kernel
theorem d_B_takeRootLimb_29 : decode c_B_takeRootLimb 29 = .ok (.lshl, 1) := by decide +kernel
theorem d_B_takeRootLimb_30 : decode c_B_takeRootLimb 30 = .ok (.aload_n 0, 1) := by decide +kernel
theorem d_B_takeRootLimb_31 : decode c_B_takeRootLimb 31 = .ok (.getfield 23, 3) := by decide +kernel
theorem d_B_takeRootLimb_34 : decode c_B_takeRootLimb 34 = .ok (.getfield 57, 3) := by decide +kernel
theorem d_B_takeRootLimb_37 : decode c_B_takeRootLimb 37 = .ok (.iload_n 1, 1) := by decide +kernel
theorem d_B_takeRootLimb_38 : decode c_B_takeRootLimb 38 = .ok (.iconst 1, 1) := by decide +kernel
theorem d_B_takeRootLimb_39 : decode c_B_takeRootLimb 39 = .ok (.isub, 1) := by decide +kernel
theorem d_B_takeRootLimb_40 : decode c_B_takeRootLimb 40 = .ok (.iaload, 1) := by decide +kernel
theorem d_B_takeRootLimb_41 : decode c_B_takeRootLimb 41 = .ok (.i2l, 1) := by decide +kernel
theorem d_B_takeRootLimb_42 : decode c_B_takeRootLimb 42 = .ok (.lor, 1) := by decide +kernel
theorem d_B_takeRootLimb_43 : decode c_B_takeRootLimb 43 = .ok (.lstore 6, 2) := by decide +kernel
theorem d_B_takeRootLimb_45 : decode c_B_takeRootLimb 45 = .ok (.aload_n 0, 1) := by decide +kernel
theorem d_B_takeRootLimb_46 : decode c_B_takeRootLimb 46 = .ok (.getfield 14, 3) := by decide +kernel
theorem d_B_takeRootLimb_49 : decode c_B_takeRootLimb 49 = .ok (.getfield 57, 3) := by decide +kernel
theorem d_B_takeRootLimb_52 : decode c_B_takeRootLimb 52 = .ok (.iload 5, 2) := by decide +kernel
theorem d_B_takeRootLimb_54 : decode c_B_takeRootLimb 54 = .ok (.iconst 2, 1) := by decide +kernel
theorem d_B_takeRootLimb_55 : decode c_B_takeRootLimb 55 = .ok (.iadd, 1) := by decide +kernel
theorem d_B_takeRootLimb_56 : decode c_B_takeRootLimb 56 = .ok (.iaload, 1) := by decide +kernel
theorem d_B_takeRootLimb_57 : decode c_B_takeRootLimb 57 = .ok (.i2l, 1) := by decide +kernel
theorem d_B_takeRootLimb_58 : decode c_B_takeRootLimb 58 = .ok (.bipush 30, 2) := by decide +kernel
theorem d_B_takeRootLimb_60 : decode c_B_takeRootLimb 60 = .ok (.lshl, 1) := by decide +kernel
theorem d_B_takeRootLimb_61 : decode c_B_takeRootLimb 61 = .ok (.aload_n 0, 1) := by decide +kernel
theorem d_B_takeRootLimb_62 : decode c_B_takeRootLimb 62 = .ok (.getfield 14, 3) := by decide +kernel
theorem d_B_takeRootLimb_65 : decode c_B_takeRootLimb 65 = .ok (.getfield 57, 3) := by decide +kernel
theorem d_B_takeRootLimb_68 : decode c_B_takeRootLimb 68 = .ok (.iload 5, 2) := by decide +kernel
theorem d_B_takeRootLimb_70 : decode c_B_takeRootLimb 70 = .ok (.iconst 1, 1) := by decide +kernel
theorem d_B_takeRootLimb_71 : decode c_B_takeRootLimb 71 = .ok (.iadd, 1) := by decide +kernel
theorem d_B_takeRootLimb_72 : decode c_B_takeRootLimb 72 = .ok (.iaload, 1) := by decide +kernel
theorem d_B_takeRootLimb_73 : decode c_B_takeRootLimb 73 = .ok (.i2l, 1) := by decide +kernel
theorem d_B_takeRootLimb_74 : decode c_B_takeRootLimb 74 = .ok (.lor, 1) := by decide +kernel
theorem d_B_takeRootLimb_75 : decode c_B_takeRootLimb 75 = .ok (.lstore 8, 2) := by decide +kernel
theorem d_B_takeRootLimb_77 : decode c_B_takeRootLimb 77 = .ok (.lload 8, 2) := by decide +kernel
theorem d_B_takeRootLimb_79 : decode c_B_takeRootLimb 79 = .ok (.bipush 30, 2) := by decide +kernel
theorem d_B_takeRootLimb_81 : decode c_B_takeRootLimb 81 = .ok (.lshl, 1) := by decide +kernel
theorem d_B_takeRootLimb_82 : decode c_B_takeRootLimb 82 = .ok (.aload_n 0, 1) := by decide +kernel
theorem d_B_takeRootLimb_83 : decode c_B_takeRootLimb 83 = .ok (.getfield 14, 3) := by decide +kernel
theorem d_B_takeRootLimb_86 : decode c_B_takeRootLimb 86 = .ok (.getfield 57, 3) := by decide +kernel
theorem d_B_takeRootLimb_89 : decode c_B_takeRootLimb 89 = .ok (.iload 5, 2) := by decide +kernel
theorem d_B_takeRootLimb_91 : decode c_B_takeRootLimb 91 = .ok (.iaload, 1) := by decide +kernel
theorem d_B_takeRootLimb_92 : decode c_B_takeRootLimb 92 = .ok (.i2l, 1) := by decide +kernel
theorem d_B_takeRootLimb_93 : decode c_B_takeRootLimb 93 = .ok (.lor, 1) := by decide +kernel
theorem d_B_takeRootLimb_94 : decode c_B_takeRootLimb 94 = .ok (.lstore 8, 2) := by decide +kernel
theorem d_B_takeRootLimb_96 : decode c_B_takeRootLimb 96 = .ok (.lload 6, 2) := by decide +kernel
theorem d_B_takeRootLimb_98 : decode c_B_takeRootLimb 98 = .ok (.lconst 0, 1) := by decide +kernel
theorem d_B_takeRootLimb_99 : decode c_B_takeRootLimb 99 = .ok (.lcmp, 1) := by decide +kernel
theorem d_B_takeRootLimb_100 : decode c_B_takeRootLimb 100 = .ok (.ifCond .le 17, 3) := by decide +kernel
theorem d_B_takeRootLimb_103 : decode c_B_takeRootLimb 103 = .ok (.ldc2_w 77, 3) := by decide +kernel
theorem d_B_takeRootLimb_106 : decode c_B_takeRootLimb 106 = .ok (.lload 8, 2) := by decide +kernel
theorem d_B_takeRootLimb_108 : decode c_B_takeRootLimb 108 = .ok (.lload 6, 2) := by decide +kernel
theorem d_B_takeRootLimb_110 : decode c_B_takeRootLimb 110 = .ok (.ldiv, 1) := by decide +kernel
theorem d_B_takeRootLimb_111 : decode c_B_takeRootLimb 111 = .ok (.invokestatic 79, 3) := by decide +kernel
theorem d_B_takeRootLimb_114 : decode c_B_takeRootLimb 114 = .ok (.goto 4, 3) := by decide +kernel
theorem d_B_takeRootLimb_117 : decode c_B_takeRootLimb 117 = .ok (.lconst 0, 1) := by decide +kernel
theorem d_B_takeRootLimb_118 : decode c_B_takeRootLimb 118 = .ok (.lstore 10, 2) := by decide +kernel
theorem d_B_takeRootLimb_120 : decode c_B_takeRootLimb 120 = .ok (.aload_n 0, 1) := by decide +kernel
theorem d_B_takeRootLimb_121 : decode c_B_takeRootLimb 121 = .ok (.getfield 23, 3) := by decide +kernel
theorem d_B_takeRootLimb_124 : decode c_B_takeRootLimb 124 = .ok (.getfield 57, 3) := by decide +kernel
theorem d_B_takeRootLimb_127 : decode c_B_takeRootLimb 127 = .ok (.iload_n 3, 1) := by decide +kernel
theorem d_B_takeRootLimb_128 : decode c_B_takeRootLimb 128 = .ok (.lload 10, 2) := by decide +kernel
theorem d_B_takeRootLimb_130 : decode c_B_takeRootLimb 130 = .ok (.l2i, 1) := by decide +kernel
theorem d_B_takeRootLimb_131 : decode c_B_takeRootLimb 131 = .ok (.iastore, 1) := by decide +kernel
theorem d_B_takeRootLimb_132 : decode c_B_takeRootLimb 132 = .ok (.aload_n 0, 1) := by decide +kernel
theorem d_B_takeRootLimb_133 : decode c_B_takeRootLimb 133 = .ok (.getfield 14, 3) := by decide +kernel
theorem d_B_takeRootLimb_136 : decode c_B_takeRootLimb 136 = .ok (.iload 4, 2) := by decide +kernel
theorem d_B_takeRootLimb_138 : decode c_B_takeRootLimb 138 = .ok (.aload_n 0, 1) := by decide +kernel
theorem d_B_takeRootLimb_139 : decode c_B_takeRootLimb 139 = .ok (.getfield 23, 3) := by decide +kernel
theorem d_B_takeRootLimb_142 : decode c_B_takeRootLimb 142 = .ok (.iload_n 3, 1) := by decide +kernel
theorem d_B_takeRootLimb_143 : decode c_B_takeRootLimb 143 = .ok (.iload_n 2, 1) := by decide +kernel
theorem d_B_takeRootLimb_144 : decode c_B_takeRootLimb 144 = .ok (.iconst 2, 1) := by decide +kernel
theorem d_B_takeRootLimb_145 : decode c_B_takeRootLimb 145 = .ok (.iadd, 1) := by decide +kernel
theorem d_B_takeRootLimb_146 : decode c_B_takeRootLimb 146 = .ok (.lload 10, 2) := by decide +kernel
theorem d_B_takeRootLimb_148 : decode c_B_takeRootLimb 148 = .ok (.invokevirtual 85, 3) := by decide +kernel
theorem d_B_takeRootLimb_151 : decode c_B_takeRootLimb 151 = .ok (.ifCond .ge 48, 3) := by decide +kernel
theorem d_B_takeRootLimb_154 : decode c_B_takeRootLimb 154 = .ok (.lload 10, 2) := by decide +kernel
theorem d_B_takeRootLimb_156 : decode c_B_takeRootLimb 156 = .ok (.lconst 1, 1) := by decide +kernel
theorem d_B_takeRootLimb_157 : decode c_B_takeRootLimb 157 = .ok (.lsub, 1) := by decide +kernel
theorem d_B_takeRootLimb_158 : decode c_B_takeRootLimb 158 = .ok (.lstore 10, 2) := by decide +kernel
theorem d_B_takeRootLimb_160 : decode c_B_takeRootLimb 160 = .ok (.aload_n 0, 1) := by decide +kernel
theorem d_B_takeRootLimb_161 : decode c_B_takeRootLimb 161 = .ok (.getfield 23, 3) := by decide +kernel
theorem d_B_takeRootLimb_164 : decode c_B_takeRootLimb 164 = .ok (.getfield 57, 3) := by decide +kernel
theorem d_B_takeRootLimb_167 : decode c_B_takeRootLimb 167 = .ok (.iload_n 3, 1) := by decide +kernel
theorem d_B_takeRootLimb_168 : decode c_B_takeRootLimb 168 = .ok (.ldc2_w 105, 3) := by decide +kernel
theorem d_B_takeRootLimb_171 : decode c_B_takeRootLimb 171 = .ok (.lload 10, 2) := by decide +kernel
theorem d_B_takeRootLimb_173 : decode c_B_takeRootLimb 173 = .ok (.lmul, 1) := by decide +kernel
theorem d_B_takeRootLimb_174 : decode c_B_takeRootLimb 174 = .ok (.lconst 1, 1) := by decide +kernel
theorem d_B_takeRootLimb_175 : decode c_B_takeRootLimb 175 = .ok (.ladd, 1) := by decide +kernel
theorem d_B_takeRootLimb_176 : decode c_B_takeRootLimb 176 = .ok (.l2i, 1) := by decide +kernel
theorem d_B_takeRootLimb_177 : decode c_B_takeRootLimb 177 = .ok (.iastore, 1) := by decide +kernel
theorem d_B_takeRootLimb_178 : decode c_B_takeRootLimb 178 = .ok (.aload_n 0, 1) := by decide +kernel
theorem d_B_takeRootLimb_179 : decode c_B_takeRootLimb 179 = .ok (.getfield 14, 3) := by decide +kernel
theorem d_B_takeRootLimb_182 : decode c_B_takeRootLimb 182 = .ok (.iload 4, 2) := by decide +kernel
theorem d_B_takeRootLimb_184 : decode c_B_takeRootLimb 184 = .ok (.aload_n 0, 1) := by decide +kernel
theorem d_B_takeRootLimb_185 : decode c_B_takeRootLimb 185 = .ok (.getfield 23, 3) := by decide +kernel
theorem d_B_takeRootLimb_188 : decode c_B_takeRootLimb 188 = .ok (.iload_n 3, 1) := by decide +kernel
theorem d_B_takeRootLimb_189 : decode c_B_takeRootLimb 189 = .ok (.iload_n 2, 1) := by decide +kernel
theorem d_B_takeRootLimb_190 : decode c_B_takeRootLimb 190 = .ok (.iconst 2, 1) := by decide +kernel
theorem d_B_takeRootLimb_191 : decode c_B_takeRootLimb 191 = .ok (.iadd, 1) := by decide +kernel
theorem d_B_takeRootLimb_192 : decode c_B_takeRootLimb 192 = .ok (.ldc2_w 89, 3) := by decide +kernel
theorem d_B_takeRootLimb_195 : decode c_B_takeRootLimb 195 = .ok (.invokevirtual 85, 3) := by decide +kernel
theorem d_B_takeRootLimb_198 : decode c_B_takeRootLimb 198 = .ok (.pop, 1) := by decide +kernel
theorem d_B_takeRootLimb_199 : decode c_B_takeRootLimb 199 = .ok (.aload_n 0, 1) := by decide +kernel
theorem d_B_takeRootLimb_200 : decode c_B_takeRootLimb 200 = .ok (.iload_n 3, 1) := by decide +kernel
theorem d_B_takeRootLimb_201 : decode c_B_takeRootLimb 201 = .ok (.lload 10, 2) := by decide +kernel
theorem d_B_takeRootLimb_203 : decode c_B_takeRootLimb 203 = .ok (.invokevirtual 101, 3) := by decide +kernel
theorem d_B_takeRootLimb_206 : decode c_B_takeRootLimb 206 = .ok (.return_, 1) := by decide +kernel
theorem d_B_makeGolden_0 : decode c_B_makeGolden 0 = .ok (.aload_n 0, 1) := by decide +kernel
theorem d_B_makeGolden_1 : decode c_B_makeGolden 1 = .ok (.ldc2_w 37, 3) := by decide +kernel
theorem d_B_makeGolden_4 : decode c_B_makeGolden 4 = .ok (.iload_n 1, 1) := by decide +kernel
theorem d_B_makeGolden_5 : decode c_B_makeGolden 5 = .ok (.iload_n 2, 1) := by decide +kernel
theorem d_B_makeGolden_6 : decode c_B_makeGolden 6 = .ok (.invokevirtual 39, 3) := by decide +kernel
theorem d_B_makeGolden_9 : decode c_B_makeGolden 9 = .ok (.aload_n 0, 1) := by decide +kernel
theorem d_B_makeGolden_10 : decode c_B_makeGolden 10 = .ok (.getfield 14, 3) := by decide +kernel
theorem d_B_makeGolden_13 : decode c_B_makeGolden 13 = .ok (.lconst 1, 1) := by decide +kernel
theorem d_B_makeGolden_14 : decode c_B_makeGolden 14 = .ok (.invokevirtual 26, 3) := by decide +kernel
theorem d_B_makeGolden_17 : decode c_B_makeGolden 17 = .ok (.aload_n 0, 1) := by decide +kernel
theorem d_B_makeGolden_18 : decode c_B_makeGolden 18 = .ok (.getfield 14, 3) := by decide +kernel
theorem d_B_makeGolden_21 : decode c_B_makeGolden 21 = .ok (.iload_n 2, 1) := by decide +kernel
theorem d_B_makeGolden_22 : decode c_B_makeGolden 22 = .ok (.iload_n 1, 1) := by decide +kernel
theorem d_B_makeGolden_23 : decode c_B_makeGolden 23 = .ok (.invokevirtual 30, 3) := by decide +kernel
theorem d_B_makeGolden_26 : decode c_B_makeGolden 26 = .ok (.aload_n 0, 1) := by decide +kernel
theorem d_B_makeGolden_27 : decode c_B_makeGolden 27 = .ok (.getfield 23, 3) := by decide +kernel
theorem d_B_makeGolden_30 : decode c_B_makeGolden 30 = .ok (.aload_n 0, 1) := by decide +kernel
theorem d_B_makeGolden_31 : decode c_B_makeGolden 31 = .ok (.getfield 14, 3) := by decide +kernel
theorem d_B_makeGolden_34 : decode c_B_makeGolden 34 = .ok (.invokevirtual 43, 3) := by decide +kernel
theorem d_B_makeGolden_37 : decode c_B_makeGolden 37 = .ok (.aload_n 0, 1) := by decide +kernel
theorem d_B_makeGolden_38 : decode c_B_makeGolden 38 = .ok (.getfield 23, 3) := by decide +kernel
theorem d_B_makeGolden_41 : decode c_B_makeGolden 41 = .ok (.iconst 1, 1) := by decide +kernel
theorem d_B_makeGolden_42 : decode c_B_makeGolden 42 = .ok (.invokevirtual 47, 3) := by decide +kernel
theorem d_B_makeGolden_45 : decode c_B_makeGolden 45 = .ok (.return_, 1) := by decide +kernel
theorem d_B_makeRoot_0 : decode c_B_makeRoot 0 = .ok (.aload_n 0, 1) := by decide +kernel
theorem d_B_makeRoot_1 : decode c_B_makeRoot 1 = .ok (.getfield 14, 3) := by decide +kernel
theorem d_B_makeRoot_4 : decode c_B_makeRoot 4 = .ok (.lload_n 1, 1) := by decide +kernel
theorem d_B_makeRoot_5 : decode c_B_makeRoot 5 = .ok (.invokevirtual 26, 3) := by decide +kernel
theorem d_B_makeRoot_8 : decode c_B_makeRoot 8 = .ok (.aload_n 0, 1) := by decide +kernel
theorem d_B_makeRoot_9 : decode c_B_makeRoot 9 = .ok (.getfield 14, 3) := by decide +kernel
theorem d_B_makeRoot_12 : decode c_B_makeRoot 12 = .ok (.iload 4, 2) := by decide +kernel
theorem d_B_makeRoot_14 : decode c_B_makeRoot 14 = .ok (.iconst 2, 1) := by decide +kernel
theorem d_B_makeRoot_15 : decode c_B_makeRoot 15 = .ok (.iload_n 3, 1) := by decide +kernel
theorem d_B_makeRoot_16 : decode c_B_makeRoot 16 = .ok (.imul, 1) := by decide +kernel
theorem d_B_makeRoot_17 : decode c_B_makeRoot 17 = .ok (.invokevirtual 30, 3) := by decide +kernel
theorem d_B_makeRoot_20 : decode c_B_makeRoot 20 = .ok (.aload_n 0, 1) := by decide +kernel
theorem d_B_makeRoot_21 : decode c_B_makeRoot 21 = .ok (.invokevirtual 34, 3) := by decide +kernel
theorem d_B_makeRoot_24 : decode c_B_makeRoot 24 = .ok (.return_, 1) := by decide +kernel
theorem d_B_makeQuotient_0 : decode c_B_makeQuotient 0 = .ok (.aload_n 0, 1) := by decide +kernel
theorem d_B_makeQuotient_1 : decode c_B_makeQuotient 1 = .ok (.getfield 14, 3) := by decide +kernel
theorem d_B_makeQuotient_4 : decode c_B_makeQuotient 4 = .ok (.getfield 50, 3) := by decide +kernel
theorem d_B_makeQuotient_7 : decode c_B_makeQuotient 7 = .ok (.aload_n 0, 1) := by decide +kernel
theorem d_B_makeQuotient_8 : decode c_B_makeQuotient 8 = .ok (.getfield 20, 3) := by decide +kernel
theorem d_B_makeQuotient_11 : decode c_B_makeQuotient 11 = .ok (.getfield 50, 3) := by decide +kernel
theorem d_B_makeQuotient_14 : decode c_B_makeQuotient 14 = .ok (.if_icmp .lt 13, 3) := by decide +kernel
theorem d_B_makeQuotient_17 : decode c_B_makeQuotient 17 = .ok (.aload_n 0, 1) := by decide +kernel
theorem d_B_makeQuotient_18 : decode c_B_makeQuotient 18 = .ok (.getfield 20, 3) := by decide +kernel
theorem d_B_makeQuotient_21 : decode c_B_makeQuotient 21 = .ok (.getfield 50, 3) := by decide +kernel
theorem d_B_makeQuotient_24 : decode c_B_makeQuotient 24 = .ok (.ifCond .ne 12, 3) := by decide +kernel
theorem d_B_makeQuotient_27 : decode c_B_makeQuotient 27 = .ok (.aload_n 0, 1) := by decide +kernel
theorem d_B_makeQuotient_28 : decode c_B_makeQuotient 28 = .ok (.getfield 23, 3) := by decide +kernel
theorem d_B_makeQuotient_31 : decode c_B_makeQuotient 31 = .ok (.iconst 0, 1) := by decide +kernel
theorem d_B_makeQuotient_32 : decode c_B_makeQuotient 32 = .ok (.invokevirtual 54, 3) := by decide +kernel
theorem d_B_makeQuotient_35 : decode c_B_makeQuotient 35 = .ok (.return_, 1) := by decide +kernel
theorem d_B_makeQuotient_36 : decode c_B_makeQuotient 36 = .ok (.bipush 30, 2) := by decide +kernel
theorem d_B_makeQuotient_38 : decode c_B_makeQuotient 38 = .ok (.aload_n 0, 1) := by decide +kernel
theorem d_B_makeQuotient_39 : decode c_B_makeQuotient 39 = .ok (.getfield 20, 3) := by decide +kernel
theorem d_B_makeQuotient_42 : decode c_B_makeQuotient 42 = .ok (.getfield 57, 3) := by decide +kernel
theorem d_B_makeQuotient_45 : decode c_B_makeQuotient 45 = .ok (.aload_n 0, 1) := by decide +kernel
theorem d_B_makeQuotient_46 : decode c_B_makeQuotient 46 = .ok (.getfield 20, 3) := by decide +kernel
theorem d_B_makeQuotient_49 : decode c_B_makeQuotient 49 = .ok (.getfield 50, 3) := by decide +kernel
theorem d_B_makeQuotient_52 : decode c_B_makeQuotient 52 = .ok (.iconst 1, 1) := by decide +kernel
theorem d_B_makeQuotient_53 : decode c_B_makeQuotient 53 = .ok (.isub, 1) := by decide +kernel
theorem d_B_makeQuotient_54 : decode c_B_makeQuotient 54 = .ok (.iaload, 1) := by decide +kernel
theorem d_B_makeQuotient_55 : decode c_B_makeQuotient 55 = .ok (.invokestatic 61, 3) := by decide +kernel
theorem d_B_makeQuotient_58 : decode c_B_makeQuotient 58 = .ok (.isub, 1) := by decide +kernel
theorem d_B_makeQuotient_59 : decode c_B_makeQuotient 59 = .ok (.istore_n 1, 1) := by decide +kernel
theorem d_B_makeQuotient_60 : decode c_B_makeQuotient 60 = .ok (.aload_n 0, 1) := by decide +kernel
theorem d_B_makeQuotient_61 : decode c_B_makeQuotient 61 = .ok (.getfield 14, 3) := by decide +kernel
theorem d_B_makeQuotient_64 : decode c_B_makeQuotient 64 = .ok (.iload_n 1, 1) := by decide +kernel
theorem d_B_makeQuotient_65 : decode c_B_makeQuotient 65 = .ok (.invokevirtual 65, 3) := by decide +kernel
theorem d_B_makeQuotient_68 : decode c_B_makeQuotient 68 = .ok (.aload_n 0, 1) := by decide +kernel
theorem d_B_makeQuotient_69 : decode c_B_makeQuotient 69 = .ok (.getfield 20, 3) := by decide +kernel
theorem d_B_makeQuotient_72 : decode c_B_makeQuotient 72 = .ok (.iload_n 1, 1) := by decide +kernel
theorem d_B_makeQuotient_73 : decode c_B_makeQuotient 73 = .ok (.invokevirtual 65, 3) := by decide +kernel
theorem d_B_makeQuotient_76 : decode c_B_makeQuotient 76 = .ok (.aload_n 0, 1) := by decide +kernel
theorem d_B_makeQuotient_77 : decode c_B_makeQuotient 77 = .ok (.getfield 14, 3) := by decide +kernel
theorem d_B_makeQuotient_80 : decode c_B_makeQuotient 80 = .ok (.getfield 50, 3) := by decide +kernel
theorem d_B_makeQuotient_83 : decode c_B_makeQuotient 83 = .ok (.aload_n 0, 1) := by decide +kernel
theorem d_B_makeQuotient_84 : decode c_B_makeQuotient 84 = .ok (.getfield 20, 3) := by decide +kernel
theorem d_B_makeQuotient_87 : decode c_B_makeQuotient 87 = .ok (.getfield 50, 3) := by decide +kernel
theorem d_B_makeQuotient_90 : decode c_B_makeQuotient 90 = .ok (.isub, 1) := by decide +kernel
theorem d_B_makeQuotient_91 : decode c_B_makeQuotient 91 = .ok (.istore_n 2, 1) := by decide +kernel
theorem d_B_makeQuotient_92 : decode c_B_makeQuotient 92 = .ok (.aload_n 0, 1) := by decide +kernel
theorem d_B_makeQuotient_93 : decode c_B_makeQuotient 93 = .ok (.getfield 14, 3) := by decide +kernel
theorem d_B_makeQuotient_96 : decode c_B_makeQuotient 96 = .ok (.invokevirtual 68, 3) := by decide +kernel
theorem d_B_makeQuotient_99 : decode c_B_makeQuotient 99 = .ok (.aload_n 0, 1) := by decide +kernel
theorem d_B_makeQuotient_100 : decode c_B_makeQuotient 100 = .ok (.getfield 23, 3) := by decide +kernel
theorem d_B_makeQuotient_103 : decode c_B_makeQuotient 103 = .ok (.iload_n 2, 1) := by decide +kernel
theorem d_B_makeQuotient_104 : decode c_B_makeQuotient 104 = .ok (.iconst 1, 1) := by decide +kernel
theorem d_B_makeQuotient_105 : decode c_B_makeQuotient 105 = .ok (.iadd, 1) := by decide +kernel
theorem d_B_makeQuotient_106 : decode c_B_makeQuotient 106 = .ok (.invokevirtual 54, 3) := by decide +kernel
theorem d_B_makeQuotient_109 : decode c_B_makeQuotient 109 = .ok (.iload_n 2, 1) := by decide +kernel
theorem d_B_makeQuotient_110 : decode c_B_makeQuotient 110 = .ok (.istore_n 3, 1) := by decide +kernel
theorem d_B_makeQuotient_111 : decode c_B_makeQuotient 111 = .ok (.iload_n 3, 1) := by decide +kernel
theorem d_B_makeQuotient_112 : decode c_B_makeQuotient 112 = .ok (.ifCond .lt 23, 3) := by decide +kernel
theorem d_B_makeQuotient_115 : decode c_B_makeQuotient 115 = .ok (.aload_n 0, 1) := by decide +kernel
theorem d_B_makeQuotient_116 : decode c_B_makeQuotient 116 = .ok (.getfield 23, 3) := by decide +kernel
theorem d_B_makeQuotient_119 : decode c_B_makeQuotient 119 = .ok (.getfield 57, 3) := by decide +kernel
theorem d_B_makeQuotient_122 : decode c_B_makeQuotient 122 = .ok (.iload_n 3, 1) := by decide +kernel
theorem d_B_makeQuotient_123 : decode c_B_makeQuotient 123 = .ok (.aload_n 0, 1) := by decide +kernel
theorem d_B_makeQuotient_124 : decode c_B_makeQuotient 124 = .ok (.iload_n 3, 1) := by decide +kernel
theorem d_B_makeQuotient_125 : decode c_B_makeQuotient 125 = .ok (.invokevirtual 71, 3) := by decide +kernel
theorem d_B_makeQuotient_128 : decode c_B_makeQuotient 128 = .ok (.iastore, 1) := by decide +kernel
theorem d_B_makeQuotient_129 : decode c_B_makeQuotient 129 = .ok (.iinc 3 (-1), 3) := by decide +kernel
theorem d_B_makeQuotient_132 : decode c_B_makeQuotient 132 = .ok (.goto (-21), 3) := by decide +kernel
theorem d_B_makeQuotient_135 : decode c_B_makeQuotient 135 = .ok (.aload_n 0, 1) := by decide +kernel
theorem d_B_makeQuotient_136 : decode c_B_makeQuotient 136 = .ok (.getfield 23, 3) := by decide +kernel
theorem d_B_makeQuotient_139 : decode c_B_makeQuotient 139 = .ok (.invokevirtual 74, 3) := by decide +kernel
theorem d_B_makeQuotient_142 : decode c_B_makeQuotient 142 = .ok (.aload_n 0, 1) := by decide +kernel
theorem d_B_makeQuotient_143 : decode c_B_makeQuotient 143 = .ok (.getfield 14, 3) := by decide +kernel
theorem d_B_makeQuotient_146 : decode c_B_makeQuotient 146 = .ok (.aload_n 0, 1) := by decide +kernel
theorem d_B_makeQuotient_147 : decode c_B_makeQuotient 147 = .ok (.getfield 20, 3) := by decide +kernel
theorem d_B_makeQuotient_150 : decode c_B_makeQuotient 150 = .ok (.getfield 50, 3) := by decide +kernel
theorem d_B_makeQuotient_153 : decode c_B_makeQuotient 153 = .ok (.putfield 50, 3) := by decide +kernel
theorem d_B_makeQuotient_156 : decode c_B_makeQuotient 156 = .ok (.aload_n 0, 1) := by decide +kernel
theorem d_B_makeQuotient_157 : decode c_B_makeQuotient 157 = .ok (.getfield 14, 3) := by decide +kernel
theorem d_B_makeQuotient_160 : decode c_B_makeQuotient 160 = .ok (.invokevirtual 74, 3) := by decide +kernel
theorem d_B_makeQuotient_163 : decode c_B_makeQuotient 163 = .ok (.aload_n 0, 1) := by decide +kernel
theorem d_B_makeQuotient_164 : decode c_B_makeQuotient 164 = .ok (.getfield 14, 3) := by decide +kernel
theorem d_B_makeQuotient_167 : decode c_B_makeQuotient 167 = .ok (.iload_n 1, 1) := by decide +kernel
theorem d_B_makeQuotient_168 : decode c_B_makeQuotient 168 = .ok (.invokevirtual 47, 3) := by decide +kernel
theorem d_B_makeQuotient_171 : decode c_B_makeQuotient 171 = .ok (.return_, 1) := by decide +kernel
theorem d_B_quotientLimb_0 : decode c_B_quotientLimb 0 = .ok (.aload_n 0, 1) := by decide +kernel
theorem d_B_quotientLimb_1 : decode c_B_quotientLimb 1 = .ok (.getfield 20, 3) := by decide +kernel
theorem d_B_quotientLimb_4 : decode c_B_quotientLimb 4 = .ok (.getfield 50, 3) := by decide +kernel
theorem d_B_quotientLimb_7 : decode c_B_quotientLimb 7 = .ok (.istore_n 2, 1) := by decide +kernel
theorem d_B_quotientLimb_8 : decode c_B_quotientLimb 8 = .ok (.aload_n 0, 1) := by decide +kernel
theorem d_B_quotientLimb_9 : decode c_B_quotientLimb 9 = .ok (.getfield 14, 3) := by decide +kernel
theorem d_B_quotientLimb_12 : decode c_B_quotientLimb 12 = .ok (.getfield 57, 3) := by decide +kernel
theorem d_B_quotientLimb_15 : decode c_B_quotientLimb 15 = .ok (.iload_n 1, 1) := by decide +kernel
theorem d_B_quotientLimb_16 : decode c_B_quotientLimb 16 = .ok (.iload_n 2, 1) := by decide +kernel
theorem d_B_quotientLimb_17 : decode c_B_quotientLimb 17 = .ok (.iadd, 1) := by decide +kernel
theorem d_B_quotientLimb_18 : decode c_B_quotientLimb 18 = .ok (.iaload, 1) := by decide +kernel
theorem d_B_quotientLimb_19 : decode c_B_quotientLimb 19 = .ok (.i2l, 1) := by decide +kernel
theorem d_B_quotientLimb_20 : decode c_B_quotientLimb 20 = .ok (.bipush 30, 2) := by decide +kernel
theorem d_B_quotientLimb_22 : decode c_B_quotientLimb 22 = .ok (.lshl, 1) := by decide +kernel
theorem d_B_quotientLimb_23 : decode c_B_quotientLimb 23 = .ok (.aload_n 0, 1) := by decide +kernel
theorem d_B_quotientLimb_24 : decode c_B_quotientLimb 24 = .ok (.getfield 14, 3) := by decide +kernel
theorem d_B_quotientLimb_27 : decode c_B_quotientLimb 27 = .ok (.getfield 57, 3) := by decide +kernel
theorem d_B_quotientLimb_30 : decode c_B_quotientLimb 30 = .ok (.iload_n 1, 1) := by decide +kernel
theorem d_B_quotientLimb_31 : decode c_B_quotientLimb 31 = .ok (.iload_n 2, 1) := by decide +kernel
theorem d_B_quotientLimb_32 : decode c_B_quotientLimb 32 = .ok (.iadd, 1) := by decide +kernel
theorem d_B_quotientLimb_33 : decode c_B_quotientLimb 33 = .ok (.iconst 1, 1) := by decide +kernel
theorem d_B_quotientLimb_34 : decode c_B_quotientLimb 34 = .ok (.isub, 1) := by decide +kernel
theorem d_B_quotientLimb_35 : decode c_B_quotientLimb 35 = .ok (.iaload, 1) := by decide +kernel
theorem d_B_quotientLimb_36 : decode c_B_quotientLimb 36 = .ok (.i2l, 1) := by decide +kernel
theorem d_B_quotientLimb_37 : decode c_B_quotientLimb 37 = .ok (.lor, 1) := by decide +kernel
theorem d_B_quotientLimb_38 : decode c_B_quotientLimb 38 = .ok (.lstore_n 3, 1) := by decide +kernel
theorem d_B_quotientLimb_39 : decode c_B_quotientLimb 39 = .ok (.ldc2_w 77, 3) := by decide +kernel
theorem d_B_quotientLimb_42 : decode c_B_quotientLimb 42 = .ok (.lload_n 3, 1) := by decide +kernel
theorem d_B_quotientLimb_43 : decode c_B_quotientLimb 43 = .ok (.aload_n 0, 1) := by decide +kernel
theorem d_B_quotientLimb_44 : decode c_B_quotientLimb 44 = .ok (.getfield 20, 3) := by decide +kernel
theorem d_B_quotientLimb_47 : decode c_B_quotientLimb 47 = .ok (.getfield 57, 3) := by decide +kernel
theorem d_B_quotientLimb_50 : decode c_B_quotientLimb 50 = .ok (.iload_n 2, 1) := by decide +kernel
theorem d_B_quotientLimb_51 : decode c_B_quotientLimb 51 = .ok (.iconst 1, 1) := by decide +kernel
theorem d_B_quotientLimb_52 : decode c_B_quotientLimb 52 = .ok (.isub, 1) := by decide +kernel
theorem d_B_quotientLimb_53 : decode c_B_quotientLimb 53 = .ok (.iaload, 1) := by decide +kernel
theorem d_B_quotientLimb_54 : decode c_B_quotientLimb 54 = .ok (.i2l, 1) := by decide +kernel
theorem d_B_quotientLimb_55 : decode c_B_quotientLimb 55 = .ok (.ldiv, 1) := by decide +kernel
theorem d_B_quotientLimb_56 : decode c_B_quotientLimb 56 = .ok (.invokestatic 79, 3) := by decide +kernel
theorem d_B_quotientLimb_59 : decode c_B_quotientLimb 59 = .ok (.lstore 5, 2) := by decide +kernel
theorem d_B_quotientLimb_61 : decode c_B_quotientLimb 61 = .ok (.aload_n 0, 1) := by decide +kernel
theorem d_B_quotientLimb_62 : decode c_B_quotientLimb 62 = .ok (.getfield 14, 3) := by decide +kernel
theorem d_B_quotientLimb_65 : decode c_B_quotientLimb 65 = .ok (.iload_n 1, 1) := by decide +kernel
theorem d_B_quotientLimb_66 : decode c_B_quotientLimb 66 = .ok (.aload_n 0, 1) := by decide +kernel
theorem d_B_quotientLimb_67 : decode c_B_quotientLimb 67 = .ok (.getfield 20, 3) := by decide +kernel
theorem d_B_quotientLimb_70 : decode c_B_quotientLimb 70 = .ok (.iconst 0, 1) := by decide +kernel
theorem d_B_quotientLimb_71 : decode c_B_quotientLimb 71 = .ok (.iload_n 2, 1) := by decide +kernel
theorem d_B_quotientLimb_72 : decode c_B_quotientLimb 72 = .ok (.lload 5, 2) := by decide +kernel
theorem d_B_quotientLimb_74 : decode c_B_quotientLimb 74 = .ok (.invokevirtual 85, 3) := by decide +kernel
theorem d_B_quotientLimb_77 : decode c_B_quotientLimb 77 = .ok (.istore 7, 2) := by decide +kernel
theorem d_B_quotientLimb_79 : decode c_B_quotientLimb 79 = .ok (.iconst 0, 1) := by decide +kernel
theorem d_B_quotientLimb_80 : decode c_B_quotientLimb 80 = .ok (.istore 8, 2) := by decide +kernel
theorem d_B_quotientLimb_82 : decode c_B_quotientLimb 82 = .ok (.iload 7, 2) := by decide +kernel
theorem d_B_quotientLimb_84 : decode c_B_quotientLimb 84 = .ok (.ifCond .ge 43, 3) := by decide +kernel
theorem d_B_quotientLimb_87 : decode c_B_quotientLimb 87 = .ok (.iload 8, 2) := by decide +kernel
theorem d_B_quotientLimb_89 : decode c_B_quotientLimb 89 = .ok (.iconst 2, 1) := by decide +kernel
theorem d_B_quotientLimb_90 : decode c_B_quotientLimb 90 = .ok (.if_icmp .ge 37, 3) := by decide +kernel
theorem d_B_quotientLimb_93 : decode c_B_quotientLimb 93 = .ok (.lload 5, 2) := by decide +kernel
theorem d_B_quotientLimb_95 : decode c_B_quotientLimb 95 = .ok (.lconst 1, 1) := by decide +kernel
theorem d_B_quotientLimb_96 : decode c_B_quotientLimb 96 = .ok (.lsub, 1) := by decide +kernel
theorem d_B_quotientLimb_97 : decode c_B_quotientLimb 97 = .ok (.lstore 5, 2) := by decide +kernel
theorem d_B_quotientLimb_99 : decode c_B_quotientLimb 99 = .ok (.iload 7, 2) := by decide +kernel
theorem d_B_quotientLimb_101 : decode c_B_quotientLimb 101 = .ok (.aload_n 0, 1) := by decide +kernel
theorem d_B_quotientLimb_102 : decode c_B_quotientLimb 102 = .ok (.getfield 14, 3) := by decide +kernel
theorem d_B_quotientLimb_105 : decode c_B_quotientLimb 105 = .ok (.iload_n 1, 1) := by decide +kernel
theorem d_B_quotientLimb_106 : decode c_B_quotientLimb 106 = .ok (.aload_n 0, 1) := by decide +kernel
theorem d_B_quotientLimb_107 : decode c_B_quotientLimb 107 = .ok (.getfield 20, 3) := by decide +kernel
theorem d_B_quotientLimb_110 : decode c_B_quotientLimb 110 = .ok (.iconst 0, 1) := by decide +kernel
theorem d_B_quotientLimb_111 : decode c_B_quotientLimb 111 = .ok (.iload_n 2, 1) := by decide +kernel
theorem d_B_quotientLimb_112 : decode c_B_quotientLimb 112 = .ok (.ldc2_w 89, 3) := by decide +kernel
theorem d_B_quotientLimb_115 : decode c_B_quotientLimb 115 = .ok (.invokevirtual 85, 3) := by decide +kernel
theorem d_B_quotientLimb_118 : decode c_B_quotientLimb 118 = .ok (.iadd, 1) := by decide +kernel
theorem d_B_quotientLimb_119 : decode c_B_quotientLimb 119 = .ok (.istore 7, 2) := by decide +kernel
theorem d_B_quotientLimb_121 : decode c_B_quotientLimb 121 = .ok (.iinc 8 1, 3) := by decide +kernel
theorem d_B_quotientLimb_124 : decode c_B_quotientLimb 124 = .ok (.goto (-42), 3) := by decide +kernel
theorem d_B_quotientLimb_127 : decode c_B_quotientLimb 127 = .ok (.lload 5, 2) := by decide +kernel
theorem d_B_quotientLimb_129 : decode c_B_quotientLimb 129 = .ok (.l2i, 1) := by decide +kernel
theorem d_B_quotientLimb_130 : decode c_B_quotientLimb 130 = .ok (.ireturn, 1) := by decide +kernel
theorem d_T_shiftIn_0 : decode c_T_shiftIn 0 = .ok (.aload_n 0, 1) := by decide +kernel
theorem d_T_shiftIn_1 : decode c_T_shiftIn 1 = .ok (.getfield 40, 3) := by decide +kernel
theorem d_T_shiftIn_4 : decode c_T_shiftIn 4 = .ok (.ifCond .ne 4, 3) := by decide +kernel
theorem d_T_shiftIn_7 : decode c_T_shiftIn 7 = .ok (.return_, 1) := by decide +kernel
theorem d_T_shiftIn_8 : decode c_T_shiftIn 8 = .ok (.aload_n 0, 1) := by decide +kernel
theorem d_T_shiftIn_9 : decode c_T_shiftIn 9 = .ok (.getfield 28, 3) := by decide +kernel
theorem d_T_shiftIn_12 : decode c_T_shiftIn 12 = .ok (.aload_n 0, 1) := by decide +kernel
theorem d_T_shiftIn_13 : decode c_T_shiftIn 13 = .ok (.getfield 61, 3) := by decide +kernel
theorem d_T_shiftIn_16 : decode c_T_shiftIn 16 = .ok (.iaload, 1) := by decide +kernel
theorem d_T_shiftIn_17 : decode c_T_shiftIn 17 = .ok (.i2l, 1) := by decide +kernel
theorem d_T_shiftIn_18 : decode c_T_shiftIn 18 = .ok (.lstore_n 2, 1) := by decide +kernel
theorem d_T_shiftIn_19 : decode c_T_shiftIn 19 = .ok (.iload_n 1, 1) := by decide +kernel
theorem d_T_shiftIn_20 : decode c_T_shiftIn 20 = .ok (.i2l, 1) := by decide +kernel
theorem d_T_shiftIn_21 : decode c_T_shiftIn 21 = .ok (.lstore 4, 2) := by decide +kernel
theorem d_T_shiftIn_23 : decode c_T_shiftIn 23 = .ok (.iconst 0, 1) := by decide +kernel
theorem d_T_shiftIn_24 : decode c_T_shiftIn 24 = .ok (.istore 6, 2) := by decide +kernel
theorem d_T_shiftIn_26 : decode c_T_shiftIn 26 = .ok (.iload 6, 2) := by decide +kernel
theorem d_T_shiftIn_28 : decode c_T_shiftIn 28 = .ok (.aload_n 0, 1) := by decide +kernel
theorem d_T_shiftIn_29 : decode c_T_shiftIn 29 = .ok (.getfield 34, 3) := by decide +kernel
theorem d_T_shiftIn_32 : decode c_T_shiftIn 32 = .ok (.if_icmp .ge 49, 3) := by decide +kernel
theorem d_T_shiftIn_35 : decode c_T_shiftIn 35 = .ok (.aload_n 0, 1) := by decide +kernel
theorem d_T_shiftIn_36 : decode c_T_shiftIn 36 = .ok (.getfield 24, 3) := by decide +kernel
theorem d_T_shiftIn_39 : decode c_T_shiftIn 39 = .ok (.iload 6, 2) := by decide +kernel
theorem d_T_shiftIn_41 : decode c_T_shiftIn 41 = .ok (.iaload, 1) := by decide +kernel
theorem d_T_shiftIn_42 : decode c_T_shiftIn 42 = .ok (.i2l, 1) := by decide +kernel
theorem d_T_shiftIn_43 : decode c_T_shiftIn 43 = .ok (.aload_n 0, 1) := by decide +kernel
theorem d_T_shiftIn_44 : decode c_T_shiftIn 44 = .ok (.getfield 20, 3) := by decide +kernel
theorem d_T_shiftIn_47 : decode c_T_shiftIn 47 = .ok (.i2l, 1) := by decide +kernel
theorem d_T_shiftIn_48 : decode c_T_shiftIn 48 = .ok (.lmul, 1) := by decide +kernel
theorem d_T_shiftIn_49 : decode c_T_shiftIn 49 = .ok (.lload 4, 2) := by decide +kernel
theorem d_T_shiftIn_51 : decode c_T_shiftIn 51 = .ok (.ladd, 1) := by decide +kernel
theorem d_T_shiftIn_52 : decode c_T_shiftIn 52 = .ok (.lstore 7, 2) := by decide +kernel
theorem d_T_shiftIn_54 : decode c_T_shiftIn 54 = .ok (.lload 7, 2) := by decide +kernel
theorem d_T_shiftIn_56 : decode c_T_shiftIn 56 = .ok (.lload_n 2, 1) := by decide +kernel
theorem d_T_shiftIn_57 : decode c_T_shiftIn 57 = .ok (.ldiv, 1) := by decide +kernel
theorem d_T_shiftIn_58 : decode c_T_shiftIn 58 = .ok (.lstore 4, 2) := by decide +kernel
theorem d_T_shiftIn_60 : decode c_T_shiftIn 60 = .ok (.aload_n 0, 1) := by decide +kernel
theorem d_T_shiftIn_61 : decode c_T_shiftIn 61 = .ok (.getfield 24, 3) := by decide +kernel
theorem d_T_shiftIn_64 : decode c_T_shiftIn 64 = .ok (.iload 6, 2) := by decide +kernel
theorem d_T_shiftIn_66 : decode c_T_shiftIn 66 = .ok (.lload 7, 2) := by decide +kernel
theorem d_T_shiftIn_68 : decode c_T_shiftIn 68 = .ok (.lload 4, 2) := by decide +kernel
theorem d_T_shiftIn_70 : decode c_T_shiftIn 70 = .ok (.lload_n 2, 1) := by decide +kernel
theorem d_T_shiftIn_71 : decode c_T_shiftIn 71 = .ok (.lmul, 1) := by decide +kernel
theorem d_T_shiftIn_72 : decode c_T_shiftIn 72 = .ok (.lsub, 1) := by decide +kernel
theorem d_T_shiftIn_73 : decode c_T_shiftIn 73 = .ok (.l2i, 1) := by decide +kernel
theorem d_T_shiftIn_74 : decode c_T_shiftIn 74 = .ok (.iastore, 1) := by decide +kernel
theorem d_T_shiftIn_75 : decode c_T_shiftIn 75 = .ok (.iinc 6 1, 3) := by decide +kernel
theorem d_T_shiftIn_78 : decode c_T_shiftIn 78 = .ok (.goto (-52), 3) := by decide +kernel
theorem d_T_shiftIn_81 : decode c_T_shiftIn 81 = .ok (.lload 4, 2) := by decide +kernel
theorem d_T_shiftIn_83 : decode c_T_shiftIn 83 = .ok (.lconst 0, 1) := by decide +kernel
theorem d_T_shiftIn_84 : decode c_T_shiftIn 84 = .ok (.lcmp, 1) := by decide +kernel
theorem d_T_shiftIn_85 : decode c_T_shiftIn 85 = .ok (.ifCond .le 37, 3) := by decide +kernel
theorem d_T_shiftIn_88 : decode c_T_shiftIn 88 = .ok (.aload_n 0, 1) := by decide +kernel
theorem d_T_shiftIn_89 : decode c_T_shiftIn 89 = .ok (.getfield 34, 3) := by decide +kernel
theorem d_T_shiftIn_92 : decode c_T_shiftIn 92 = .ok (.aload_n 0, 1) := by decide +kernel
theorem d_T_shiftIn_93 : decode c_T_shiftIn 93 = .ok (.getfield 24, 3) := by decide +kernel
theorem d_T_shiftIn_96 : decode c_T_shiftIn 96 = .ok (.arraylength, 1) := by decide +kernel
theorem d_T_shiftIn_97 : decode c_T_shiftIn 97 = .ok (.if_icmp .ge 25, 3) := by decide +kernel
theorem d_T_shiftIn_100 : decode c_T_shiftIn 100 = .ok (.aload_n 0, 1) := by decide +kernel
theorem d_T_shiftIn_101 : decode c_T_shiftIn 101 = .ok (.getfield 24, 3) := by decide +kernel
theorem d_T_shiftIn_104 : decode c_T_shiftIn 104 = .ok (.aload_n 0, 1) := by decide +kernel
theorem d_T_shiftIn_105 : decode c_T_shiftIn 105 = .ok (.getfield 34, 3) := by decide +kernel
theorem d_T_shiftIn_108 : decode c_T_shiftIn 108 = .ok (.lload 4, 2) := by decide +kernel
theorem d_T_shiftIn_110 : decode c_T_shiftIn 110 = .ok (.l2i, 1) := by decide +kernel
theorem d_T_shiftIn_111 : decode c_T_shiftIn 111 = .ok (.iastore, 1) := by decide +kernel
theorem d_T_shiftIn_112 : decode c_T_shiftIn 112 = .ok (.aload_n 0, 1) := by decide +kernel
theorem d_T_shiftIn_113 : decode c_T_shiftIn 113 = .ok (.dup, 1) := by decide +kernel
theorem d_T_shiftIn_114 : decode c_T_shiftIn 114 = .ok (.getfield 34, 3) := by decide +kernel
theorem d_T_shiftIn_117 : decode c_T_shiftIn 117 = .ok (.iconst 1, 1) := by decide +kernel
theorem d_T_shiftIn_118 : decode c_T_shiftIn 118 = .ok (.iadd, 1) := by decide +kernel
theorem d_T_shiftIn_119 : decode c_T_shiftIn 119 = .ok (.putfield 34, 3) := by decide +kernel
theorem d_T_shiftIn_122 : decode c_T_shiftIn 122 = .ok (.aload_n 0, 1) := by decide +kernel
theorem d_T_shiftIn_123 : decode c_T_shiftIn 123 = .ok (.invokevirtual 77, 3) := by decide +kernel
theorem d_T_shiftIn_126 : decode c_T_shiftIn 126 = .ok (.return_, 1) := by decide +kernel
theorem d_T_digitAt_0 : decode c_T_digitAt 0 = .ok (.aload_n 0, 1) := by decide +kernel
theorem d_T_digitAt_1 : decode c_T_digitAt 1 = .ok (.getfield 37, 3) := by decide +kernel
theorem d_T_digitAt_4 : decode c_T_digitAt 4 = .ok (.iconst 1, 1) := by decide +kernel
theorem d_T_digitAt_5 : decode c_T_digitAt 5 = .ok (.isub, 1) := by decide +kernel
theorem d_T_digitAt_6 : decode c_T_digitAt 6 = .ok (.iload_n 1, 1) := by decide +kernel
theorem d_T_digitAt_7 : decode c_T_digitAt 7 = .ok (.isub, 1) := by decide +kernel
theorem d_T_digitAt_8 : decode c_T_digitAt 8 = .ok (.istore_n 2, 1) := by decide +kernel
theorem d_T_digitAt_9 : decode c_T_digitAt 9 = .ok (.iload_n 2, 1) := by decide +kernel
theorem d_T_digitAt_10 : decode c_T_digitAt 10 = .ok (.aload_n 0, 1) := by decide +kernel
theorem d_T_digitAt_11 : decode c_T_digitAt 11 = .ok (.getfield 61, 3) := by decide +kernel
theorem d_T_digitAt_14 : decode c_T_digitAt 14 = .ok (.idiv, 1) := by decide +kernel
theorem d_T_digitAt_15 : decode c_T_digitAt 15 = .ok (.istore_n 3, 1) := by decide +kernel
theorem d_T_digitAt_16 : decode c_T_digitAt 16 = .ok (.aload_n 0, 1) := by decide +kernel
theorem d_T_digitAt_17 : decode c_T_digitAt 17 = .ok (.getfield 24, 3) := by decide +kernel
theorem d_T_digitAt_20 : decode c_T_digitAt 20 = .ok (.iload_n 3, 1) := by decide +kernel
theorem d_T_digitAt_21 : decode c_T_digitAt 21 = .ok (.iaload, 1) := by decide +kernel
theorem d_T_digitAt_22 : decode c_T_digitAt 22 = .ok (.aload_n 0, 1) := by decide +kernel
theorem d_T_digitAt_23 : decode c_T_digitAt 23 = .ok (.getfield 28, 3) := by decide +kernel
theorem d_T_digitAt_26 : decode c_T_digitAt 26 = .ok (.iload_n 2, 1) := by decide +kernel
theorem d_T_digitAt_27 : decode c_T_digitAt 27 = .ok (.aload_n 0, 1) := by decide +kernel
theorem d_T_digitAt_28 : decode c_T_digitAt 28 = .ok (.getfield 61, 3) := by decide +kernel
theorem d_T_digitAt_31 : decode c_T_digitAt 31 = .ok (.irem, 1) := by decide +kernel
theorem d_T_digitAt_32 : decode c_T_digitAt 32 = .ok (.iaload, 1) := by decide +kernel
theorem d_T_digitAt_33 : decode c_T_digitAt 33 = .ok (.idiv, 1) := by decide +kernel
theorem d_T_digitAt_34 : decode c_T_digitAt 34 = .ok (.aload_n 0, 1) := by decide +kernel
theorem d_T_digitAt_35 : decode c_T_digitAt 35 = .ok (.getfield 20, 3) := by decide +kernel
theorem d_T_digitAt_38 : decode c_T_digitAt 38 = .ok (.irem, 1) := by decide +kernel
theorem d_T_digitAt_39 : decode c_T_digitAt 39 = .ok (.ireturn, 1) := by decide +kernel
theorem d_T_sumOfDigits_0 : decode c_T_sumOfDigits 0 = .ok (.iconst 0, 1) := by decide +kernel
theorem d_T_sumOfDigits_1 : decode c_T_sumOfDigits 1 = .ok (.istore_n 1, 1) := by decide +kernel
theorem d_T_sumOfDigits_2 : decode c_T_sumOfDigits 2 = .ok (.iconst 0, 1) := by decide +kernel
theorem d_T_sumOfDigits_3 : decode c_T_sumOfDigits 3 = .ok (.istore_n 2, 1) := by decide +kernel
theorem d_T_sumOfDigits_4 : decode c_T_sumOfDigits 4 = .ok (.iload_n 2, 1) := by decide +kernel
theorem d_T_sumOfDigits_5 : decode c_T_sumOfDigits 5 = .ok (.aload_n 0, 1) := by decide +kernel
theorem d_T_sumOfDigits_6 : decode c_T_sumOfDigits 6 = .ok (.getfield 34, 3) := by decide +kernel
theorem d_T_sumOfDigits_9 : decode c_T_sumOfDigits 9 = .ok (.if_icmp .ge 39, 3) := by decide +kernel
theorem d_T_sumOfDigits_12 : decode c_T_sumOfDigits 12 = .ok (.aload_n 0, 1) := by decide +kernel
theorem d_T_sumOfDigits_13 : decode c_T_sumOfDigits 13 = .ok (.getfield 24, 3) := by decide +kernel
theorem d_T_sumOfDigits_16 : decode c_T_sumOfDigits 16 = .ok (.iload_n 2, 1) := by decide +kernel
theorem d_T_sumOfDigits_17 : decode c_T_sumOfDigits 17 = .ok (.iaload, 1) := by decide +kernel
theorem d_T_sumOfDigits_18 : decode c_T_sumOfDigits 18 = .ok (.istore_n 3, 1) := by decide +kernel
theorem d_T_sumOfDigits_19 : decode c_T_sumOfDigits 19 = .ok (.iload_n 3, 1) := by decide +kernel
theorem d_T_sumOfDigits_20 : decode c_T_sumOfDigits 20 = .ok (.ifCond .le 22, 3) := by decide +kernel
theorem d_T_sumOfDigits_23 : decode c_T_sumOfDigits 23 = .ok (.iload_n 1, 1) := by decide +kernel
theorem d_T_sumOfDigits_24 : decode c_T_sumOfDigits 24 = .ok (.iload_n 3, 1) := by decide +kernel
theorem d_T_sumOfDigits_25 : decode c_T_sumOfDigits 25 = .ok (.aload_n 0, 1) := by decide +kernel
theorem d_T_sumOfDigits_26 : decode c_T_sumOfDigits 26 = .ok (.getfield 20, 3) := by decide +kernel
theorem d_T_sumOfDigits_29 : decode c_T_sumOfDigits 29 = .ok (.irem, 1) := by decide +kernel
theorem d_T_sumOfDigits_30 : decode c_T_sumOfDigits 30 = .ok (.iadd, 1) := by decide +kernel
theorem d_T_sumOfDigits_31 : decode c_T_sumOfDigits 31 = .ok (.istore_n 1, 1) := by decide +kernel
theorem d_T_sumOfDigits_32 : decode c_T_sumOfDigits 32 = .ok (.iload_n 3, 1) := by decide +kernel
theorem d_T_sumOfDigits_33 : decode c_T_sumOfDigits 33 = .ok (.aload_n 0, 1) := by decide +kernel
theorem d_T_sumOfDigits_34 : decode c_T_sumOfDigits 34 = .ok (.getfield 20, 3) := by decide +kernel
theorem d_T_sumOfDigits_37 : decode c_T_sumOfDigits 37 = .ok (.idiv, 1) := by decide +kernel
theorem d_T_sumOfDigits_38 : decode c_T_sumOfDigits 38 = .ok (.istore_n 3, 1) := by decide +kernel
theorem d_T_sumOfDigits_39 : decode c_T_sumOfDigits 39 = .ok (.goto (-20), 3) := by decide +kernel
theorem d_T_sumOfDigits_42 : decode c_T_sumOfDigits 42 = .ok (.iinc 2 1, 3) := by decide +kernel
theorem d_T_sumOfDigits_45 : decode c_T_sumOfDigits 45 = .ok (.goto (-41), 3) := by decide +kernel
theorem d_T_sumOfDigits_48 : decode c_T_sumOfDigits 48 = .ok (.iload_n 1, 1) := by decide +kernel
theorem d_T_sumOfDigits_49 : decode c_T_sumOfDigits 49 = .ok (.ireturn, 1) := by decide +kernel
end
section
theorem d_D_init_0 : decode c_D_init 0 = .ok (.aload_n 0, 1) := by decide +kernel
theorem d_D_init_1 : decode c_D_init 1 = .ok (.invokespecial 3, 3) := by decide +kernel
theorem d_D_init_4 : decode c_D_init 4 = .ok (.aload_n 0, 1) := by decide +kernel
theorem d_D_init_5 : decode c_D_init 5 = .ok (.new 9, 3) := by decide +kernel
theorem d_D_init_8 : decode c_D_init 8 = .ok (.dup, 1) := by decide +kernel
theorem d_D_init_9 : decode c_D_init 9 = .ok (.invokespecial 11, 3) := by decide +kernel
theorem d_D_init_12 : decode c_D_init 12 = .ok (.putfield 12, 3) := by decide +kernel
theorem d_D_init_15 : decode c_D_init 15 = .ok (.aload_n 0, 1) := by decide +kernel
theorem d_D_init_16 : decode c_D_init 16 = .ok (.new 9, 3) := by decide +kernel
theorem d_D_init_19 : decode c_D_init 19 = .ok (.dup, 1) := by decide +kernel
theorem d_D_init_20 : decode c_D_init 20 = .ok (.invokespecial 11, 3) := by decide +kernel
theorem d_D_init_23 : decode c_D_init 23 = .ok (.putfield 16, 3) := by decide +kernel
theorem d_D_init_26 : decode c_D_init 26 = .ok (.aload_n 0, 1) := by decide +kernel
theorem d_D_init_27 : decode c_D_init 27 = .ok (.new 19, 3) := by decide +kernel
theorem d_D_init_30 : decode c_D_init 30 = .ok (.dup, 1) := by decide +kernel
theorem d_D_init_31 : decode c_D_init 31 = .ok (.invokespecial 21, 3) := by decide +kernel
theorem d_D_init_34 : decode c_D_init 34 = .ok (.putfield 22, 3) := by decide +kernel
theorem d_D_init_37 : decode c_D_init 37 = .ok (.aload_n 0, 1) := by decide +kernel
theorem d_D_init_38 : decode c_D_init 38 = .ok (.new 26, 3) := by decide +kernel
theorem d_D_init_41 : decode c_D_init 41 = .ok (.dup, 1) := by decide +kernel
theorem d_D_init_42 : decode c_D_init 42 = .ok (.invokespecial 28, 3) := by decide +kernel
theorem d_D_init_45 : decode c_D_init 45 = .ok (.putfield 29, 3) := by decide +kernel
theorem d_D_init_48 : decode c_D_init 48 = .ok (.return_, 1) := by decide +kernel
theorem d_D_keep_0 : decode c_D_keep 0 = .ok (.aload_n 0, 1) := by decide +kernel
theorem d_D_keep_1 : decode c_D_keep 1 = .ok (.getfield 16, 3) := by decide +kernel
theorem d_D_keep_4 : decode c_D_keep 4 = .ok (.aload_n 0, 1) := by decide +kernel
theorem d_D_keep_5 : decode c_D_keep 5 = .ok (.getfield 12, 3) := by decide +kernel
theorem d_D_keep_8 : decode c_D_keep 8 = .ok (.invokevirtual 118, 3) := by decide +kernel
theorem d_D_keep_11 : decode c_D_keep 11 = .ok (.return_, 1) := by decide +kernel
theorem d_D_swap_0 : decode c_D_swap 0 = .ok (.aload_n 0, 1) := by decide +kernel
theorem d_D_swap_1 : decode c_D_swap 1 = .ok (.getfield 12, 3) := by decide +kernel
theorem d_D_swap_4 : decode c_D_swap 4 = .ok (.astore_n 1, 1) := by decide +kernel
theorem d_D_swap_5 : decode c_D_swap 5 = .ok (.aload_n 0, 1) := by decide +kernel
theorem d_D_swap_6 : decode c_D_swap 6 = .ok (.aload_n 0, 1) := by decide +kernel
theorem d_D_swap_7 : decode c_D_swap 7 = .ok (.getfield 16, 3) := by decide +kernel
theorem d_D_swap_10 : decode c_D_swap 10 = .ok (.putfield 12, 3) := by decide +kernel
theorem d_D_swap_13 : decode c_D_swap 13 = .ok (.aload_n 0, 1) := by decide +kernel
theorem d_D_swap_14 : decode c_D_swap 14 = .ok (.aload_n 1, 1) := by decide +kernel
theorem d_D_swap_15 : decode c_D_swap 15 = .ok (.putfield 16, 3) := by decide +kernel
theorem d_D_swap_18 : decode c_D_swap 18 = .ok (.aload_n 0, 1) := by decide +kernel
theorem d_D_swap_19 : decode c_D_swap 19 = .ok (.invokevirtual 114, 3) := by decide +kernel
theorem d_D_swap_22 : decode c_D_swap 22 = .ok (.ireturn, 1) := by decide +kernel
theorem d_D_digits_0 : decode c_D_digits 0 = .ok (.aload_n 0, 1) := by decide +kernel
theorem d_D_digits_1 : decode c_D_digits 1 = .ok (.getfield 12, 3) := by decide +kernel
theorem d_D_digits_4 : decode c_D_digits 4 = .ok (.aload_n 0, 1) := by decide +kernel
theorem d_D_digits_5 : decode c_D_digits 5 = .ok (.getfield 22, 3) := by decide +kernel
theorem d_D_digits_8 : decode c_D_digits 8 = .ok (.getfield 70, 3) := by decide +kernel
theorem d_D_digits_11 : decode c_D_digits 11 = .ok (.invokevirtual 209, 3) := by decide +kernel
theorem d_D_digits_14 : decode c_D_digits 14 = .ok (.aload_n 0, 1) := by decide +kernel
theorem d_D_digits_15 : decode c_D_digits 15 = .ok (.getfield 12, 3) := by decide +kernel
theorem d_D_digits_18 : decode c_D_digits 18 = .ok (.getfield 212, 3) := by decide +kernel
theorem d_D_digits_21 : decode c_D_digits 21 = .ok (.ireturn, 1) := by decide +kernel
theorem d_D_rooted_0 : decode c_D_rooted 0 = .ok (.aload_n 0, 1) := by decide +kernel
theorem d_D_rooted_1 : decode c_D_rooted 1 = .ok (.getfield 22, 3) := by decide +kernel
theorem d_D_rooted_4 : decode c_D_rooted 4 = .ok (.getfield 70, 3) := by decide +kernel
theorem d_D_rooted_7 : decode c_D_rooted 7 = .ok (.aload_n 0, 1) := by decide +kernel
theorem d_D_rooted_8 : decode c_D_rooted 8 = .ok (.getfield 12, 3) := by decide +kernel
theorem d_D_rooted_11 : decode c_D_rooted 11 = .ok (.getfield 98, 3) := by decide +kernel
theorem d_D_rooted_14 : decode c_D_rooted 14 = .ok (.invokevirtual 101, 3) := by decide +kernel
theorem d_D_rooted_17 : decode c_D_rooted 17 = .ok (.aload_n 0, 1) := by decide +kernel
theorem d_D_rooted_18 : decode c_D_rooted 18 = .ok (.getfield 22, 3) := by decide +kernel
theorem d_D_rooted_21 : decode c_D_rooted 21 = .ok (.invokevirtual 158, 3) := by decide +kernel
theorem d_D_rooted_24 : decode c_D_rooted 24 = .ok (.aload_n 0, 1) := by decide +kernel
theorem d_D_rooted_25 : decode c_D_rooted 25 = .ok (.aload_n 0, 1) := by decide +kernel
theorem d_D_rooted_26 : decode c_D_rooted 26 = .ok (.getfield 22, 3) := by decide +kernel
theorem d_D_rooted_29 : decode c_D_rooted 29 = .ok (.getfield 54, 3) := by decide +kernel
theorem d_D_rooted_32 : decode c_D_rooted 32 = .ok (.aload_n 0, 1) := by decide +kernel
theorem d_D_rooted_33 : decode c_D_rooted 33 = .ok (.getfield 12, 3) := by decide +kernel
theorem d_D_rooted_36 : decode c_D_rooted 36 = .ok (.getfield 92, 3) := by decide +kernel
theorem d_D_rooted_39 : decode c_D_rooted 39 = .ok (.invokevirtual 58, 3) := by decide +kernel
theorem d_D_rooted_42 : decode c_D_rooted 42 = .ok (.ireturn, 1) := by decide +kernel
theorem d_D_retell_0 : decode c_D_retell 0 = .ok (.aload_n 0, 1) := by decide +kernel
theorem d_D_retell_1 : decode c_D_retell 1 = .ok (.getfield 12, 3) := by decide +kernel
theorem d_D_retell_4 : decode c_D_retell 4 = .ok (.aload_n 1, 1) := by decide +kernel
theorem d_D_retell_5 : decode c_D_retell 5 = .ok (.iload_n 2, 1) := by decide +kernel
theorem d_D_retell_6 : decode c_D_retell 6 = .ok (.invokevirtual 154, 3) := by decide +kernel
theorem d_D_retell_9 : decode c_D_retell 9 = .ok (.aload_n 0, 1) := by decide +kernel
theorem d_D_retell_10 : decode c_D_retell 10 = .ok (.invokevirtual 114, 3) := by decide +kernel
theorem d_D_retell_13 : decode c_D_retell 13 = .ok (.ireturn, 1) := by decide +kernel
theorem d_D_compare_0 : decode c_D_compare 0 = .ok (.aload_n 0, 1) := by decide +kernel
theorem d_D_compare_1 : decode c_D_compare 1 = .ok (.getfield 12, 3) := by decide +kernel
theorem d_D_compare_4 : decode c_D_compare 4 = .ok (.getfield 98, 3) := by decide +kernel
theorem d_D_compare_7 : decode c_D_compare 7 = .ok (.aload_n 0, 1) := by decide +kernel
theorem d_D_compare_8 : decode c_D_compare 8 = .ok (.getfield 16, 3) := by decide +kernel
theorem d_D_compare_11 : decode c_D_compare 11 = .ok (.getfield 98, 3) := by decide +kernel
theorem d_D_compare_14 : decode c_D_compare 14 = .ok (.invokevirtual 125, 3) := by decide +kernel
theorem d_D_compare_17 : decode c_D_compare 17 = .ok (.ireturn, 1) := by decide +kernel
theorem d_D_mill_0 : decode c_D_mill 0 = .ok (.iload_n 1, 1) := by decide +kernel
theorem d_D_mill_1 : decode c_D_mill 1 = .ok (.ifCond .lt 8, 3) := by decide +kernel
theorem d_D_mill_4 : decode c_D_mill 4 = .ok (.iload_n 1, 1) := by decide +kernel
theorem d_D_mill_5 : decode c_D_mill 5 = .ok (.iconst 5, 1) := by decide +kernel
theorem d_D_mill_6 : decode c_D_mill 6 = .ok (.if_icmp .lt 13, 3) := by decide +kernel
theorem d_D_mill_9 : decode c_D_mill 9 = .ok (.new 33, 3) := by decide +kernel
theorem d_D_mill_12 : decode c_D_mill 12 = .ok (.dup, 1) := by decide +kernel
theorem d_D_mill_13 : decode c_D_mill 13 = .ok (.ldc 35, 2) := by decide +kernel
theorem d_D_mill_15 : decode c_D_mill 15 = .ok (.invokespecial 37, 3) := by decide +kernel
theorem d_D_mill_18 : decode c_D_mill 18 = .ok (.athrow, 1) := by decide +kernel
theorem d_D_mill_19 : decode c_D_mill 19 = .ok (.iload_n 2, 1) := by decide +kernel
theorem d_D_mill_20 : decode c_D_mill 20 = .ok (.iload_n 3, 1) := by decide +kernel
theorem d_D_mill_21 : decode c_D_mill 21 = .ok (.invokestatic 40, 3) := by decide +kernel
theorem d_D_mill_24 : decode c_D_mill 24 = .ok (.iload_n 2, 1) := by decide +kernel
theorem d_D_mill_25 : decode c_D_mill 25 = .ok (.iload_n 3, 1) := by decide +kernel
theorem d_D_mill_26 : decode c_D_mill 26 = .ok (.invokestatic 44, 3) := by decide +kernel
theorem d_D_mill_29 : decode c_D_mill 29 = .ok (.iload_n 1, 1) := by decide +kernel
theorem d_D_mill_30 : decode c_D_mill 30 = .ok (.iconst 2, 1) := by decide +kernel
theorem d_D_mill_31 : decode c_D_mill 31 = .ok (.if_icmp .ne 15, 3) := by decide +kernel
theorem d_D_mill_34 : decode c_D_mill 34 = .ok (.aload_n 0, 1) := by decide +kernel
theorem d_D_mill_35 : decode c_D_mill 35 = .ok (.getfield 22, 3) := by decide +kernel
theorem d_D_mill_38 : decode c_D_mill 38 = .ok (.iload_n 2, 1) := by decide +kernel
theorem d_D_mill_39 : decode c_D_mill 39 = .ok (.iload_n 3, 1) := by decide +kernel
theorem d_D_mill_40 : decode c_D_mill 40 = .ok (.invokevirtual 47, 3) := by decide +kernel
theorem d_D_mill_43 : decode c_D_mill 43 = .ok (.goto 10, 3) := by decide +kernel
theorem d_D_mill_46 : decode c_D_mill 46 = .ok (.aload_n 0, 1) := by decide +kernel
theorem d_D_mill_47 : decode c_D_mill 47 = .ok (.iload_n 1, 1) := by decide +kernel
theorem d_D_mill_48 : decode c_D_mill 48 = .ok (.iload_n 2, 1) := by decide +kernel
theorem d_D_mill_49 : decode c_D_mill 49 = .ok (.iload_n 3, 1) := by decide +kernel
theorem d_D_mill_50 : decode c_D_mill 50 = .ok (.invokevirtual 50, 3) := by decide +kernel
theorem d_D_mill_53 : decode c_D_mill 53 = .ok (.aload_n 0, 1) := by decide +kernel
theorem d_D_mill_54 : decode c_D_mill 54 = .ok (.aload_n 0, 1) := by decide +kernel
theorem d_D_mill_55 : decode c_D_mill 55 = .ok (.getfield 22, 3) := by decide +kernel
theorem d_D_mill_58 : decode c_D_mill 58 = .ok (.getfield 54, 3) := by decide +kernel
theorem d_D_mill_61 : decode c_D_mill 61 = .ok (.iload_n 3, 1) := by decide +kernel
theorem d_D_mill_62 : decode c_D_mill 62 = .ok (.invokevirtual 58, 3) := by decide +kernel
theorem d_D_mill_65 : decode c_D_mill 65 = .ok (.ireturn, 1) := by decide +kernel
theorem d_D_refuseWrongPlaces_0 : decode c_D_refuseWrongPlaces 0 = .ok (.iload_n 0, 1) := by decide +kernel
theorem d_D_refuseWrongPlaces_1 : decode c_D_refuseWrongPlaces 1 = .ok (.ifCond .lt 10, 3) := by decide +kernel
theorem d_D_refuseWrongPlaces_4 : decode c_D_refuseWrongPlaces 4 = .ok (.iload_n 0, 1) := by decide +kernel
theorem d_D_refuseWrongPlaces_5 : decode c_D_refuseWrongPlaces 5 = .ok (.sipush 6000, 3) := by decide +kernel
theorem d_D_refuseWrongPlaces_8 : decode c_D_refuseWrongPlaces 8 = .ok (.if_icmp .le 13, 3) := by decide +kernel
theorem d_D_refuseWrongPlaces_11 : decode c_D_refuseWrongPlaces 11 = .ok (.new 33, 3) := by decide +kernel
theorem d_D_refuseWrongPlaces_14 : decode c_D_refuseWrongPlaces 14 = .ok (.dup, 1) := by decide +kernel
theorem d_D_refuseWrongPlaces_15 : decode c_D_refuseWrongPlaces 15 = .ok (.ldc 190, 2) := by decide +kernel
theorem d_D_refuseWrongPlaces_17 : decode c_D_refuseWrongPlaces 17 = .ok (.invokespecial 37, 3) := by decide +kernel
theorem d_D_refuseWrongPlaces_20 : decode c_D_refuseWrongPlaces 20 = .ok (.athrow, 1) := by decide +kernel
theorem d_D_refuseWrongPlaces_21 : decode c_D_refuseWrongPlaces 21 = .ok (.iload_n 1, 1) := by decide +kernel
theorem d_D_refuseWrongPlaces_22 : decode c_D_refuseWrongPlaces 22 = .ok (.invokestatic 88, 3) := by decide +kernel
theorem d_D_refuseWrongPlaces_25 : decode c_D_refuseWrongPlaces 25 = .ok (.return_, 1) := by decide +kernel
theorem d_D_refuseWrongBase_0 : decode c_D_refuseWrongBase 0 = .ok (.iload_n 0, 1) := by decide +kernel
theorem d_D_refuseWrongBase_1 : decode c_D_refuseWrongBase 1 = .ok (.iconst 2, 1) := by decide +kernel
theorem d_D_refuseWrongBase_2 : decode c_D_refuseWrongBase 2 = .ok (.if_icmp .lt 9, 3) := by decide +kernel
theorem d_D_refuseWrongBase_5 : decode c_D_refuseWrongBase 5 = .ok (.iload_n 0, 1) := by decide +kernel
theorem d_D_refuseWrongBase_6 : decode c_D_refuseWrongBase 6 = .ok (.bipush 36, 2) := by decide +kernel
theorem d_D_refuseWrongBase_8 : decode c_D_refuseWrongBase 8 = .ok (.if_icmp .le 13, 3) := by decide +kernel
theorem d_D_refuseWrongBase_11 : decode c_D_refuseWrongBase 11 = .ok (.new 33, 3) := by decide +kernel
theorem d_D_refuseWrongBase_14 : decode c_D_refuseWrongBase 14 = .ok (.dup, 1) := by decide +kernel
theorem d_D_refuseWrongBase_15 : decode c_D_refuseWrongBase 15 = .ok (.ldc 188, 2) := by decide +kernel
theorem d_D_refuseWrongBase_17 : decode c_D_refuseWrongBase 17 = .ok (.invokespecial 37, 3) := by decide +kernel
theorem d_D_refuseWrongBase_20 : decode c_D_refuseWrongBase 20 = .ok (.athrow, 1) := by decide +kernel
theorem d_D_refuseWrongBase_21 : decode c_D_refuseWrongBase 21 = .ok (.return_, 1) := by decide +kernel
theorem d_D_refuseTooManyPlaces_0 : decode c_D_refuseTooManyPlaces 0 = .ok (.iload_n 0, 1) := by decide +kernel
theorem d_D_refuseTooManyPlaces_1 : decode c_D_refuseTooManyPlaces 1 = .ok (.iload_n 1, 1) := by decide +kernel
theorem d_D_refuseTooManyPlaces_2 : decode c_D_refuseTooManyPlaces 2 = .ok (.invokestatic 192, 3) := by decide +kernel
theorem d_D_refuseTooManyPlaces_5 : decode c_D_refuseTooManyPlaces 5 = .ok (.imul, 1) := by decide +kernel
theorem d_D_refuseTooManyPlaces_6 : decode c_D_refuseTooManyPlaces 6 = .ok (.sipush 20000, 3) := by decide +kernel
theorem d_D_refuseTooManyPlaces_9 : decode c_D_refuseTooManyPlaces 9 = .ok (.if_icmp .le 13, 3) := by decide +kernel
theorem d_D_refuseTooManyPlaces_12 : decode c_D_refuseTooManyPlaces 12 = .ok (.new 140, 3) := by decide +kernel
theorem d_D_refuseTooManyPlaces_15 : decode c_D_refuseTooManyPlaces 15 = .ok (.dup, 1) := by decide +kernel
theorem d_D_refuseTooManyPlaces_16 : decode c_D_refuseTooManyPlaces 16 = .ok (.ldc 195, 2) := by decide +kernel
theorem d_D_refuseTooManyPlaces_18 : decode c_D_refuseTooManyPlaces 18 = .ok (.invokespecial 144, 3) := by decide +kernel
theorem d_D_refuseTooManyPlaces_21 : decode c_D_refuseTooManyPlaces 21 = .ok (.athrow, 1) := by decide +kernel
theorem d_D_refuseTooManyPlaces_22 : decode c_D_refuseTooManyPlaces 22 = .ok (.return_, 1) := by decide +kernel
theorem d_D_makeConstant_0 : decode c_D_makeConstant 0 = .ok (.iload_n 2, 1) := by decide +kernel
theorem d_D_makeConstant_1 : decode c_D_makeConstant 1 = .ok (.iload_n 3, 1) := by decide +kernel
theorem d_D_makeConstant_2 : decode c_D_makeConstant 2 = .ok (.invokestatic 192, 3) := by decide +kernel
theorem d_D_makeConstant_5 : decode c_D_makeConstant 5 = .ok (.imul, 1) := by decide +kernel
theorem d_D_makeConstant_6 : decode c_D_makeConstant 6 = .ok (.bipush 31, 2) := by decide +kernel
theorem d_D_makeConstant_8 : decode c_D_makeConstant 8 = .ok (.iadd, 1) := by decide +kernel
theorem d_D_makeConstant_9 : decode c_D_makeConstant 9 = .ok (.istore 4, 2) := by decide +kernel
theorem d_D_makeConstant_11 : decode c_D_makeConstant 11 = .ok (.iload 4, 2) := by decide +kernel
theorem d_D_makeConstant_13 : decode c_D_makeConstant 13 = .ok (.bipush 30, 2) := by decide +kernel
theorem d_D_makeConstant_15 : decode c_D_makeConstant 15 = .ok (.iadd, 1) := by decide +kernel
theorem d_D_makeConstant_16 : decode c_D_makeConstant 16 = .ok (.iconst 1, 1) := by decide +kernel
theorem d_D_makeConstant_17 : decode c_D_makeConstant 17 = .ok (.isub, 1) := by decide +kernel
theorem d_D_makeConstant_18 : decode c_D_makeConstant 18 = .ok (.bipush 30, 2) := by decide +kernel
theorem d_D_makeConstant_20 : decode c_D_makeConstant 20 = .ok (.idiv, 1) := by decide +kernel
theorem d_D_makeConstant_21 : decode c_D_makeConstant 21 = .ok (.istore 5, 2) := by decide +kernel
theorem d_D_makeConstant_23 : decode c_D_makeConstant 23 = .ok (.iconst 0, 1) := by decide +kernel
theorem d_D_makeConstant_24 : decode c_D_makeConstant 24 = .ok (.istore 6, 2) := by decide +kernel
theorem d_D_makeConstant_26 : decode c_D_makeConstant 26 = .ok (.iload 5, 2) := by decide +kernel
theorem d_D_makeConstant_28 : decode c_D_makeConstant 28 = .ok (.iconst 2, 1) := by decide +kernel
theorem d_D_makeConstant_29 : decode c_D_makeConstant 29 = .ok (.iadd, 1) := by decide +kernel
theorem d_D_makeConstant_30 : decode c_D_makeConstant 30 = .ok (.istore 7, 2) := by decide +kernel
theorem d_D_makeConstant_32 : decode c_D_makeConstant 32 = .ok (.iload 6, 2) := by decide +kernel
theorem d_D_makeConstant_34 : decode c_D_makeConstant 34 = .ok (.ifCond .ne 91, 3) := by decide +kernel
theorem d_D_makeConstant_37 : decode c_D_makeConstant 37 = .ok (.iload 7, 2) := by decide +kernel
theorem d_D_makeConstant_39 : decode c_D_makeConstant 39 = .ok (.sipush 704, 3) := by decide +kernel
theorem d_D_makeConstant_42 : decode c_D_makeConstant 42 = .ok (.if_icmp .gt 83, 3) := by decide +kernel
theorem d_D_makeConstant_45 : decode c_D_makeConstant 45 = .ok (.aload_n 0, 1) := by decide +kernel
theorem d_D_makeConstant_46 : decode c_D_makeConstant 46 = .ok (.getfield 29, 3) := by decide +kernel
theorem d_D_makeConstant_49 : decode c_D_makeConstant 49 = .ok (.iload_n 1, 1) := by decide +kernel
theorem d_D_makeConstant_50 : decode c_D_makeConstant 50 = .ok (.iload 7, 2) := by decide +kernel
theorem d_D_makeConstant_52 : decode c_D_makeConstant 52 = .ok (.invokevirtual 217, 3) := by decide +kernel
theorem d_D_makeConstant_55 : decode c_D_makeConstant 55 = .ok (.istore 8, 2) := by decide +kernel
theorem d_D_makeConstant_57 : decode c_D_makeConstant 57 = .ok (.aload_n 0, 1) := by decide +kernel
theorem d_D_makeConstant_58 : decode c_D_makeConstant 58 = .ok (.getfield 22, 3) := by decide +kernel
theorem d_D_makeConstant_61 : decode c_D_makeConstant 61 = .ok (.getfield 54, 3) := by decide +kernel
theorem d_D_makeConstant_64 : decode c_D_makeConstant 64 = .ok (.aload_n 0, 1) := by decide +kernel
theorem d_D_makeConstant_65 : decode c_D_makeConstant 65 = .ok (.getfield 29, 3) := by decide +kernel
theorem d_D_makeConstant_68 : decode c_D_makeConstant 68 = .ok (.iload_n 1, 1) := by decide +kernel
theorem d_D_makeConstant_69 : decode c_D_makeConstant 69 = .ok (.invokevirtual 221, 3) := by decide +kernel
theorem d_D_makeConstant_72 : decode c_D_makeConstant 72 = .ok (.iload 8, 2) := by decide +kernel
theorem d_D_makeConstant_74 : decode c_D_makeConstant 74 = .ok (.iconst 1, 1) := by decide +kernel
theorem d_D_makeConstant_75 : decode c_D_makeConstant 75 = .ok (.iadd, 1) := by decide +kernel
theorem d_D_makeConstant_76 : decode c_D_makeConstant 76 = .ok (.invokevirtual 225, 3) := by decide +kernel
theorem d_D_makeConstant_79 : decode c_D_makeConstant 79 = .ok (.aload_n 0, 1) := by decide +kernel
theorem d_D_makeConstant_80 : decode c_D_makeConstant 80 = .ok (.getfield 22, 3) := by decide +kernel
theorem d_D_makeConstant_83 : decode c_D_makeConstant 83 = .ok (.getfield 54, 3) := by decide +kernel
theorem d_D_makeConstant_86 : decode c_D_makeConstant 86 = .ok (.iload_n 3, 1) := by decide +kernel
theorem d_D_makeConstant_87 : decode c_D_makeConstant 87 = .ok (.iload_n 2, 1) := by decide +kernel
theorem d_D_makeConstant_88 : decode c_D_makeConstant 88 = .ok (.invokevirtual 79, 3) := by decide +kernel
theorem d_D_makeConstant_91 : decode c_D_makeConstant 91 = .ok (.aload_n 0, 1) := by decide +kernel
theorem d_D_makeConstant_92 : decode c_D_makeConstant 92 = .ok (.getfield 22, 3) := by decide +kernel
theorem d_D_makeConstant_95 : decode c_D_makeConstant 95 = .ok (.getfield 54, 3) := by decide +kernel
theorem d_D_makeConstant_98 : decode c_D_makeConstant 98 = .ok (.iload 5, 2) := by decide +kernel
theorem d_D_makeConstant_100 : decode c_D_makeConstant 100 = .ok (.iload 8, 2) := by decide +kernel
theorem d_D_makeConstant_102 : decode c_D_makeConstant 102 = .ok (.invokevirtual 229, 3) := by decide +kernel
theorem d_D_makeConstant_105 : decode c_D_makeConstant 105 = .ok (.istore 6, 2) := by decide +kernel
theorem d_D_makeConstant_107 : decode c_D_makeConstant 107 = .ok (.aload_n 0, 1) := by decide +kernel
theorem d_D_makeConstant_108 : decode c_D_makeConstant 108 = .ok (.getfield 22, 3) := by decide +kernel
theorem d_D_makeConstant_111 : decode c_D_makeConstant 111 = .ok (.getfield 54, 3) := by decide +kernel
theorem d_D_makeConstant_114 : decode c_D_makeConstant 114 = .ok (.iload 8, 2) := by decide +kernel
theorem d_D_makeConstant_116 : decode c_D_makeConstant 116 = .ok (.invokevirtual 233, 3) := by decide +kernel
theorem d_D_makeConstant_119 : decode c_D_makeConstant 119 = .ok (.iinc 7 8, 3) := by decide +kernel
theorem d_D_makeConstant_122 : decode c_D_makeConstant 122 = .ok (.goto (-90), 3) := by decide +kernel
theorem d_D_makeConstant_125 : decode c_D_makeConstant 125 = .ok (.return_, 1) := by decide +kernel
theorem d_D_root_0 : decode c_D_root 0 = .ok (.lload_n 1, 1) := by decide +kernel
theorem d_D_root_1 : decode c_D_root 1 = .ok (.lconst 0, 1) := by decide +kernel
theorem d_D_root_2 : decode c_D_root 2 = .ok (.lcmp, 1) := by decide +kernel
theorem d_D_root_3 : decode c_D_root 3 = .ok (.ifCond .ge 13, 3) := by decide +kernel
theorem d_D_root_6 : decode c_D_root 6 = .ok (.new 33, 3) := by decide +kernel
theorem d_D_root_9 : decode c_D_root 9 = .ok (.dup, 1) := by decide +kernel
theorem d_D_root_10 : decode c_D_root 10 = .ok (.ldc 62, 2) := by decide +kernel
theorem d_D_root_12 : decode c_D_root 12 = .ok (.invokespecial 37, 3) := by decide +kernel
theorem d_D_root_15 : decode c_D_root 15 = .ok (.athrow, 1) := by decide +kernel
theorem d_D_root_16 : decode c_D_root 16 = .ok (.iload_n 3, 1) := by decide +kernel
theorem d_D_root_17 : decode c_D_root 17 = .ok (.iload 4, 2) := by decide +kernel
theorem d_D_root_19 : decode c_D_root 19 = .ok (.invokestatic 40, 3) := by decide +kernel
theorem d_D_root_22 : decode c_D_root 22 = .ok (.iload_n 3, 1) := by decide +kernel
theorem d_D_root_23 : decode c_D_root 23 = .ok (.iload 4, 2) := by decide +kernel
theorem d_D_root_25 : decode c_D_root 25 = .ok (.invokestatic 44, 3) := by decide +kernel
theorem d_D_root_28 : decode c_D_root 28 = .ok (.aload_n 0, 1) := by decide +kernel
theorem d_D_root_29 : decode c_D_root 29 = .ok (.getfield 22, 3) := by decide +kernel
theorem d_D_root_32 : decode c_D_root 32 = .ok (.lload_n 1, 1) := by decide +kernel
theorem d_D_root_33 : decode c_D_root 33 = .ok (.iload_n 3, 1) := by decide +kernel
theorem d_D_root_34 : decode c_D_root 34 = .ok (.iload 4, 2) := by decide +kernel
theorem d_D_root_36 : decode c_D_root 36 = .ok (.invokevirtual 64, 3) := by decide +kernel
theorem d_D_root_39 : decode c_D_root 39 = .ok (.aload_n 0, 1) := by decide +kernel
theorem d_D_root_40 : decode c_D_root 40 = .ok (.aload_n 0, 1) := by decide +kernel
theorem d_D_root_41 : decode c_D_root 41 = .ok (.getfield 22, 3) := by decide +kernel
theorem d_D_root_44 : decode c_D_root 44 = .ok (.getfield 54, 3) := by decide +kernel
theorem d_D_root_47 : decode c_D_root 47 = .ok (.iload 4, 2) := by decide +kernel
theorem d_D_root_49 : decode c_D_root 49 = .ok (.invokevirtual 58, 3) := by decide +kernel
theorem d_D_root_52 : decode c_D_root 52 = .ok (.ireturn, 1) := by decide +kernel
theorem d_D_over_0 : decode c_D_over 0 = .ok (.lload_n 1, 1) := by decide +kernel
theorem d_D_over_1 : decode c_D_over 1 = .ok (.lconst 0, 1) := by decide +kernel
theorem d_D_over_2 : decode c_D_over 2 = .ok (.lcmp, 1) := by decide +kernel
theorem d_D_over_3 : decode c_D_over 3 = .ok (.ifCond .lt 9, 3) := by decide +kernel
theorem d_D_over_6 : decode c_D_over 6 = .ok (.lload_n 3, 1) := by decide +kernel
theorem d_D_over_7 : decode c_D_over 7 = .ok (.lconst 1, 1) := by decide +kernel
theorem d_D_over_8 : decode c_D_over 8 = .ok (.lcmp, 1) := by decide +kernel
theorem d_D_over_9 : decode c_D_over 9 = .ok (.ifCond .ge 13, 3) := by decide +kernel
theorem d_D_over_12 : decode c_D_over 12 = .ok (.new 33, 3) := by decide +kernel
theorem d_D_over_15 : decode c_D_over 15 = .ok (.dup, 1) := by decide +kernel
theorem d_D_over_16 : decode c_D_over 16 = .ok (.ldc 68, 2) := by decide +kernel
theorem d_D_over_18 : decode c_D_over 18 = .ok (.invokespecial 37, 3) := by decide +kernel
theorem d_D_over_21 : decode c_D_over 21 = .ok (.athrow, 1) := by decide +kernel
theorem d_D_over_22 : decode c_D_over 22 = .ok (.iload 5, 2) := by decide +kernel
theorem d_D_over_24 : decode c_D_over 24 = .ok (.iload 6, 2) := by decide +kernel
theorem d_D_over_26 : decode c_D_over 26 = .ok (.invokestatic 40, 3) := by decide +kernel
theorem d_D_over_29 : decode c_D_over 29 = .ok (.iload 5, 2) := by decide +kernel
theorem d_D_over_31 : decode c_D_over 31 = .ok (.iload 6, 2) := by decide +kernel
theorem d_D_over_33 : decode c_D_over 33 = .ok (.invokestatic 44, 3) := by decide +kernel
theorem d_D_over_36 : decode c_D_over 36 = .ok (.aload_n 0, 1) := by decide +kernel
theorem d_D_over_37 : decode c_D_over 37 = .ok (.getfield 22, 3) := by decide +kernel
theorem d_D_over_40 : decode c_D_over 40 = .ok (.getfield 70, 3) := by decide +kernel
theorem d_D_over_43 : decode c_D_over 43 = .ok (.lload_n 1, 1) := by decide +kernel
theorem d_D_over_44 : decode c_D_over 44 = .ok (.invokevirtual 73, 3) := by decide +kernel
theorem d_D_over_47 : decode c_D_over 47 = .ok (.aload_n 0, 1) := by decide +kernel
theorem d_D_over_48 : decode c_D_over 48 = .ok (.getfield 22, 3) := by decide +kernel
theorem d_D_over_51 : decode c_D_over 51 = .ok (.getfield 70, 3) := by decide +kernel
theorem d_D_over_54 : decode c_D_over 54 = .ok (.iload 6, 2) := by decide +kernel
theorem d_D_over_56 : decode c_D_over 56 = .ok (.iload 5, 2) := by decide +kernel
theorem d_D_over_58 : decode c_D_over 58 = .ok (.invokevirtual 79, 3) := by decide +kernel
theorem d_D_over_61 : decode c_D_over 61 = .ok (.aload_n 0, 1) := by decide +kernel
theorem d_D_over_62 : decode c_D_over 62 = .ok (.getfield 22, 3) := by decide +kernel
theorem d_D_over_65 : decode c_D_over 65 = .ok (.getfield 82, 3) := by decide +kernel
theorem d_D_over_68 : decode c_D_over 68 = .ok (.lload_n 3, 1) := by decide +kernel
theorem d_D_over_69 : decode c_D_over 69 = .ok (.invokevirtual 73, 3) := by decide +kernel
theorem d_D_over_72 : decode c_D_over 72 = .ok (.aload_n 0, 1) := by decide +kernel
theorem d_D_over_73 : decode c_D_over 73 = .ok (.getfield 22, 3) := by decide +kernel
theorem d_D_over_76 : decode c_D_over 76 = .ok (.invokevirtual 85, 3) := by decide +kernel
theorem d_D_over_79 : decode c_D_over 79 = .ok (.aload_n 0, 1) := by decide +kernel
theorem d_D_over_80 : decode c_D_over 80 = .ok (.aload_n 0, 1) := by decide +kernel
theorem d_D_over_81 : decode c_D_over 81 = .ok (.getfield 22, 3) := by decide +kernel
theorem d_D_over_84 : decode c_D_over 84 = .ok (.getfield 54, 3) := by decide +kernel
theorem d_D_over_87 : decode c_D_over 87 = .ok (.iload 6, 2) := by decide +kernel
theorem d_D_over_89 : decode c_D_over 89 = .ok (.invokevirtual 58, 3) := by decide +kernel
theorem d_D_over_92 : decode c_D_over 92 = .ok (.ireturn, 1) := by decide +kernel
theorem d_D_number_0 : decode c_D_number 0 = .ok (.lload_n 1, 1) := by decide +kernel
theorem d_D_number_1 : decode c_D_number 1 = .ok (.lconst 0, 1) := by decide +kernel
theorem d_D_number_2 : decode c_D_number 2 = .ok (.lcmp, 1) := by decide +kernel
theorem d_D_number_3 : decode c_D_number 3 = .ok (.ifCond .ge 13, 3) := by decide +kernel
theorem d_D_number_6 : decode c_D_number 6 = .ok (.new 33, 3) := by decide +kernel
theorem d_D_number_9 : decode c_D_number 9 = .ok (.dup, 1) := by decide +kernel
theorem d_D_number_10 : decode c_D_number 10 = .ok (.ldc 62, 2) := by decide +kernel
theorem d_D_number_12 : decode c_D_number 12 = .ok (.invokespecial 37, 3) := by decide +kernel
theorem d_D_number_15 : decode c_D_number 15 = .ok (.athrow, 1) := by decide +kernel
theorem d_D_number_16 : decode c_D_number 16 = .ok (.iload_n 3, 1) := by decide +kernel
theorem d_D_number_17 : decode c_D_number 17 = .ok (.invokestatic 88, 3) := by decide +kernel
theorem d_D_number_20 : decode c_D_number 20 = .ok (.aload_n 0, 1) := by decide +kernel
theorem d_D_number_21 : decode c_D_number 21 = .ok (.getfield 22, 3) := by decide +kernel
theorem d_D_number_24 : decode c_D_number 24 = .ok (.getfield 54, 3) := by decide +kernel
theorem d_D_number_27 : decode c_D_number 27 = .ok (.lload_n 1, 1) := by decide +kernel
theorem d_D_number_28 : decode c_D_number 28 = .ok (.invokevirtual 73, 3) := by decide +kernel
theorem d_D_number_31 : decode c_D_number 31 = .ok (.aload_n 0, 1) := by decide +kernel
theorem d_D_number_32 : decode c_D_number 32 = .ok (.aload_n 0, 1) := by decide +kernel
theorem d_D_number_33 : decode c_D_number 33 = .ok (.getfield 22, 3) := by decide +kernel
theorem d_D_number_36 : decode c_D_number 36 = .ok (.getfield 54, 3) := by decide +kernel
theorem d_D_number_39 : decode c_D_number 39 = .ok (.iload_n 3, 1) := by decide +kernel
theorem d_D_number_40 : decode c_D_number 40 = .ok (.invokevirtual 58, 3) := by decide +kernel
theorem d_D_number_43 : decode c_D_number 43 = .ok (.ireturn, 1) := by decide +kernel
theorem d_D_push_0 : decode c_D_push 0 = .ok (.iload_n 1, 1) := by decide +kernel
theorem d_D_push_1 : decode c_D_push 1 = .ok (.ifCond .lt 14, 3) := by decide +kernel
theorem d_D_push_4 : decode c_D_push 4 = .ok (.iload_n 1, 1) := by decide +kernel
theorem d_D_push_5 : decode c_D_push 5 = .ok (.aload_n 0, 1) := by decide +kernel
theorem d_D_push_6 : decode c_D_push 6 = .ok (.getfield 12, 3) := by decide +kernel
theorem d_D_push_9 : decode c_D_push 9 = .ok (.getfield 92, 3) := by decide +kernel
theorem d_D_push_12 : decode c_D_push 12 = .ok (.if_icmp .lt 13, 3) := by decide +kernel
theorem d_D_push_15 : decode c_D_push 15 = .ok (.new 33, 3) := by decide +kernel
theorem d_D_push_18 : decode c_D_push 18 = .ok (.dup, 1) := by decide +kernel
theorem d_D_push_19 : decode c_D_push 19 = .ok (.ldc 96, 2) := by decide +kernel
theorem d_D_push_21 : decode c_D_push 21 = .ok (.invokespecial 37, 3) := by decide +kernel
theorem d_D_push_24 : decode c_D_push 24 = .ok (.athrow, 1) := by decide +kernel
theorem d_D_push_25 : decode c_D_push 25 = .ok (.aload_n 0, 1) := by decide +kernel
theorem d_D_push_26 : decode c_D_push 26 = .ok (.getfield 22, 3) := by decide +kernel
theorem d_D_push_29 : decode c_D_push 29 = .ok (.getfield 54, 3) := by decide +kernel
theorem d_D_push_32 : decode c_D_push 32 = .ok (.astore_n 2, 1) := by decide +kernel
theorem d_D_push_33 : decode c_D_push 33 = .ok (.aload_n 2, 1) := by decide +kernel
theorem d_D_push_34 : decode c_D_push 34 = .ok (.aload_n 0, 1) := by decide +kernel
theorem d_D_push_35 : decode c_D_push 35 = .ok (.getfield 12, 3) := by decide +kernel
theorem d_D_push_38 : decode c_D_push 38 = .ok (.getfield 98, 3) := by decide +kernel
theorem d_D_push_41 : decode c_D_push 41 = .ok (.invokevirtual 101, 3) := by decide +kernel
theorem d_D_push_44 : decode c_D_push 44 = .ok (.aload_n 2, 1) := by decide +kernel
theorem d_D_push_45 : decode c_D_push 45 = .ok (.aload_n 0, 1) := by decide +kernel
theorem d_D_push_46 : decode c_D_push 46 = .ok (.getfield 12, 3) := by decide +kernel
theorem d_D_push_49 : decode c_D_push 49 = .ok (.getfield 92, 3) := by decide +kernel
theorem d_D_push_52 : decode c_D_push 52 = .ok (.iload_n 1, 1) := by decide +kernel
theorem d_D_push_53 : decode c_D_push 53 = .ok (.invokevirtual 105, 3) := by decide +kernel
theorem d_D_push_56 : decode c_D_push 56 = .ok (.aload_n 2, 1) := by decide +kernel
theorem d_D_push_57 : decode c_D_push 57 = .ok (.invokestatic 108, 3) := by decide +kernel
theorem d_D_push_60 : decode c_D_push 60 = .ok (.aload_n 0, 1) := by decide +kernel
theorem d_D_push_61 : decode c_D_push 61 = .ok (.getfield 12, 3) := by decide +kernel
theorem d_D_push_64 : decode c_D_push 64 = .ok (.getfield 98, 3) := by decide +kernel
theorem d_D_push_67 : decode c_D_push 67 = .ok (.aload_n 2, 1) := by decide +kernel
theorem d_D_push_68 : decode c_D_push 68 = .ok (.invokevirtual 101, 3) := by decide +kernel
theorem d_D_push_71 : decode c_D_push 71 = .ok (.aload_n 0, 1) := by decide +kernel
theorem d_D_push_72 : decode c_D_push 72 = .ok (.getfield 12, 3) := by decide +kernel
theorem d_D_push_75 : decode c_D_push 75 = .ok (.iload_n 1, 1) := by decide +kernel
theorem d_D_push_76 : decode c_D_push 76 = .ok (.invokevirtual 111, 3) := by decide +kernel
theorem d_D_push_79 : decode c_D_push 79 = .ok (.aload_n 0, 1) := by decide +kernel
theorem d_D_push_80 : decode c_D_push 80 = .ok (.invokevirtual 114, 3) := by decide +kernel
theorem d_D_push_83 : decode c_D_push 83 = .ok (.ireturn, 1) := by decide +kernel
theorem d_D_refuseTooLong_0 : decode c_D_refuseTooLong 0 = .ok (.aload_n 0, 1) := by decide +kernel
theorem d_D_refuseTooLong_1 : decode c_D_refuseTooLong 1 = .ok (.invokevirtual 137, 3) := by decide +kernel
theorem d_D_refuseTooLong_4 : decode c_D_refuseTooLong 4 = .ok (.sipush 24000, 3) := by decide +kernel
theorem d_D_refuseTooLong_7 : decode c_D_refuseTooLong 7 = .ok (.if_icmp .le 13, 3) := by decide +kernel
theorem d_D_refuseTooLong_10 : decode c_D_refuseTooLong 10 = .ok (.new 140, 3) := by decide +kernel
theorem d_D_refuseTooLong_13 : decode c_D_refuseTooLong 13 = .ok (.dup, 1) := by decide +kernel
theorem d_D_refuseTooLong_14 : decode c_D_refuseTooLong 14 = .ok (.ldc 197, 2) := by decide +kernel
theorem d_D_refuseTooLong_16 : decode c_D_refuseTooLong 16 = .ok (.invokespecial 144, 3) := by decide +kernel
theorem d_D_refuseTooLong_19 : decode c_D_refuseTooLong 19 = .ok (.athrow, 1) := by decide +kernel
theorem d_D_refuseTooLong_20 : decode c_D_refuseTooLong 20 = .ok (.return_, 1) := by decide +kernel
theorem d_D_add_0 : decode c_D_add 0 = .ok (.aload_n 0, 1) := by decide +kernel
theorem d_D_add_1 : decode c_D_add 1 = .ok (.getfield 22, 3) := by decide +kernel
theorem d_D_add_4 : decode c_D_add 4 = .ok (.getfield 54, 3) := by decide +kernel
theorem d_D_add_7 : decode c_D_add 7 = .ok (.astore_n 1, 1) := by decide +kernel
theorem d_D_add_8 : decode c_D_add 8 = .ok (.aload_n 1, 1) := by decide +kernel
theorem d_D_add_9 : decode c_D_add 9 = .ok (.aload_n 0, 1) := by decide +kernel
theorem d_D_add_10 : decode c_D_add 10 = .ok (.getfield 12, 3) := by decide +kernel
theorem d_D_add_13 : decode c_D_add 13 = .ok (.getfield 98, 3) := by decide +kernel
theorem d_D_add_16 : decode c_D_add 16 = .ok (.invokevirtual 101, 3) := by decide +kernel
theorem d_D_add_19 : decode c_D_add 19 = .ok (.aload_n 1, 1) := by decide +kernel
theorem d_D_add_20 : decode c_D_add 20 = .ok (.aload_n 0, 1) := by decide +kernel
theorem d_D_add_21 : decode c_D_add 21 = .ok (.getfield 16, 3) := by decide +kernel
theorem d_D_add_24 : decode c_D_add 24 = .ok (.getfield 98, 3) := by decide +kernel
theorem d_D_add_27 : decode c_D_add 27 = .ok (.invokevirtual 122, 3) := by decide +kernel
theorem d_D_add_30 : decode c_D_add 30 = .ok (.aload_n 1, 1) := by decide +kernel
theorem d_D_add_31 : decode c_D_add 31 = .ok (.invokestatic 108, 3) := by decide +kernel
theorem d_D_add_34 : decode c_D_add 34 = .ok (.aload_n 0, 1) := by decide +kernel
theorem d_D_add_35 : decode c_D_add 35 = .ok (.aload_n 1, 1) := by decide +kernel
theorem d_D_add_36 : decode c_D_add 36 = .ok (.aload_n 0, 1) := by decide +kernel
theorem d_D_add_37 : decode c_D_add 37 = .ok (.getfield 12, 3) := by decide +kernel
theorem d_D_add_40 : decode c_D_add 40 = .ok (.getfield 92, 3) := by decide +kernel
theorem d_D_add_43 : decode c_D_add 43 = .ok (.invokevirtual 58, 3) := by decide +kernel
theorem d_D_add_46 : decode c_D_add 46 = .ok (.ireturn, 1) := by decide +kernel
theorem d_D_subtract_0 : decode c_D_subtract 0 = .ok (.aload_n 0, 1) := by decide +kernel
theorem d_D_subtract_1 : decode c_D_subtract 1 = .ok (.getfield 12, 3) := by decide +kernel
theorem d_D_subtract_4 : decode c_D_subtract 4 = .ok (.getfield 98, 3) := by decide +kernel
theorem d_D_subtract_7 : decode c_D_subtract 7 = .ok (.aload_n 0, 1) := by decide +kernel
theorem d_D_subtract_8 : decode c_D_subtract 8 = .ok (.getfield 16, 3) := by decide +kernel
theorem d_D_subtract_11 : decode c_D_subtract 11 = .ok (.getfield 98, 3) := by decide +kernel
theorem d_D_subtract_14 : decode c_D_subtract 14 = .ok (.invokevirtual 125, 3) := by decide +kernel
theorem d_D_subtract_17 : decode c_D_subtract 17 = .ok (.ifCond .ge 13, 3) := by decide +kernel
theorem d_D_subtract_20 : decode c_D_subtract 20 = .ok (.new 129, 3) := by decide +kernel
theorem d_D_subtract_23 : decode c_D_subtract 23 = .ok (.dup, 1) := by decide +kernel
theorem d_D_subtract_24 : decode c_D_subtract 24 = .ok (.ldc 131, 2) := by decide +kernel
theorem d_D_subtract_26 : decode c_D_subtract 26 = .ok (.invokespecial 133, 3) := by decide +kernel
theorem d_D_subtract_29 : decode c_D_subtract 29 = .ok (.athrow, 1) := by decide +kernel
theorem d_D_subtract_30 : decode c_D_subtract 30 = .ok (.aload_n 0, 1) := by decide +kernel
theorem d_D_subtract_31 : decode c_D_subtract 31 = .ok (.getfield 22, 3) := by decide +kernel
theorem d_D_subtract_34 : decode c_D_subtract 34 = .ok (.getfield 54, 3) := by decide +kernel
theorem d_D_subtract_37 : decode c_D_subtract 37 = .ok (.astore_n 1, 1) := by decide +kernel
theorem d_D_subtract_38 : decode c_D_subtract 38 = .ok (.aload_n 1, 1) := by decide +kernel
theorem d_D_subtract_39 : decode c_D_subtract 39 = .ok (.aload_n 0, 1) := by decide +kernel
theorem d_D_subtract_40 : decode c_D_subtract 40 = .ok (.getfield 12, 3) := by decide +kernel
theorem d_D_subtract_43 : decode c_D_subtract 43 = .ok (.getfield 98, 3) := by decide +kernel
theorem d_D_subtract_46 : decode c_D_subtract 46 = .ok (.invokevirtual 101, 3) := by decide +kernel
theorem d_D_subtract_49 : decode c_D_subtract 49 = .ok (.aload_n 1, 1) := by decide +kernel
theorem d_D_subtract_50 : decode c_D_subtract 50 = .ok (.aload_n 0, 1) := by decide +kernel
theorem d_D_subtract_51 : decode c_D_subtract 51 = .ok (.getfield 16, 3) := by decide +kernel
theorem d_D_subtract_54 : decode c_D_subtract 54 = .ok (.getfield 98, 3) := by decide +kernel
theorem d_D_subtract_57 : decode c_D_subtract 57 = .ok (.invokevirtual 134, 3) := by decide +kernel
theorem d_D_subtract_60 : decode c_D_subtract 60 = .ok (.aload_n 0, 1) := by decide +kernel
theorem d_D_subtract_61 : decode c_D_subtract 61 = .ok (.aload_n 1, 1) := by decide +kernel
theorem d_D_subtract_62 : decode c_D_subtract 62 = .ok (.aload_n 0, 1) := by decide +kernel
theorem d_D_subtract_63 : decode c_D_subtract 63 = .ok (.getfield 12, 3) := by decide +kernel
theorem d_D_subtract_66 : decode c_D_subtract 66 = .ok (.getfield 92, 3) := by decide +kernel
theorem d_D_subtract_69 : decode c_D_subtract 69 = .ok (.invokevirtual 58, 3) := by decide +kernel
theorem d_D_subtract_72 : decode c_D_subtract 72 = .ok (.ireturn, 1) := by decide +kernel
theorem d_D_times_0 : decode c_D_times 0 = .ok (.aload_n 0, 1) := by decide +kernel
theorem d_D_times_1 : decode c_D_times 1 = .ok (.getfield 12, 3) := by decide +kernel
theorem d_D_times_4 : decode c_D_times 4 = .ok (.getfield 98, 3) := by decide +kernel
theorem d_D_times_7 : decode c_D_times 7 = .ok (.invokevirtual 137, 3) := by decide +kernel
theorem d_D_times_10 : decode c_D_times 10 = .ok (.aload_n 0, 1) := by decide +kernel
theorem d_D_times_11 : decode c_D_times 11 = .ok (.getfield 16, 3) := by decide +kernel
theorem d_D_times_14 : decode c_D_times 14 = .ok (.getfield 98, 3) := by decide +kernel
theorem d_D_times_17 : decode c_D_times 17 = .ok (.invokevirtual 137, 3) := by decide +kernel
theorem d_D_times_20 : decode c_D_times 20 = .ok (.iadd, 1) := by decide +kernel
theorem d_D_times_21 : decode c_D_times 21 = .ok (.sipush 24001, 3) := by decide +kernel
theorem d_D_times_24 : decode c_D_times 24 = .ok (.if_icmp .le 13, 3) := by decide +kernel
theorem d_D_times_27 : decode c_D_times 27 = .ok (.new 140, 3) := by decide +kernel
theorem d_D_times_30 : decode c_D_times 30 = .ok (.dup, 1) := by decide +kernel
theorem d_D_times_31 : decode c_D_times 31 = .ok (.ldc 142, 2) := by decide +kernel
theorem d_D_times_33 : decode c_D_times 33 = .ok (.invokespecial 144, 3) := by decide +kernel
theorem d_D_times_36 : decode c_D_times 36 = .ok (.athrow, 1) := by decide +kernel
theorem d_D_times_37 : decode c_D_times 37 = .ok (.aload_n 0, 1) := by decide +kernel
theorem d_D_times_38 : decode c_D_times 38 = .ok (.getfield 22, 3) := by decide +kernel
theorem d_D_times_41 : decode c_D_times 41 = .ok (.getfield 54, 3) := by decide +kernel
theorem d_D_times_44 : decode c_D_times 44 = .ok (.astore_n 1, 1) := by decide +kernel
theorem d_D_times_45 : decode c_D_times 45 = .ok (.aload_n 1, 1) := by decide +kernel
theorem d_D_times_46 : decode c_D_times 46 = .ok (.aload_n 0, 1) := by decide +kernel
theorem d_D_times_47 : decode c_D_times 47 = .ok (.getfield 12, 3) := by decide +kernel
theorem d_D_times_50 : decode c_D_times 50 = .ok (.getfield 98, 3) := by decide +kernel
theorem d_D_times_53 : decode c_D_times 53 = .ok (.aload_n 0, 1) := by decide +kernel
theorem d_D_times_54 : decode c_D_times 54 = .ok (.getfield 16, 3) := by decide +kernel
theorem d_D_times_57 : decode c_D_times 57 = .ok (.getfield 98, 3) := by decide +kernel
theorem d_D_times_60 : decode c_D_times 60 = .ok (.invokevirtual 145, 3) := by decide +kernel
theorem d_D_times_63 : decode c_D_times 63 = .ok (.aload_n 1, 1) := by decide +kernel
theorem d_D_times_64 : decode c_D_times 64 = .ok (.invokestatic 108, 3) := by decide +kernel
theorem d_D_times_67 : decode c_D_times 67 = .ok (.aload_n 0, 1) := by decide +kernel
theorem d_D_times_68 : decode c_D_times 68 = .ok (.aload_n 1, 1) := by decide +kernel
theorem d_D_times_69 : decode c_D_times 69 = .ok (.aload_n 0, 1) := by decide +kernel
theorem d_D_times_70 : decode c_D_times 70 = .ok (.getfield 12, 3) := by decide +kernel
theorem d_D_times_73 : decode c_D_times 73 = .ok (.getfield 92, 3) := by decide +kernel
theorem d_D_times_76 : decode c_D_times 76 = .ok (.invokevirtual 58, 3) := by decide +kernel
theorem d_D_times_79 : decode c_D_times 79 = .ok (.ireturn, 1) := by decide +kernel
theorem d_D_divide_0 : decode c_D_divide 0 = .ok (.aload_n 0, 1) := by decide +kernel
theorem d_D_divide_1 : decode c_D_divide 1 = .ok (.getfield 16, 3) := by decide +kernel
theorem d_D_divide_4 : decode c_D_divide 4 = .ok (.getfield 98, 3) := by decide +kernel
theorem d_D_divide_7 : decode c_D_divide 7 = .ok (.getfield 149, 3) := by decide +kernel
theorem d_D_divide_10 : decode c_D_divide 10 = .ok (.ifCond .ne 13, 3) := by decide +kernel
theorem d_D_divide_13 : decode c_D_divide 13 = .ok (.new 129, 3) := by decide +kernel
theorem d_D_divide_16 : decode c_D_divide 16 = .ok (.dup, 1) := by decide +kernel
theorem d_D_divide_17 : decode c_D_divide 17 = .ok (.ldc 152, 2) := by decide +kernel
theorem d_D_divide_19 : decode c_D_divide 19 = .ok (.invokespecial 133, 3) := by decide +kernel
theorem d_D_divide_22 : decode c_D_divide 22 = .ok (.athrow, 1) := by decide +kernel
theorem d_D_divide_23 : decode c_D_divide 23 = .ok (.aload_n 0, 1) := by decide +kernel
theorem d_D_divide_24 : decode c_D_divide 24 = .ok (.getfield 22, 3) := by decide +kernel
theorem d_D_divide_27 : decode c_D_divide 27 = .ok (.getfield 70, 3) := by decide +kernel
theorem d_D_divide_30 : decode c_D_divide 30 = .ok (.aload_n 0, 1) := by decide +kernel
theorem d_D_divide_31 : decode c_D_divide 31 = .ok (.getfield 12, 3) := by decide +kernel
theorem d_D_divide_34 : decode c_D_divide 34 = .ok (.getfield 98, 3) := by decide +kernel
theorem d_D_divide_37 : decode c_D_divide 37 = .ok (.invokevirtual 101, 3) := by decide +kernel
theorem d_D_divide_40 : decode c_D_divide 40 = .ok (.aload_n 0, 1) := by decide +kernel
theorem d_D_divide_41 : decode c_D_divide 41 = .ok (.getfield 22, 3) := by decide +kernel
theorem d_D_divide_44 : decode c_D_divide 44 = .ok (.getfield 82, 3) := by decide +kernel
theorem d_D_divide_47 : decode c_D_divide 47 = .ok (.aload_n 0, 1) := by decide +kernel
theorem d_D_divide_48 : decode c_D_divide 48 = .ok (.getfield 16, 3) := by decide +kernel
theorem d_D_divide_51 : decode c_D_divide 51 = .ok (.getfield 98, 3) := by decide +kernel
theorem d_D_divide_54 : decode c_D_divide 54 = .ok (.invokevirtual 101, 3) := by decide +kernel
theorem d_D_divide_57 : decode c_D_divide 57 = .ok (.aload_n 0, 1) := by decide +kernel
theorem d_D_divide_58 : decode c_D_divide 58 = .ok (.getfield 22, 3) := by decide +kernel
theorem d_D_divide_61 : decode c_D_divide 61 = .ok (.invokevirtual 85, 3) := by decide +kernel
theorem d_D_divide_64 : decode c_D_divide 64 = .ok (.aload_n 0, 1) := by decide +kernel
theorem d_D_divide_65 : decode c_D_divide 65 = .ok (.getfield 16, 3) := by decide +kernel
theorem d_D_divide_68 : decode c_D_divide 68 = .ok (.aload_n 0, 1) := by decide +kernel
theorem d_D_divide_69 : decode c_D_divide 69 = .ok (.getfield 22, 3) := by decide +kernel
theorem d_D_divide_72 : decode c_D_divide 72 = .ok (.getfield 70, 3) := by decide +kernel
theorem d_D_divide_75 : decode c_D_divide 75 = .ok (.aload_n 0, 1) := by decide +kernel
theorem d_D_divide_76 : decode c_D_divide 76 = .ok (.getfield 16, 3) := by decide +kernel
theorem d_D_divide_79 : decode c_D_divide 79 = .ok (.getfield 92, 3) := by decide +kernel
theorem d_D_divide_82 : decode c_D_divide 82 = .ok (.invokevirtual 154, 3) := by decide +kernel
theorem d_D_divide_85 : decode c_D_divide 85 = .ok (.aload_n 0, 1) := by decide +kernel
theorem d_D_divide_86 : decode c_D_divide 86 = .ok (.aload_n 0, 1) := by decide +kernel
theorem d_D_divide_87 : decode c_D_divide 87 = .ok (.getfield 22, 3) := by decide +kernel
theorem d_D_divide_90 : decode c_D_divide 90 = .ok (.getfield 54, 3) := by decide +kernel
theorem d_D_divide_93 : decode c_D_divide 93 = .ok (.aload_n 0, 1) := by decide +kernel
theorem d_D_divide_94 : decode c_D_divide 94 = .ok (.getfield 12, 3) := by decide +kernel
theorem d_D_divide_97 : decode c_D_divide 97 = .ok (.getfield 92, 3) := by decide +kernel
theorem d_D_divide_100 : decode c_D_divide 100 = .ok (.invokevirtual 58, 3) := by decide +kernel
theorem d_D_divide_103 : decode c_D_divide 103 = .ok (.ireturn, 1) := by decide +kernel
theorem d_D_convert_0 : decode c_D_convert 0 = .ok (.iload_n 1, 1) := by decide +kernel
theorem d_D_convert_1 : decode c_D_convert 1 = .ok (.invokestatic 88, 3) := by decide +kernel
theorem d_D_convert_4 : decode c_D_convert 4 = .ok (.aload_n 0, 1) := by decide +kernel
theorem d_D_convert_5 : decode c_D_convert 5 = .ok (.getfield 12, 3) := by decide +kernel
theorem d_D_convert_8 : decode c_D_convert 8 = .ok (.iload_n 1, 1) := by decide +kernel
theorem d_D_convert_9 : decode c_D_convert 9 = .ok (.invokevirtual 161, 3) := by decide +kernel
theorem d_D_convert_12 : decode c_D_convert 12 = .ok (.aload_n 0, 1) := by decide +kernel
theorem d_D_convert_13 : decode c_D_convert 13 = .ok (.invokevirtual 114, 3) := by decide +kernel
theorem d_D_convert_16 : decode c_D_convert 16 = .ok (.ireturn, 1) := by decide +kernel
theorem d_D_digit_0 : decode c_D_digit 0 = .ok (.iload_n 1, 1) := by decide +kernel
theorem d_D_digit_1 : decode c_D_digit 1 = .ok (.ifCond .lt 11, 3) := by decide +kernel
theorem d_D_digit_4 : decode c_D_digit 4 = .ok (.iload_n 1, 1) := by decide +kernel
theorem d_D_digit_5 : decode c_D_digit 5 = .ok (.aload_n 0, 1) := by decide +kernel
theorem d_D_digit_6 : decode c_D_digit 6 = .ok (.invokevirtual 114, 3) := by decide +kernel
theorem d_D_digit_9 : decode c_D_digit 9 = .ok (.if_icmp .lt 13, 3) := by decide +kernel
theorem d_D_digit_12 : decode c_D_digit 12 = .ok (.new 164, 3) := by decide +kernel
theorem d_D_digit_15 : decode c_D_digit 15 = .ok (.dup, 1) := by decide +kernel
theorem d_D_digit_16 : decode c_D_digit 16 = .ok (.ldc 166, 2) := by decide +kernel
theorem d_D_digit_18 : decode c_D_digit 18 = .ok (.invokespecial 168, 3) := by decide +kernel
theorem d_D_digit_21 : decode c_D_digit 21 = .ok (.athrow, 1) := by decide +kernel
theorem d_D_digit_22 : decode c_D_digit 22 = .ok (.aload_n 0, 1) := by decide +kernel
theorem d_D_digit_23 : decode c_D_digit 23 = .ok (.getfield 12, 3) := by decide +kernel
theorem d_D_digit_26 : decode c_D_digit 26 = .ok (.iload_n 1, 1) := by decide +kernel
theorem d_D_digit_27 : decode c_D_digit 27 = .ok (.invokevirtual 169, 3) := by decide +kernel
theorem d_D_digit_30 : decode c_D_digit 30 = .ok (.ireturn, 1) := by decide +kernel
theorem d_D_about_0 : decode c_D_about 0 = .ok (.iload_n 1, 1) := by decide +kernel
theorem d_D_about_1 : decode c_D_about 1 = .ok (.tableswitch 60 0 3 #[31, 36, 47, 55], 31) := by decide +kernel
theorem d_D_about_32 : decode c_D_about 32 = .ok (.aload_n 0, 1) := by decide +kernel
theorem d_D_about_33 : decode c_D_about 33 = .ok (.invokevirtual 114, 3) := by decide +kernel
theorem d_D_about_36 : decode c_D_about 36 = .ok (.ireturn, 1) := by decide +kernel
theorem d_D_about_37 : decode c_D_about 37 = .ok (.aload_n 0, 1) := by decide +kernel
theorem d_D_about_38 : decode c_D_about 38 = .ok (.getfield 12, 3) := by decide +kernel
theorem d_D_about_41 : decode c_D_about 41 = .ok (.getfield 98, 3) := by decide +kernel
theorem d_D_about_44 : decode c_D_about 44 = .ok (.invokevirtual 137, 3) := by decide +kernel
theorem d_D_about_47 : decode c_D_about 47 = .ok (.ireturn, 1) := by decide +kernel
theorem d_D_about_48 : decode c_D_about 48 = .ok (.aload_n 0, 1) := by decide +kernel
theorem d_D_about_49 : decode c_D_about 49 = .ok (.getfield 12, 3) := by decide +kernel
theorem d_D_about_52 : decode c_D_about 52 = .ok (.getfield 92, 3) := by decide +kernel
theorem d_D_about_55 : decode c_D_about 55 = .ok (.ireturn, 1) := by decide +kernel
theorem d_D_about_56 : decode c_D_about 56 = .ok (.aload_n 0, 1) := by decide +kernel
theorem d_D_about_57 : decode c_D_about 57 = .ok (.invokevirtual 173, 3) := by decide +kernel
theorem d_D_about_60 : decode c_D_about 60 = .ok (.ireturn, 1) := by decide +kernel
theorem d_D_about_61 : decode c_D_about 61 = .ok (.new 33, 3) := by decide +kernel
theorem d_D_about_64 : decode c_D_about 64 = .ok (.dup, 1) := by decide +kernel
theorem d_D_about_65 : decode c_D_about 65 = .ok (.ldc 176, 2) := by decide +kernel
theorem d_D_about_67 : decode c_D_about 67 = .ok (.invokespecial 37, 3) := by decide +kernel
theorem d_D_about_70 : decode c_D_about 70 = .ok (.athrow, 1) := by decide +kernel
theorem d_D_digitSum_0 : decode c_D_digitSum 0 = .ok (.aload_n 0, 1) := by decide +kernel
theorem d_D_digitSum_1 : decode c_D_digitSum 1 = .ok (.getfield 12, 3) := by decide +kernel
theorem d_D_digitSum_4 : decode c_D_digitSum 4 = .ok (.aload_n 0, 1) := by decide +kernel
theorem d_D_digitSum_5 : decode c_D_digitSum 5 = .ok (.getfield 22, 3) := by decide +kernel
theorem d_D_digitSum_8 : decode c_D_digitSum 8 = .ok (.getfield 70, 3) := by decide +kernel
theorem d_D_digitSum_11 : decode c_D_digitSum 11 = .ok (.invokevirtual 209, 3) := by decide +kernel
theorem d_D_digitSum_14 : decode c_D_digitSum 14 = .ok (.aload_n 0, 1) := by decide +kernel
theorem d_D_digitSum_15 : decode c_D_digitSum 15 = .ok (.getfield 12, 3) := by decide +kernel
theorem d_D_digitSum_18 : decode c_D_digitSum 18 = .ok (.invokevirtual 214, 3) := by decide +kernel
theorem d_D_digitSum_21 : decode c_D_digitSum 21 = .ok (.ireturn, 1) := by decide +kernel
theorem d_D_count_0 : decode c_D_count 0 = .ok (.iload_n 2, 1) := by decide +kernel
theorem d_D_count_1 : decode c_D_count 1 = .ok (.ifCond .lt 11, 3) := by decide +kernel
theorem d_D_count_4 : decode c_D_count 4 = .ok (.iload_n 3, 1) := by decide +kernel
theorem d_D_count_5 : decode c_D_count 5 = .ok (.aload_n 0, 1) := by decide +kernel
theorem d_D_count_6 : decode c_D_count 6 = .ok (.invokevirtual 114, 3) := by decide +kernel
theorem d_D_count_9 : decode c_D_count 9 = .ok (.if_icmp .lt 13, 3) := by decide +kernel
theorem d_D_count_12 : decode c_D_count 12 = .ok (.new 164, 3) := by decide +kernel
theorem d_D_count_15 : decode c_D_count 15 = .ok (.dup, 1) := by decide +kernel
theorem d_D_count_16 : decode c_D_count 16 = .ok (.ldc 178, 2) := by decide +kernel
theorem d_D_count_18 : decode c_D_count 18 = .ok (.invokespecial 168, 3) := by decide +kernel
theorem d_D_count_21 : decode c_D_count 21 = .ok (.athrow, 1) := by decide +kernel
theorem d_D_count_22 : decode c_D_count 22 = .ok (.iconst 0, 1) := by decide +kernel
theorem d_D_count_23 : decode c_D_count 23 = .ok (.istore 4, 2) := by decide +kernel
theorem d_D_count_25 : decode c_D_count 25 = .ok (.iload_n 2, 1) := by decide +kernel
theorem d_D_count_26 : decode c_D_count 26 = .ok (.istore 5, 2) := by decide +kernel
theorem d_D_count_28 : decode c_D_count 28 = .ok (.iload 5, 2) := by decide +kernel
theorem d_D_count_30 : decode c_D_count 30 = .ok (.iload_n 3, 1) := by decide +kernel
theorem d_D_count_31 : decode c_D_count 31 = .ok (.if_icmp .gt 25, 3) := by decide +kernel
theorem d_D_count_34 : decode c_D_count 34 = .ok (.aload_n 0, 1) := by decide +kernel
theorem d_D_count_35 : decode c_D_count 35 = .ok (.getfield 12, 3) := by decide +kernel
theorem d_D_count_38 : decode c_D_count 38 = .ok (.iload 5, 2) := by decide +kernel
theorem d_D_count_40 : decode c_D_count 40 = .ok (.invokevirtual 169, 3) := by decide +kernel
theorem d_D_count_43 : decode c_D_count 43 = .ok (.iload_n 1, 1) := by decide +kernel
theorem d_D_count_44 : decode c_D_count 44 = .ok (.if_icmp .ne 6, 3) := by decide +kernel
theorem d_D_count_47 : decode c_D_count 47 = .ok (.iinc 4 1, 3) := by decide +kernel
theorem d_D_count_50 : decode c_D_count 50 = .ok (.iinc 5 1, 3) := by decide +kernel
theorem d_D_count_53 : decode c_D_count 53 = .ok (.goto (-25), 3) := by decide +kernel
theorem d_D_count_56 : decode c_D_count 56 = .ok (.iload 4, 2) := by decide +kernel
theorem d_D_count_58 : decode c_D_count 58 = .ok (.ireturn, 1) := by decide +kernel
theorem d_D_find_0 : decode c_D_find 0 = .ok (.iload_n 3, 1) := by decide +kernel
theorem d_D_find_1 : decode c_D_find 1 = .ok (.iconst 1, 1) := by decide +kernel
theorem d_D_find_2 : decode c_D_find 2 = .ok (.if_icmp .lt 20, 3) := by decide +kernel
theorem d_D_find_5 : decode c_D_find 5 = .ok (.iload_n 3, 1) := by decide +kernel
theorem d_D_find_6 : decode c_D_find 6 = .ok (.bipush 12, 2) := by decide +kernel
theorem d_D_find_8 : decode c_D_find 8 = .ok (.if_icmp .gt 14, 3) := by decide +kernel
theorem d_D_find_11 : decode c_D_find 11 = .ok (.lload_n 1, 1) := by decide +kernel
theorem d_D_find_12 : decode c_D_find 12 = .ok (.lconst 0, 1) := by decide +kernel
theorem d_D_find_13 : decode c_D_find 13 = .ok (.lcmp, 1) := by decide +kernel
theorem d_D_find_14 : decode c_D_find 14 = .ok (.ifCond .lt 8, 3) := by decide +kernel
theorem d_D_find_17 : decode c_D_find 17 = .ok (.iload 4, 2) := by decide +kernel
theorem d_D_find_19 : decode c_D_find 19 = .ok (.ifCond .ge 13, 3) := by decide +kernel
theorem d_D_find_22 : decode c_D_find 22 = .ok (.new 33, 3) := by decide +kernel
theorem d_D_find_25 : decode c_D_find 25 = .ok (.dup, 1) := by decide +kernel
theorem d_D_find_26 : decode c_D_find 26 = .ok (.ldc 180, 2) := by decide +kernel
theorem d_D_find_28 : decode c_D_find 28 = .ok (.invokespecial 37, 3) := by decide +kernel
theorem d_D_find_31 : decode c_D_find 31 = .ok (.athrow, 1) := by decide +kernel
theorem d_D_find_32 : decode c_D_find 32 = .ok (.aload_n 0, 1) := by decide +kernel
theorem d_D_find_33 : decode c_D_find 33 = .ok (.getfield 12, 3) := by decide +kernel
theorem d_D_find_36 : decode c_D_find 36 = .ok (.getfield 92, 3) := by decide +kernel
theorem d_D_find_39 : decode c_D_find 39 = .ok (.iload_n 3, 1) := by decide +kernel
theorem d_D_find_40 : decode c_D_find 40 = .ok (.iconst 1, 1) := by decide +kernel
theorem d_D_find_41 : decode c_D_find 41 = .ok (.isub, 1) := by decide +kernel
theorem d_D_find_42 : decode c_D_find 42 = .ok (.invokestatic 182, 3) := by decide +kernel
theorem d_D_find_45 : decode c_D_find 45 = .ok (.lstore 5, 2) := by decide +kernel
theorem d_D_find_47 : decode c_D_find 47 = .ok (.lload_n 1, 1) := by decide +kernel
theorem d_D_find_48 : decode c_D_find 48 = .ok (.aload_n 0, 1) := by decide +kernel
theorem d_D_find_49 : decode c_D_find 49 = .ok (.getfield 12, 3) := by decide +kernel
theorem d_D_find_52 : decode c_D_find 52 = .ok (.getfield 92, 3) := by decide +kernel
theorem d_D_find_55 : decode c_D_find 55 = .ok (.i2l, 1) := by decide +kernel
theorem d_D_find_56 : decode c_D_find 56 = .ok (.ldiv, 1) := by decide +kernel
theorem d_D_find_57 : decode c_D_find 57 = .ok (.lload 5, 2) := by decide +kernel
theorem d_D_find_59 : decode c_D_find 59 = .ok (.lcmp, 1) := by decide +kernel
theorem d_D_find_60 : decode c_D_find 60 = .ok (.ifCond .lt 13, 3) := by decide +kernel
theorem d_D_find_63 : decode c_D_find 63 = .ok (.new 33, 3) := by decide +kernel
theorem d_D_find_66 : decode c_D_find 66 = .ok (.dup, 1) := by decide +kernel
theorem d_D_find_67 : decode c_D_find 67 = .ok (.ldc 186, 2) := by decide +kernel
theorem d_D_find_69 : decode c_D_find 69 = .ok (.invokespecial 37, 3) := by decide +kernel
theorem d_D_find_72 : decode c_D_find 72 = .ok (.athrow, 1) := by decide +kernel
theorem d_D_find_73 : decode c_D_find 73 = .ok (.aload_n 0, 1) := by decide +kernel
theorem d_D_find_74 : decode c_D_find 74 = .ok (.invokevirtual 114, 3) := by decide +kernel
theorem d_D_find_77 : decode c_D_find 77 = .ok (.istore 7, 2) := by decide +kernel
theorem d_D_find_79 : decode c_D_find 79 = .ok (.lconst 0, 1) := by decide +kernel
theorem d_D_find_80 : decode c_D_find 80 = .ok (.lstore 8, 2) := by decide +kernel
theorem d_D_find_82 : decode c_D_find 82 = .ok (.iconst 0, 1) := by decide +kernel
theorem d_D_find_83 : decode c_D_find 83 = .ok (.istore 10, 2) := by decide +kernel
theorem d_D_find_85 : decode c_D_find 85 = .ok (.iload 4, 2) := by decide +kernel
theorem d_D_find_87 : decode c_D_find 87 = .ok (.istore 11, 2) := by decide +kernel
theorem d_D_find_89 : decode c_D_find 89 = .ok (.iload 11, 2) := by decide +kernel
theorem d_D_find_91 : decode c_D_find 91 = .ok (.iload 7, 2) := by decide +kernel
theorem d_D_find_93 : decode c_D_find 93 = .ok (.if_icmp .ge 59, 3) := by decide +kernel
theorem d_D_find_96 : decode c_D_find 96 = .ok (.lload 8, 2) := by decide +kernel
theorem d_D_find_98 : decode c_D_find 98 = .ok (.lload 5, 2) := by decide +kernel
theorem d_D_find_100 : decode c_D_find 100 = .ok (.lrem, 1) := by decide +kernel
theorem d_D_find_101 : decode c_D_find 101 = .ok (.aload_n 0, 1) := by decide +kernel
theorem d_D_find_102 : decode c_D_find 102 = .ok (.getfield 12, 3) := by decide +kernel
theorem d_D_find_105 : decode c_D_find 105 = .ok (.getfield 92, 3) := by decide +kernel
theorem d_D_find_108 : decode c_D_find 108 = .ok (.i2l, 1) := by decide +kernel
theorem d_D_find_109 : decode c_D_find 109 = .ok (.lmul, 1) := by decide +kernel
theorem d_D_find_110 : decode c_D_find 110 = .ok (.aload_n 0, 1) := by decide +kernel
theorem d_D_find_111 : decode c_D_find 111 = .ok (.getfield 12, 3) := by decide +kernel
theorem d_D_find_114 : decode c_D_find 114 = .ok (.iload 11, 2) := by decide +kernel
theorem d_D_find_116 : decode c_D_find 116 = .ok (.invokevirtual 169, 3) := by decide +kernel
theorem d_D_find_119 : decode c_D_find 119 = .ok (.i2l, 1) := by decide +kernel
theorem d_D_find_120 : decode c_D_find 120 = .ok (.ladd, 1) := by decide +kernel
theorem d_D_find_121 : decode c_D_find 121 = .ok (.lstore 8, 2) := by decide +kernel
theorem d_D_find_123 : decode c_D_find 123 = .ok (.iinc 10 1, 3) := by decide +kernel
theorem d_D_find_126 : decode c_D_find 126 = .ok (.iload 10, 2) := by decide +kernel
theorem d_D_find_128 : decode c_D_find 128 = .ok (.iload_n 3, 1) := by decide +kernel
theorem d_D_find_129 : decode c_D_find 129 = .ok (.if_icmp .lt 17, 3) := by decide +kernel
theorem d_D_find_132 : decode c_D_find 132 = .ok (.lload 8, 2) := by decide +kernel
theorem d_D_find_134 : decode c_D_find 134 = .ok (.lload_n 1, 1) := by decide +kernel
theorem d_D_find_135 : decode c_D_find 135 = .ok (.lcmp, 1) := by decide +kernel
theorem d_D_find_136 : decode c_D_find 136 = .ok (.ifCond .ne 10, 3) := by decide +kernel
theorem d_D_find_139 : decode c_D_find 139 = .ok (.iload 11, 2) := by decide +kernel
theorem d_D_find_141 : decode c_D_find 141 = .ok (.iload_n 3, 1) := by decide +kernel
theorem d_D_find_142 : decode c_D_find 142 = .ok (.isub, 1) := by decide +kernel
theorem d_D_find_143 : decode c_D_find 143 = .ok (.iconst 1, 1) := by decide +kernel
theorem d_D_find_144 : decode c_D_find 144 = .ok (.iadd, 1) := by decide +kernel
theorem d_D_find_145 : decode c_D_find 145 = .ok (.ireturn, 1) := by decide +kernel
theorem d_D_find_146 : decode c_D_find 146 = .ok (.iinc 11 1, 3) := by decide +kernel
theorem d_D_find_149 : decode c_D_find 149 = .ok (.goto (-60), 3) := by decide +kernel
theorem d_D_find_152 : decode c_D_find 152 = .ok (.iconst (-1), 1) := by decide +kernel
theorem d_D_find_153 : decode c_D_find 153 = .ok (.ireturn, 1) := by decide +kernel
end
section
theorem d_H_init_0 : decode c_H_init 0 = .ok (.aload_n 0, 1) := by decide +kernel
theorem d_H_init_1 : decode c_H_init 1 = .ok (.invokespecial 3, 3) := by decide +kernel
theorem d_H_init_4 : decode c_H_init 4 = .ok (.aload_n 0, 1) := by decide +kernel
theorem d_H_init_5 : decode c_H_init 5 = .ok (.iload_n 1, 1) := by decide +kernel
theorem d_H_init_6 : decode c_H_init 6 = .ok (.newarray .int, 2) := by decide +kernel
theorem d_H_init_8 : decode c_H_init 8 = .ok (.putfield 9, 3) := by decide +kernel
theorem d_H_init_11 : decode c_H_init 11 = .ok (.return_, 1) := by decide +kernel
theorem d_D_digitsPerGroup_0 : decode c_D_digitsPerGroup 0 = .ok (.iconst 1, 1) := by decide +kernel
theorem d_D_digitsPerGroup_1 : decode c_D_digitsPerGroup 1 = .ok (.istore_n 1, 1) := by decide +kernel
theorem d_D_digitsPerGroup_2 : decode c_D_digitsPerGroup 2 = .ok (.iload_n 0, 1) := by decide +kernel
theorem d_D_digitsPerGroup_3 : decode c_D_digitsPerGroup 3 = .ok (.i2l, 1) := by decide +kernel
theorem d_D_digitsPerGroup_4 : decode c_D_digitsPerGroup 4 = .ok (.iload_n 0, 1) := by decide +kernel
theorem d_D_digitsPerGroup_5 : decode c_D_digitsPerGroup 5 = .ok (.i2l, 1) := by decide +kernel
theorem d_D_digitsPerGroup_6 : decode c_D_digitsPerGroup 6 = .ok (.lmul, 1) := by decide +kernel
theorem d_D_digitsPerGroup_7 : decode c_D_digitsPerGroup 7 = .ok (.lstore_n 2, 1) := by decide +kernel
theorem d_D_digitsPerGroup_8 : decode c_D_digitsPerGroup 8 = .ok (.lload_n 2, 1) := by decide +kernel
theorem d_D_digitsPerGroup_9 : decode c_D_digitsPerGroup 9 = .ok (.ldc2_w 207, 3) := by decide +kernel
theorem d_D_digitsPerGroup_12 : decode c_D_digitsPerGroup 12 = .ok (.lcmp, 1) := by decide +kernel
theorem d_D_digitsPerGroup_13 : decode c_D_digitsPerGroup 13 = .ok (.ifCond .gt 20, 3) := by decide +kernel
theorem d_D_digitsPerGroup_16 : decode c_D_digitsPerGroup 16 = .ok (.iload_n 1, 1) := by decide +kernel
theorem d_D_digitsPerGroup_17 : decode c_D_digitsPerGroup 17 = .ok (.bipush 30, 2) := by decide +kernel
theorem d_D_digitsPerGroup_19 : decode c_D_digitsPerGroup 19 = .ok (.if_icmp .ge 14, 3) := by decide +kernel
theorem d_D_digitsPerGroup_22 : decode c_D_digitsPerGroup 22 = .ok (.iinc 1 1, 3) := by decide +kernel
theorem d_D_digitsPerGroup_25 : decode c_D_digitsPerGroup 25 = .ok (.lload_n 2, 1) := by decide +kernel
theorem d_D_digitsPerGroup_26 : decode c_D_digitsPerGroup 26 = .ok (.iload_n 0, 1) := by decide +kernel
theorem d_D_digitsPerGroup_27 : decode c_D_digitsPerGroup 27 = .ok (.i2l, 1) := by decide +kernel
theorem d_D_digitsPerGroup_28 : decode c_D_digitsPerGroup 28 = .ok (.lmul, 1) := by decide +kernel
theorem d_D_digitsPerGroup_29 : decode c_D_digitsPerGroup 29 = .ok (.lstore_n 2, 1) := by decide +kernel
theorem d_D_digitsPerGroup_30 : decode c_D_digitsPerGroup 30 = .ok (.goto (-22), 3) := by decide +kernel
theorem d_D_digitsPerGroup_33 : decode c_D_digitsPerGroup 33 = .ok (.iload_n 1, 1) := by decide +kernel
theorem d_D_digitsPerGroup_34 : decode c_D_digitsPerGroup 34 = .ok (.ireturn, 1) := by decide +kernel
theorem d_H_copy_0 : decode c_H_copy 0 = .ok (.aload_n 0, 1) := by decide +kernel
theorem d_H_copy_1 : decode c_H_copy 1 = .ok (.aload_n 1, 1) := by decide +kernel
theorem d_H_copy_2 : decode c_H_copy 2 = .ok (.getfield 9, 3) := by decide +kernel
theorem d_H_copy_5 : decode c_H_copy 5 = .ok (.aload_n 1, 1) := by decide +kernel
theorem d_H_copy_6 : decode c_H_copy 6 = .ok (.getfield 15, 3) := by decide +kernel
theorem d_H_copy_9 : decode c_H_copy 9 = .ok (.invokevirtual 21, 3) := by decide +kernel
theorem d_H_copy_12 : decode c_H_copy 12 = .ok (.return_, 1) := by decide +kernel
theorem d_H_load_0 : decode c_H_load 0 = .ok (.aload_n 0, 1) := by decide +kernel
theorem d_H_load_1 : decode c_H_load 1 = .ok (.iload_n 2, 1) := by decide +kernel
theorem d_H_load_2 : decode c_H_load 2 = .ok (.aload_n 1, 1) := by decide +kernel
theorem d_H_load_3 : decode c_H_load 3 = .ok (.arraylength, 1) := by decide +kernel
theorem d_H_load_4 : decode c_H_load 4 = .ok (.aload_n 0, 1) := by decide +kernel
theorem d_H_load_5 : decode c_H_load 5 = .ok (.getfield 9, 3) := by decide +kernel
theorem d_H_load_8 : decode c_H_load 8 = .ok (.arraylength, 1) := by decide +kernel
theorem d_H_load_9 : decode c_H_load 9 = .ok (.invokestatic 25, 3) := by decide +kernel
theorem d_H_load_12 : decode c_H_load 12 = .ok (.invokestatic 25, 3) := by decide +kernel
theorem d_H_load_15 : decode c_H_load 15 = .ok (.putfield 15, 3) := by decide +kernel
theorem d_H_load_18 : decode c_H_load 18 = .ok (.aload_n 1, 1) := by decide +kernel
theorem d_H_load_19 : decode c_H_load 19 = .ok (.iconst 0, 1) := by decide +kernel
theorem d_H_load_20 : decode c_H_load 20 = .ok (.aload_n 0, 1) := by decide +kernel
theorem d_H_load_21 : decode c_H_load 21 = .ok (.getfield 9, 3) := by decide +kernel
theorem d_H_load_24 : decode c_H_load 24 = .ok (.iconst 0, 1) := by decide +kernel
theorem d_H_load_25 : decode c_H_load 25 = .ok (.aload_n 0, 1) := by decide +kernel
theorem d_H_load_26 : decode c_H_load 26 = .ok (.getfield 15, 3) := by decide +kernel
theorem d_H_load_29 : decode c_H_load 29 = .ok (.invokestatic 31, 3) := by decide +kernel
theorem d_H_load_32 : decode c_H_load 32 = .ok (.aload_n 0, 1) := by decide +kernel
theorem d_H_load_33 : decode c_H_load 33 = .ok (.invokevirtual 37, 3) := by decide +kernel
theorem d_H_load_36 : decode c_H_load 36 = .ok (.return_, 1) := by decide +kernel
theorem d_H_trim_0 : decode c_H_trim 0 = .ok (.aload_n 0, 1) := by decide +kernel
theorem d_H_trim_1 : decode c_H_trim 1 = .ok (.getfield 15, 3) := by decide +kernel
theorem d_H_trim_4 : decode c_H_trim 4 = .ok (.ifCond .le 30, 3) := by decide +kernel
theorem d_H_trim_7 : decode c_H_trim 7 = .ok (.aload_n 0, 1) := by decide +kernel
theorem d_H_trim_8 : decode c_H_trim 8 = .ok (.getfield 9, 3) := by decide +kernel
theorem d_H_trim_11 : decode c_H_trim 11 = .ok (.aload_n 0, 1) := by decide +kernel
theorem d_H_trim_12 : decode c_H_trim 12 = .ok (.getfield 15, 3) := by decide +kernel
theorem d_H_trim_15 : decode c_H_trim 15 = .ok (.iconst 1, 1) := by decide +kernel
theorem d_H_trim_16 : decode c_H_trim 16 = .ok (.isub, 1) := by decide +kernel
theorem d_H_trim_17 : decode c_H_trim 17 = .ok (.iaload, 1) := by decide +kernel
theorem d_H_trim_18 : decode c_H_trim 18 = .ok (.ifCond .ne 16, 3) := by decide +kernel
theorem d_H_trim_21 : decode c_H_trim 21 = .ok (.aload_n 0, 1) := by decide +kernel
theorem d_H_trim_22 : decode c_H_trim 22 = .ok (.dup, 1) := by decide +kernel
theorem d_H_trim_23 : decode c_H_trim 23 = .ok (.getfield 15, 3) := by decide +kernel
theorem d_H_trim_26 : decode c_H_trim 26 = .ok (.iconst 1, 1) := by decide +kernel
theorem d_H_trim_27 : decode c_H_trim 27 = .ok (.isub, 1) := by decide +kernel
theorem d_H_trim_28 : decode c_H_trim 28 = .ok (.putfield 15, 3) := by decide +kernel
theorem d_H_trim_31 : decode c_H_trim 31 = .ok (.goto (-31), 3) := by decide +kernel
theorem d_H_trim_34 : decode c_H_trim 34 = .ok (.return_, 1) := by decide +kernel
theorem d_H_shrink_0 : decode c_H_shrink 0 = .ok (.lconst 0, 1) := by decide +kernel
theorem d_H_shrink_1 : decode c_H_shrink 1 = .ok (.lstore_n 2, 1) := by decide +kernel
theorem d_H_shrink_2 : decode c_H_shrink 2 = .ok (.aload_n 0, 1) := by decide +kernel
theorem d_H_shrink_3 : decode c_H_shrink 3 = .ok (.getfield 15, 3) := by decide +kernel
theorem d_H_shrink_6 : decode c_H_shrink 6 = .ok (.iconst 1, 1) := by decide +kernel
theorem d_H_shrink_7 : decode c_H_shrink 7 = .ok (.isub, 1) := by decide +kernel
theorem d_H_shrink_8 : decode c_H_shrink 8 = .ok (.istore 4, 2) := by decide +kernel
theorem d_H_shrink_10 : decode c_H_shrink 10 = .ok (.iload 4, 2) := by decide +kernel
theorem d_H_shrink_12 : decode c_H_shrink 12 = .ok (.ifCond .lt 50, 3) := by decide +kernel
theorem d_H_shrink_15 : decode c_H_shrink 15 = .ok (.lload_n 2, 1) := by decide +kernel
theorem d_H_shrink_16 : decode c_H_shrink 16 = .ok (.bipush 30, 2) := by decide +kernel
theorem d_H_shrink_18 : decode c_H_shrink 18 = .ok (.lshl, 1) := by decide +kernel
theorem d_H_shrink_19 : decode c_H_shrink 19 = .ok (.aload_n 0, 1) := by decide +kernel
theorem d_H_shrink_20 : decode c_H_shrink 20 = .ok (.getfield 9, 3) := by decide +kernel
theorem d_H_shrink_23 : decode c_H_shrink 23 = .ok (.iload 4, 2) := by decide +kernel
theorem d_H_shrink_25 : decode c_H_shrink 25 = .ok (.iaload, 1) := by decide +kernel
theorem d_H_shrink_26 : decode c_H_shrink 26 = .ok (.i2l, 1) := by decide +kernel
theorem d_H_shrink_27 : decode c_H_shrink 27 = .ok (.lor, 1) := by decide +kernel
theorem d_H_shrink_28 : decode c_H_shrink 28 = .ok (.lstore 5, 2) := by decide +kernel
theorem d_H_shrink_30 : decode c_H_shrink 30 = .ok (.lload 5, 2) := by decide +kernel
theorem d_H_shrink_32 : decode c_H_shrink 32 = .ok (.iload_n 1, 1) := by decide +kernel
theorem d_H_shrink_33 : decode c_H_shrink 33 = .ok (.i2l, 1) := by decide +kernel
theorem d_H_shrink_34 : decode c_H_shrink 34 = .ok (.ldiv, 1) := by decide +kernel
theorem d_H_shrink_35 : decode c_H_shrink 35 = .ok (.lstore 7, 2) := by decide +kernel
theorem d_H_shrink_37 : decode c_H_shrink 37 = .ok (.aload_n 0, 1) := by decide +kernel
theorem d_H_shrink_38 : decode c_H_shrink 38 = .ok (.getfield 9, 3) := by decide +kernel
theorem d_H_shrink_41 : decode c_H_shrink 41 = .ok (.iload 4, 2) := by decide +kernel
theorem d_H_shrink_43 : decode c_H_shrink 43 = .ok (.lload 7, 2) := by decide +kernel
theorem d_H_shrink_45 : decode c_H_shrink 45 = .ok (.l2i, 1) := by decide +kernel
theorem d_H_shrink_46 : decode c_H_shrink 46 = .ok (.iastore, 1) := by decide +kernel
theorem d_H_shrink_47 : decode c_H_shrink 47 = .ok (.lload 5, 2) := by decide +kernel
theorem d_H_shrink_49 : decode c_H_shrink 49 = .ok (.lload 7, 2) := by decide +kernel
theorem d_H_shrink_51 : decode c_H_shrink 51 = .ok (.iload_n 1, 1) := by decide +kernel
theorem d_H_shrink_52 : decode c_H_shrink 52 = .ok (.i2l, 1) := by decide +kernel
theorem d_H_shrink_53 : decode c_H_shrink 53 = .ok (.lmul, 1) := by decide +kernel
theorem d_H_shrink_54 : decode c_H_shrink 54 = .ok (.lsub, 1) := by decide +kernel
theorem d_H_shrink_55 : decode c_H_shrink 55 = .ok (.lstore_n 2, 1) := by decide +kernel
theorem d_H_shrink_56 : decode c_H_shrink 56 = .ok (.iinc 4 (-1), 3) := by decide +kernel
theorem d_H_shrink_59 : decode c_H_shrink 59 = .ok (.goto (-49), 3) := by decide +kernel
theorem d_H_shrink_62 : decode c_H_shrink 62 = .ok (.aload_n 0, 1) := by decide +kernel
theorem d_H_shrink_63 : decode c_H_shrink 63 = .ok (.invokevirtual 37, 3) := by decide +kernel
theorem d_H_shrink_66 : decode c_H_shrink 66 = .ok (.lload_n 2, 1) := by decide +kernel
theorem d_H_shrink_67 : decode c_H_shrink 67 = .ok (.l2i, 1) := by decide +kernel
theorem d_H_shrink_68 : decode c_H_shrink 68 = .ok (.ireturn, 1) := by decide +kernel
theorem d_H_length_0 : decode c_H_length 0 = .ok (.aload_n 0, 1) := by decide +kernel
theorem d_H_length_1 : decode c_H_length 1 = .ok (.getfield 15, 3) := by decide +kernel
theorem d_H_length_4 : decode c_H_length 4 = .ok (.ifCond .ne 7, 3) := by decide +kernel
theorem d_H_length_7 : decode c_H_length 7 = .ok (.iconst 0, 1) := by decide +kernel
theorem d_H_length_8 : decode c_H_length 8 = .ok (.goto 27, 3) := by decide +kernel
theorem d_H_length_11 : decode c_H_length 11 = .ok (.aload_n 0, 1) := by decide +kernel
theorem d_H_length_12 : decode c_H_length 12 = .ok (.getfield 15, 3) := by decide +kernel
theorem d_H_length_15 : decode c_H_length 15 = .ok (.iconst 1, 1) := by decide +kernel
theorem d_H_length_16 : decode c_H_length 16 = .ok (.isub, 1) := by decide +kernel
theorem d_H_length_17 : decode c_H_length 17 = .ok (.bipush 30, 2) := by decide +kernel
theorem d_H_length_19 : decode c_H_length 19 = .ok (.imul, 1) := by decide +kernel
theorem d_H_length_20 : decode c_H_length 20 = .ok (.aload_n 0, 1) := by decide +kernel
theorem d_H_length_21 : decode c_H_length 21 = .ok (.getfield 9, 3) := by decide +kernel
theorem d_H_length_24 : decode c_H_length 24 = .ok (.aload_n 0, 1) := by decide +kernel
theorem d_H_length_25 : decode c_H_length 25 = .ok (.getfield 15, 3) := by decide +kernel
theorem d_H_length_28 : decode c_H_length 28 = .ok (.iconst 1, 1) := by decide +kernel
theorem d_H_length_29 : decode c_H_length 29 = .ok (.isub, 1) := by decide +kernel
theorem d_H_length_30 : decode c_H_length 30 = .ok (.iaload, 1) := by decide +kernel
theorem d_H_length_31 : decode c_H_length 31 = .ok (.invokestatic 40, 3) := by decide +kernel
theorem d_H_length_34 : decode c_H_length 34 = .ok (.iadd, 1) := by decide +kernel
theorem d_H_length_35 : decode c_H_length 35 = .ok (.ireturn, 1) := by decide +kernel
theorem d_D_bitsOf_0 : decode c_D_bitsOf 0 = .ok (.bipush 32, 2) := by decide +kernel
theorem d_D_bitsOf_2 : decode c_D_bitsOf 2 = .ok (.iload_n 0, 1) := by decide +kernel
theorem d_D_bitsOf_3 : decode c_D_bitsOf 3 = .ok (.invokestatic 202, 3) := by decide +kernel
theorem d_D_bitsOf_6 : decode c_D_bitsOf 6 = .ok (.isub, 1) := by decide +kernel
theorem d_D_bitsOf_7 : decode c_D_bitsOf 7 = .ok (.ireturn, 1) := by decide +kernel
theorem d_JI_numberOfLeadingZeros_0 : decode c_JI_numberOfLeadingZeros 0 = .ok (.iload_n 0, 1) := by decide +kernel
theorem d_JI_numberOfLeadingZeros_1 : decode c_JI_numberOfLeadingZeros 1 = .ok (.ifCond .gt 14, 3) := by decide +kernel
theorem d_JI_numberOfLeadingZeros_4 : decode c_JI_numberOfLeadingZeros 4 = .ok (.iload_n 0, 1) := by decide +kernel
theorem d_JI_numberOfLeadingZeros_5 : decode c_JI_numberOfLeadingZeros 5 = .ok (.ifCond .ne 8, 3) := by decide +kernel
theorem d_JI_numberOfLeadingZeros_8 : decode c_JI_numberOfLeadingZeros 8 = .ok (.bipush 32, 2) := by decide +kernel
theorem d_JI_numberOfLeadingZeros_10 : decode c_JI_numberOfLeadingZeros 10 = .ok (.goto 4, 3) := by decide +kernel
theorem d_JI_numberOfLeadingZeros_13 : decode c_JI_numberOfLeadingZeros 13 = .ok (.iconst 0, 1) := by decide +kernel
theorem d_JI_numberOfLeadingZeros_14 : decode c_JI_numberOfLeadingZeros 14 = .ok (.ireturn, 1) := by decide +kernel
theorem d_JI_numberOfLeadingZeros_15 : decode c_JI_numberOfLeadingZeros 15 = .ok (.bipush 31, 2) := by decide +kernel
theorem d_JI_numberOfLeadingZeros_17 : decode c_JI_numberOfLeadingZeros 17 = .ok (.istore_n 1, 1) := by decide +kernel
theorem d_JI_numberOfLeadingZeros_18 : decode c_JI_numberOfLeadingZeros 18 = .ok (.iload_n 0, 1) := by decide +kernel
theorem d_JI_numberOfLeadingZeros_19 : decode c_JI_numberOfLeadingZeros 19 = .ok (.ldc_w 264, 3) := by decide +kernel
theorem d_JI_numberOfLeadingZeros_22 : decode c_JI_numberOfLeadingZeros 22 = .ok (.if_icmp .lt 11, 3) := by decide +kernel
theorem d_JI_numberOfLeadingZeros_25 : decode c_JI_numberOfLeadingZeros 25 = .ok (.iinc 1 (-16), 3) := by decide +kernel
theorem d_JI_numberOfLeadingZeros_28 : decode c_JI_numberOfLeadingZeros 28 = .ok (.iload_n 0, 1) := by decide +kernel
theorem d_JI_numberOfLeadingZeros_29 : decode c_JI_numberOfLeadingZeros 29 = .ok (.bipush 16, 2) := by decide +kernel
theorem d_JI_numberOfLeadingZeros_31 : decode c_JI_numberOfLeadingZeros 31 = .ok (.iushr, 1) := by decide +kernel
theorem d_JI_numberOfLeadingZeros_32 : decode c_JI_numberOfLeadingZeros 32 = .ok (.istore_n 0, 1) := by decide +kernel
theorem d_JI_numberOfLeadingZeros_33 : decode c_JI_numberOfLeadingZeros 33 = .ok (.iload_n 0, 1) := by decide +kernel
theorem d_JI_numberOfLeadingZeros_34 : decode c_JI_numberOfLeadingZeros 34 = .ok (.sipush 256, 3) := by decide +kernel
theorem d_JI_numberOfLeadingZeros_37 : decode c_JI_numberOfLeadingZeros 37 = .ok (.if_icmp .lt 11, 3) := by decide +kernel
theorem d_JI_numberOfLeadingZeros_40 : decode c_JI_numberOfLeadingZeros 40 = .ok (.iinc 1 (-8), 3) := by decide +kernel
theorem d_JI_numberOfLeadingZeros_43 : decode c_JI_numberOfLeadingZeros 43 = .ok (.iload_n 0, 1) := by decide +kernel
theorem d_JI_numberOfLeadingZeros_44 : decode c_JI_numberOfLeadingZeros 44 = .ok (.bipush 8, 2) := by decide +kernel
theorem d_JI_numberOfLeadingZeros_46 : decode c_JI_numberOfLeadingZeros 46 = .ok (.iushr, 1) := by decide +kernel
theorem d_JI_numberOfLeadingZeros_47 : decode c_JI_numberOfLeadingZeros 47 = .ok (.istore_n 0, 1) := by decide +kernel
theorem d_JI_numberOfLeadingZeros_48 : decode c_JI_numberOfLeadingZeros 48 = .ok (.iload_n 0, 1) := by decide +kernel
theorem d_JI_numberOfLeadingZeros_49 : decode c_JI_numberOfLeadingZeros 49 = .ok (.bipush 16, 2) := by decide +kernel
theorem d_JI_numberOfLeadingZeros_51 : decode c_JI_numberOfLeadingZeros 51 = .ok (.if_icmp .lt 10, 3) := by decide +kernel
theorem d_JI_numberOfLeadingZeros_54 : decode c_JI_numberOfLeadingZeros 54 = .ok (.iinc 1 (-4), 3) := by decide +kernel
theorem d_JI_numberOfLeadingZeros_57 : decode c_JI_numberOfLeadingZeros 57 = .ok (.iload_n 0, 1) := by decide +kernel
theorem d_JI_numberOfLeadingZeros_58 : decode c_JI_numberOfLeadingZeros 58 = .ok (.iconst 4, 1) := by decide +kernel
theorem d_JI_numberOfLeadingZeros_59 : decode c_JI_numberOfLeadingZeros 59 = .ok (.iushr, 1) := by decide +kernel
theorem d_JI_numberOfLeadingZeros_60 : decode c_JI_numberOfLeadingZeros 60 = .ok (.istore_n 0, 1) := by decide +kernel
theorem d_JI_numberOfLeadingZeros_61 : decode c_JI_numberOfLeadingZeros 61 = .ok (.iload_n 0, 1) := by decide +kernel
theorem d_JI_numberOfLeadingZeros_62 : decode c_JI_numberOfLeadingZeros 62 = .ok (.iconst 4, 1) := by decide +kernel
theorem d_JI_numberOfLeadingZeros_63 : decode c_JI_numberOfLeadingZeros 63 = .ok (.if_icmp .lt 10, 3) := by decide +kernel
theorem d_JI_numberOfLeadingZeros_66 : decode c_JI_numberOfLeadingZeros 66 = .ok (.iinc 1 (-2), 3) := by decide +kernel
theorem d_JI_numberOfLeadingZeros_69 : decode c_JI_numberOfLeadingZeros 69 = .ok (.iload_n 0, 1) := by decide +kernel
theorem d_JI_numberOfLeadingZeros_70 : decode c_JI_numberOfLeadingZeros 70 = .ok (.iconst 2, 1) := by decide +kernel
theorem d_JI_numberOfLeadingZeros_71 : decode c_JI_numberOfLeadingZeros 71 = .ok (.iushr, 1) := by decide +kernel
theorem d_JI_numberOfLeadingZeros_72 : decode c_JI_numberOfLeadingZeros 72 = .ok (.istore_n 0, 1) := by decide +kernel
theorem d_JI_numberOfLeadingZeros_73 : decode c_JI_numberOfLeadingZeros 73 = .ok (.iload_n 1, 1) := by decide +kernel
theorem d_JI_numberOfLeadingZeros_74 : decode c_JI_numberOfLeadingZeros 74 = .ok (.iload_n 0, 1) := by decide +kernel
theorem d_JI_numberOfLeadingZeros_75 : decode c_JI_numberOfLeadingZeros 75 = .ok (.iconst 1, 1) := by decide +kernel
theorem d_JI_numberOfLeadingZeros_76 : decode c_JI_numberOfLeadingZeros 76 = .ok (.iushr, 1) := by decide +kernel
theorem d_JI_numberOfLeadingZeros_77 : decode c_JI_numberOfLeadingZeros 77 = .ok (.isub, 1) := by decide +kernel
theorem d_JI_numberOfLeadingZeros_78 : decode c_JI_numberOfLeadingZeros 78 = .ok (.ireturn, 1) := by decide +kernel
theorem d_H_zero_0 : decode c_H_zero 0 = .ok (.aload_n 0, 1) := by decide +kernel
theorem d_H_zero_1 : decode c_H_zero 1 = .ok (.iload_n 1, 1) := by decide +kernel
theorem d_H_zero_2 : decode c_H_zero 2 = .ok (.aload_n 0, 1) := by decide +kernel
theorem d_H_zero_3 : decode c_H_zero 3 = .ok (.getfield 9, 3) := by decide +kernel
theorem d_H_zero_6 : decode c_H_zero 6 = .ok (.arraylength, 1) := by decide +kernel
theorem d_H_zero_7 : decode c_H_zero 7 = .ok (.invokestatic 25, 3) := by decide +kernel
theorem d_H_zero_10 : decode c_H_zero 10 = .ok (.putfield 15, 3) := by decide +kernel
theorem d_H_zero_13 : decode c_H_zero 13 = .ok (.aload_n 0, 1) := by decide +kernel
theorem d_H_zero_14 : decode c_H_zero 14 = .ok (.getfield 9, 3) := by decide +kernel
theorem d_H_zero_17 : decode c_H_zero 17 = .ok (.iconst 0, 1) := by decide +kernel
theorem d_H_zero_18 : decode c_H_zero 18 = .ok (.aload_n 0, 1) := by decide +kernel
theorem d_H_zero_19 : decode c_H_zero 19 = .ok (.getfield 15, 3) := by decide +kernel
theorem d_H_zero_22 : decode c_H_zero 22 = .ok (.iconst 0, 1) := by decide +kernel
theorem d_H_zero_23 : decode c_H_zero 23 = .ok (.invokestatic 69, 3) := by decide +kernel
theorem d_H_zero_26 : decode c_H_zero 26 = .ok (.return_, 1) := by decide +kernel
theorem d_JA_fillI_0 : decode c_JA_fillI 0 = .ok (.aload_n 0, 1) := by decide +kernel
theorem d_JA_fillI_1 : decode c_JA_fillI 1 = .ok (.arraylength, 1) := by decide +kernel
theorem d_JA_fillI_2 : decode c_JA_fillI 2 = .ok (.iload_n 1, 1) := by decide +kernel
theorem d_JA_fillI_3 : decode c_JA_fillI 3 = .ok (.iload_n 2, 1) := by decide +kernel
theorem d_JA_fillI_4 : decode c_JA_fillI 4 = .ok (.invokestatic 13, 3) := by decide +kernel
theorem d_JA_fillI_7 : decode c_JA_fillI 7 = .ok (.iload_n 1, 1) := by decide +kernel
theorem d_JA_fillI_8 : decode c_JA_fillI 8 = .ok (.istore 4, 2) := by decide +kernel
theorem d_JA_fillI_10 : decode c_JA_fillI 10 = .ok (.iload 4, 2) := by decide +kernel
theorem d_JA_fillI_12 : decode c_JA_fillI 12 = .ok (.iload_n 2, 1) := by decide +kernel
theorem d_JA_fillI_13 : decode c_JA_fillI 13 = .ok (.if_icmp .ge 14, 3) := by decide +kernel
theorem d_JA_fillI_16 : decode c_JA_fillI 16 = .ok (.aload_n 0, 1) := by decide +kernel
theorem d_JA_fillI_17 : decode c_JA_fillI 17 = .ok (.iload 4, 2) := by decide +kernel
theorem d_JA_fillI_19 : decode c_JA_fillI 19 = .ok (.iload_n 3, 1) := by decide +kernel
theorem d_JA_fillI_20 : decode c_JA_fillI 20 = .ok (.iastore, 1) := by decide +kernel
theorem d_JA_fillI_21 : decode c_JA_fillI 21 = .ok (.iinc 4 1, 3) := by decide +kernel
theorem d_JA_fillI_24 : decode c_JA_fillI 24 = .ok (.goto (-14), 3) := by decide +kernel
theorem d_JA_fillI_27 : decode c_JA_fillI 27 = .ok (.return_, 1) := by decide +kernel
theorem d_JA_rangeCheck_0 : decode c_JA_rangeCheck 0 = .ok (.iload_n 1, 1) := by decide +kernel
theorem d_JA_rangeCheck_1 : decode c_JA_rangeCheck 1 = .ok (.iload_n 2, 1) := by decide +kernel
theorem d_JA_rangeCheck_2 : decode c_JA_rangeCheck 2 = .ok (.if_icmp .le 44, 3) := by decide +kernel
theorem d_JA_rangeCheck_5 : decode c_JA_rangeCheck 5 = .ok (.new 43, 3) := by decide +kernel
theorem d_JA_rangeCheck_8 : decode c_JA_rangeCheck 8 = .ok (.dup, 1) := by decide +kernel
theorem d_JA_rangeCheck_9 : decode c_JA_rangeCheck 9 = .ok (.new 45, 3) := by decide +kernel
theorem d_JA_rangeCheck_12 : decode c_JA_rangeCheck 12 = .ok (.dup, 1) := by decide +kernel
theorem d_JA_rangeCheck_13 : decode c_JA_rangeCheck 13 = .ok (.invokespecial 47, 3) := by decide +kernel
theorem d_JA_rangeCheck_16 : decode c_JA_rangeCheck 16 = .ok (.ldc 48, 2) := by decide +kernel
theorem d_JA_rangeCheck_18 : decode c_JA_rangeCheck 18 = .ok (.invokevirtual 50, 3) := by decide +kernel
theorem d_JA_rangeCheck_21 : decode c_JA_rangeCheck 21 = .ok (.iload_n 1, 1) := by decide +kernel
theorem d_JA_rangeCheck_22 : decode c_JA_rangeCheck 22 = .ok (.invokevirtual 54, 3) := by decide +kernel
theorem d_JA_rangeCheck_25 : decode c_JA_rangeCheck 25 = .ok (.ldc 57, 2) := by decide +kernel
theorem d_JA_rangeCheck_27 : decode c_JA_rangeCheck 27 = .ok (.invokevirtual 50, 3) := by decide +kernel
theorem d_JA_rangeCheck_30 : decode c_JA_rangeCheck 30 = .ok (.iload_n 2, 1) := by decide +kernel
theorem d_JA_rangeCheck_31 : decode c_JA_rangeCheck 31 = .ok (.invokevirtual 54, 3) := by decide +kernel
theorem d_JA_rangeCheck_34 : decode c_JA_rangeCheck 34 = .ok (.ldc 59, 2) := by decide +kernel
theorem d_JA_rangeCheck_36 : decode c_JA_rangeCheck 36 = .ok (.invokevirtual 50, 3) := by decide +kernel
theorem d_JA_rangeCheck_39 : decode c_JA_rangeCheck 39 = .ok (.invokevirtual 61, 3) := by decide +kernel
theorem d_JA_rangeCheck_42 : decode c_JA_rangeCheck 42 = .ok (.invokespecial 65, 3) := by decide +kernel
theorem d_JA_rangeCheck_45 : decode c_JA_rangeCheck 45 = .ok (.athrow, 1) := by decide +kernel
theorem d_JA_rangeCheck_46 : decode c_JA_rangeCheck 46 = .ok (.iload_n 1, 1) := by decide +kernel
theorem d_JA_rangeCheck_47 : decode c_JA_rangeCheck 47 = .ok (.ifCond .ge 12, 3) := by decide +kernel
theorem d_JA_rangeCheck_50 : decode c_JA_rangeCheck 50 = .ok (.new 68, 3) := by decide +kernel
theorem d_JA_rangeCheck_53 : decode c_JA_rangeCheck 53 = .ok (.dup, 1) := by decide +kernel
theorem d_JA_rangeCheck_54 : decode c_JA_rangeCheck 54 = .ok (.iload_n 1, 1) := by decide +kernel
theorem d_JA_rangeCheck_55 : decode c_JA_rangeCheck 55 = .ok (.invokespecial 70, 3) := by decide +kernel
theorem d_JA_rangeCheck_58 : decode c_JA_rangeCheck 58 = .ok (.athrow, 1) := by decide +kernel
theorem d_JA_rangeCheck_59 : decode c_JA_rangeCheck 59 = .ok (.iload_n 2, 1) := by decide +kernel
theorem d_JA_rangeCheck_60 : decode c_JA_rangeCheck 60 = .ok (.iload_n 0, 1) := by decide +kernel
theorem d_JA_rangeCheck_61 : decode c_JA_rangeCheck 61 = .ok (.if_icmp .le 12, 3) := by decide +kernel
theorem d_JA_rangeCheck_64 : decode c_JA_rangeCheck 64 = .ok (.new 68, 3) := by decide +kernel
theorem d_JA_rangeCheck_67 : decode c_JA_rangeCheck 67 = .ok (.dup, 1) := by decide +kernel
theorem d_JA_rangeCheck_68 : decode c_JA_rangeCheck 68 = .ok (.iload_n 2, 1) := by decide +kernel
theorem d_JA_rangeCheck_69 : decode c_JA_rangeCheck 69 = .ok (.invokespecial 70, 3) := by decide +kernel
theorem d_JA_rangeCheck_72 : decode c_JA_rangeCheck 72 = .ok (.athrow, 1) := by decide +kernel
theorem d_JA_rangeCheck_73 : decode c_JA_rangeCheck 73 = .ok (.return_, 1) := by decide +kernel
theorem d_H_lift_0 : decode c_H_lift 0 = .ok (.iload_n 1, 1) := by decide +kernel
theorem d_H_lift_1 : decode c_H_lift 1 = .ok (.bipush 30, 2) := by decide +kernel
theorem d_H_lift_3 : decode c_H_lift 3 = .ok (.idiv, 1) := by decide +kernel
theorem d_H_lift_4 : decode c_H_lift 4 = .ok (.istore_n 2, 1) := by decide +kernel
theorem d_H_lift_5 : decode c_H_lift 5 = .ok (.aload_n 0, 1) := by decide +kernel
theorem d_H_lift_6 : decode c_H_lift 6 = .ok (.getfield 15, 3) := by decide +kernel
theorem d_H_lift_9 : decode c_H_lift 9 = .ok (.ifCond .le 65, 3) := by decide +kernel
theorem d_H_lift_12 : decode c_H_lift 12 = .ok (.aload_n 0, 1) := by decide +kernel
theorem d_H_lift_13 : decode c_H_lift 13 = .ok (.getfield 15, 3) := by decide +kernel
theorem d_H_lift_16 : decode c_H_lift 16 = .ok (.iload_n 2, 1) := by decide +kernel
theorem d_H_lift_17 : decode c_H_lift 17 = .ok (.iadd, 1) := by decide +kernel
theorem d_H_lift_18 : decode c_H_lift 18 = .ok (.aload_n 0, 1) := by decide +kernel
theorem d_H_lift_19 : decode c_H_lift 19 = .ok (.getfield 9, 3) := by decide +kernel
theorem d_H_lift_22 : decode c_H_lift 22 = .ok (.arraylength, 1) := by decide +kernel
theorem d_H_lift_23 : decode c_H_lift 23 = .ok (.if_icmp .gt 51, 3) := by decide +kernel
theorem d_H_lift_26 : decode c_H_lift 26 = .ok (.aload_n 0, 1) := by decide +kernel
theorem d_H_lift_27 : decode c_H_lift 27 = .ok (.getfield 9, 3) := by decide +kernel
theorem d_H_lift_30 : decode c_H_lift 30 = .ok (.iconst 0, 1) := by decide +kernel
theorem d_H_lift_31 : decode c_H_lift 31 = .ok (.aload_n 0, 1) := by decide +kernel
theorem d_H_lift_32 : decode c_H_lift 32 = .ok (.getfield 9, 3) := by decide +kernel
theorem d_H_lift_35 : decode c_H_lift 35 = .ok (.iload_n 2, 1) := by decide +kernel
theorem d_H_lift_36 : decode c_H_lift 36 = .ok (.aload_n 0, 1) := by decide +kernel
theorem d_H_lift_37 : decode c_H_lift 37 = .ok (.getfield 15, 3) := by decide +kernel
theorem d_H_lift_40 : decode c_H_lift 40 = .ok (.invokestatic 31, 3) := by decide +kernel
theorem d_H_lift_43 : decode c_H_lift 43 = .ok (.aload_n 0, 1) := by decide +kernel
theorem d_H_lift_44 : decode c_H_lift 44 = .ok (.getfield 9, 3) := by decide +kernel
theorem d_H_lift_47 : decode c_H_lift 47 = .ok (.iconst 0, 1) := by decide +kernel
theorem d_H_lift_48 : decode c_H_lift 48 = .ok (.iload_n 2, 1) := by decide +kernel
theorem d_H_lift_49 : decode c_H_lift 49 = .ok (.iconst 0, 1) := by decide +kernel
theorem d_H_lift_50 : decode c_H_lift 50 = .ok (.invokestatic 69, 3) := by decide +kernel
theorem d_H_lift_53 : decode c_H_lift 53 = .ok (.aload_n 0, 1) := by decide +kernel
theorem d_H_lift_54 : decode c_H_lift 54 = .ok (.dup, 1) := by decide +kernel
theorem d_H_lift_55 : decode c_H_lift 55 = .ok (.getfield 15, 3) := by decide +kernel
theorem d_H_lift_58 : decode c_H_lift 58 = .ok (.iload_n 2, 1) := by decide +kernel
theorem d_H_lift_59 : decode c_H_lift 59 = .ok (.iadd, 1) := by decide +kernel
theorem d_H_lift_60 : decode c_H_lift 60 = .ok (.putfield 15, 3) := by decide +kernel
theorem d_H_lift_63 : decode c_H_lift 63 = .ok (.aload_n 0, 1) := by decide +kernel
theorem d_H_lift_64 : decode c_H_lift 64 = .ok (.iconst 1, 1) := by decide +kernel
theorem d_H_lift_65 : decode c_H_lift 65 = .ok (.iload_n 1, 1) := by decide +kernel
theorem d_H_lift_66 : decode c_H_lift 66 = .ok (.bipush 30, 2) := by decide +kernel
theorem d_H_lift_68 : decode c_H_lift 68 = .ok (.irem, 1) := by decide +kernel
theorem d_H_lift_69 : decode c_H_lift 69 = .ok (.ishl, 1) := by decide +kernel
theorem d_H_lift_70 : decode c_H_lift 70 = .ok (.iconst 0, 1) := by decide +kernel
theorem d_H_lift_71 : decode c_H_lift 71 = .ok (.invokevirtual 62, 3) := by decide +kernel
theorem d_H_lift_74 : decode c_H_lift 74 = .ok (.return_, 1) := by decide +kernel
theorem d_H_scale_0 : decode c_H_scale 0 = .ok (.iload_n 2, 1) := by decide +kernel
theorem d_H_scale_1 : decode c_H_scale 1 = .ok (.i2l, 1) := by decide +kernel
theorem d_H_scale_2 : decode c_H_scale 2 = .ok (.lstore_n 3, 1) := by decide +kernel
theorem d_H_scale_3 : decode c_H_scale 3 = .ok (.iconst 0, 1) := by decide +kernel
theorem d_H_scale_4 : decode c_H_scale 4 = .ok (.istore 5, 2) := by decide +kernel
theorem d_H_scale_6 : decode c_H_scale 6 = .ok (.iload 5, 2) := by decide +kernel
theorem d_H_scale_8 : decode c_H_scale 8 = .ok (.aload_n 0, 1) := by decide +kernel
theorem d_H_scale_9 : decode c_H_scale 9 = .ok (.getfield 15, 3) := by decide +kernel
theorem d_H_scale_12 : decode c_H_scale 12 = .ok (.if_icmp .ge 41, 3) := by decide +kernel
theorem d_H_scale_15 : decode c_H_scale 15 = .ok (.lload_n 3, 1) := by decide +kernel
theorem d_H_scale_16 : decode c_H_scale 16 = .ok (.aload_n 0, 1) := by decide +kernel
theorem d_H_scale_17 : decode c_H_scale 17 = .ok (.getfield 9, 3) := by decide +kernel
theorem d_H_scale_20 : decode c_H_scale 20 = .ok (.iload 5, 2) := by decide +kernel
theorem d_H_scale_22 : decode c_H_scale 22 = .ok (.iaload, 1) := by decide +kernel
theorem d_H_scale_23 : decode c_H_scale 23 = .ok (.i2l, 1) := by decide +kernel
theorem d_H_scale_24 : decode c_H_scale 24 = .ok (.iload_n 1, 1) := by decide +kernel
theorem d_H_scale_25 : decode c_H_scale 25 = .ok (.i2l, 1) := by decide +kernel
theorem d_H_scale_26 : decode c_H_scale 26 = .ok (.lmul, 1) := by decide +kernel
theorem d_H_scale_27 : decode c_H_scale 27 = .ok (.ladd, 1) := by decide +kernel
theorem d_H_scale_28 : decode c_H_scale 28 = .ok (.lstore_n 3, 1) := by decide +kernel
theorem d_H_scale_29 : decode c_H_scale 29 = .ok (.aload_n 0, 1) := by decide +kernel
theorem d_H_scale_30 : decode c_H_scale 30 = .ok (.getfield 9, 3) := by decide +kernel
theorem d_H_scale_33 : decode c_H_scale 33 = .ok (.iload 5, 2) := by decide +kernel
theorem d_H_scale_35 : decode c_H_scale 35 = .ok (.lload_n 3, 1) := by decide +kernel
theorem d_H_scale_36 : decode c_H_scale 36 = .ok (.ldc2_w 19, 3) := by decide +kernel
theorem d_H_scale_39 : decode c_H_scale 39 = .ok (.land, 1) := by decide +kernel
theorem d_H_scale_40 : decode c_H_scale 40 = .ok (.l2i, 1) := by decide +kernel
theorem d_H_scale_41 : decode c_H_scale 41 = .ok (.iastore, 1) := by decide +kernel
theorem d_H_scale_42 : decode c_H_scale 42 = .ok (.lload_n 3, 1) := by decide +kernel
theorem d_H_scale_43 : decode c_H_scale 43 = .ok (.bipush 30, 2) := by decide +kernel
theorem d_H_scale_45 : decode c_H_scale 45 = .ok (.lshr, 1) := by decide +kernel
theorem d_H_scale_46 : decode c_H_scale 46 = .ok (.lstore_n 3, 1) := by decide +kernel
theorem d_H_scale_47 : decode c_H_scale 47 = .ok (.iinc 5 1, 3) := by decide +kernel
theorem d_H_scale_50 : decode c_H_scale 50 = .ok (.goto (-44), 3) := by decide +kernel
theorem d_H_scale_53 : decode c_H_scale 53 = .ok (.aload_n 0, 1) := by decide +kernel
theorem d_H_scale_54 : decode c_H_scale 54 = .ok (.lload_n 3, 1) := by decide +kernel
theorem d_H_scale_55 : decode c_H_scale 55 = .ok (.l2i, 1) := by decide +kernel
theorem d_H_scale_56 : decode c_H_scale 56 = .ok (.invokevirtual 51, 3) := by decide +kernel
theorem d_H_scale_59 : decode c_H_scale 59 = .ok (.return_, 1) := by decide +kernel
theorem d_H_append_0 : decode c_H_append 0 = .ok (.iload_n 1, 1) := by decide +kernel
theorem d_H_append_1 : decode c_H_append 1 = .ok (.ifCond .eq 35, 3) := by decide +kernel
theorem d_H_append_4 : decode c_H_append 4 = .ok (.aload_n 0, 1) := by decide +kernel
theorem d_H_append_5 : decode c_H_append 5 = .ok (.getfield 15, 3) := by decide +kernel
theorem d_H_append_8 : decode c_H_append 8 = .ok (.aload_n 0, 1) := by decide +kernel
theorem d_H_append_9 : decode c_H_append 9 = .ok (.getfield 9, 3) := by decide +kernel
theorem d_H_append_12 : decode c_H_append 12 = .ok (.arraylength, 1) := by decide +kernel
theorem d_H_append_13 : decode c_H_append 13 = .ok (.if_icmp .ge 23, 3) := by decide +kernel
theorem d_H_append_16 : decode c_H_append 16 = .ok (.aload_n 0, 1) := by decide +kernel
theorem d_H_append_17 : decode c_H_append 17 = .ok (.getfield 9, 3) := by decide +kernel
theorem d_H_append_20 : decode c_H_append 20 = .ok (.aload_n 0, 1) := by decide +kernel
theorem d_H_append_21 : decode c_H_append 21 = .ok (.getfield 15, 3) := by decide +kernel
theorem d_H_append_24 : decode c_H_append 24 = .ok (.iload_n 1, 1) := by decide +kernel
theorem d_H_append_25 : decode c_H_append 25 = .ok (.iastore, 1) := by decide +kernel
theorem d_H_append_26 : decode c_H_append 26 = .ok (.aload_n 0, 1) := by decide +kernel
theorem d_H_append_27 : decode c_H_append 27 = .ok (.dup, 1) := by decide +kernel
theorem d_H_append_28 : decode c_H_append 28 = .ok (.getfield 15, 3) := by decide +kernel
theorem d_H_append_31 : decode c_H_append 31 = .ok (.iconst 1, 1) := by decide +kernel
theorem d_H_append_32 : decode c_H_append 32 = .ok (.iadd, 1) := by decide +kernel
theorem d_H_append_33 : decode c_H_append 33 = .ok (.putfield 15, 3) := by decide +kernel
theorem d_H_append_36 : decode c_H_append 36 = .ok (.return_, 1) := by decide +kernel
theorem d_H_takeAway_0 : decode c_H_takeAway 0 = .ok (.lconst 0, 1) := by decide +kernel
theorem d_H_takeAway_1 : decode c_H_takeAway 1 = .ok (.lstore 7, 2) := by decide +kernel
theorem d_H_takeAway_3 : decode c_H_takeAway 3 = .ok (.iload_n 1, 1) := by decide +kernel
theorem d_H_takeAway_4 : decode c_H_takeAway 4 = .ok (.iload 4, 2) := by decide +kernel
theorem d_H_takeAway_6 : decode c_H_takeAway 6 = .ok (.iadd, 1) := by decide +kernel
theorem d_H_takeAway_7 : decode c_H_takeAway 7 = .ok (.aload_n 0, 1) := by decide +kernel
theorem d_H_takeAway_8 : decode c_H_takeAway 8 = .ok (.getfield 9, 3) := by decide +kernel
theorem d_H_takeAway_11 : decode c_H_takeAway 11 = .ok (.arraylength, 1) := by decide +kernel
theorem d_H_takeAway_12 : decode c_H_takeAway 12 = .ok (.if_icmp .ge 15, 3) := by decide +kernel
theorem d_H_takeAway_15 : decode c_H_takeAway 15 = .ok (.iload_n 3, 1) := by decide +kernel
theorem d_H_takeAway_16 : decode c_H_takeAway 16 = .ok (.iload 4, 2) := by decide +kernel
theorem d_H_takeAway_18 : decode c_H_takeAway 18 = .ok (.iadd, 1) := by decide +kernel
theorem d_H_takeAway_19 : decode c_H_takeAway 19 = .ok (.aload_n 2, 1) := by decide +kernel
theorem d_H_takeAway_20 : decode c_H_takeAway 20 = .ok (.getfield 9, 3) := by decide +kernel
theorem d_H_takeAway_23 : decode c_H_takeAway 23 = .ok (.arraylength, 1) := by decide +kernel
theorem d_H_takeAway_24 : decode c_H_takeAway 24 = .ok (.if_icmp .le 5, 3) := by decide +kernel
theorem d_H_takeAway_27 : decode c_H_takeAway 27 = .ok (.iconst 0, 1) := by decide +kernel
theorem d_H_takeAway_28 : decode c_H_takeAway 28 = .ok (.ireturn, 1) := by decide +kernel
theorem d_H_takeAway_29 : decode c_H_takeAway 29 = .ok (.iconst 0, 1) := by decide +kernel
theorem d_H_takeAway_30 : decode c_H_takeAway 30 = .ok (.istore 9, 2) := by decide +kernel
theorem d_H_takeAway_32 : decode c_H_takeAway 32 = .ok (.iload 9, 2) := by decide +kernel
theorem d_H_takeAway_34 : decode c_H_takeAway 34 = .ok (.iload 4, 2) := by decide +kernel
theorem d_H_takeAway_36 : decode c_H_takeAway 36 = .ok (.if_icmp .ge 61, 3) := by decide +kernel
theorem d_H_takeAway_39 : decode c_H_takeAway 39 = .ok (.lload 7, 2) := by decide +kernel
theorem d_H_takeAway_41 : decode c_H_takeAway 41 = .ok (.aload_n 0, 1) := by decide +kernel
theorem d_H_takeAway_42 : decode c_H_takeAway 42 = .ok (.getfield 9, 3) := by decide +kernel
theorem d_H_takeAway_45 : decode c_H_takeAway 45 = .ok (.iload_n 1, 1) := by decide +kernel
theorem d_H_takeAway_46 : decode c_H_takeAway 46 = .ok (.iload 9, 2) := by decide +kernel
theorem d_H_takeAway_48 : decode c_H_takeAway 48 = .ok (.iadd, 1) := by decide +kernel
theorem d_H_takeAway_49 : decode c_H_takeAway 49 = .ok (.iaload, 1) := by decide +kernel
theorem d_H_takeAway_50 : decode c_H_takeAway 50 = .ok (.i2l, 1) := by decide +kernel
theorem d_H_takeAway_51 : decode c_H_takeAway 51 = .ok (.lload 5, 2) := by decide +kernel
theorem d_H_takeAway_53 : decode c_H_takeAway 53 = .ok (.aload_n 2, 1) := by decide +kernel
theorem d_H_takeAway_54 : decode c_H_takeAway 54 = .ok (.getfield 9, 3) := by decide +kernel
theorem d_H_takeAway_57 : decode c_H_takeAway 57 = .ok (.iload_n 3, 1) := by decide +kernel
theorem d_H_takeAway_58 : decode c_H_takeAway 58 = .ok (.iload 9, 2) := by decide +kernel
theorem d_H_takeAway_60 : decode c_H_takeAway 60 = .ok (.iadd, 1) := by decide +kernel
theorem d_H_takeAway_61 : decode c_H_takeAway 61 = .ok (.iaload, 1) := by decide +kernel
theorem d_H_takeAway_62 : decode c_H_takeAway 62 = .ok (.i2l, 1) := by decide +kernel
theorem d_H_takeAway_63 : decode c_H_takeAway 63 = .ok (.lmul, 1) := by decide +kernel
theorem d_H_takeAway_64 : decode c_H_takeAway 64 = .ok (.lsub, 1) := by decide +kernel
theorem d_H_takeAway_65 : decode c_H_takeAway 65 = .ok (.ladd, 1) := by decide +kernel
theorem d_H_takeAway_66 : decode c_H_takeAway 66 = .ok (.lstore 7, 2) := by decide +kernel
theorem d_H_takeAway_68 : decode c_H_takeAway 68 = .ok (.aload_n 0, 1) := by decide +kernel
theorem d_H_takeAway_69 : decode c_H_takeAway 69 = .ok (.getfield 9, 3) := by decide +kernel
theorem d_H_takeAway_72 : decode c_H_takeAway 72 = .ok (.iload_n 1, 1) := by decide +kernel
theorem d_H_takeAway_73 : decode c_H_takeAway 73 = .ok (.iload 9, 2) := by decide +kernel
theorem d_H_takeAway_75 : decode c_H_takeAway 75 = .ok (.iadd, 1) := by decide +kernel
theorem d_H_takeAway_76 : decode c_H_takeAway 76 = .ok (.lload 7, 2) := by decide +kernel
theorem d_H_takeAway_78 : decode c_H_takeAway 78 = .ok (.ldc2_w 19, 3) := by decide +kernel
theorem d_H_takeAway_81 : decode c_H_takeAway 81 = .ok (.land, 1) := by decide +kernel
theorem d_H_takeAway_82 : decode c_H_takeAway 82 = .ok (.l2i, 1) := by decide +kernel
theorem d_H_takeAway_83 : decode c_H_takeAway 83 = .ok (.iastore, 1) := by decide +kernel
theorem d_H_takeAway_84 : decode c_H_takeAway 84 = .ok (.lload 7, 2) := by decide +kernel
theorem d_H_takeAway_86 : decode c_H_takeAway 86 = .ok (.bipush 30, 2) := by decide +kernel
theorem d_H_takeAway_88 : decode c_H_takeAway 88 = .ok (.lshr, 1) := by decide +kernel
theorem d_H_takeAway_89 : decode c_H_takeAway 89 = .ok (.lstore 7, 2) := by decide +kernel
theorem d_H_takeAway_91 : decode c_H_takeAway 91 = .ok (.iinc 9 1, 3) := by decide +kernel
theorem d_H_takeAway_94 : decode c_H_takeAway 94 = .ok (.goto (-62), 3) := by decide +kernel
theorem d_H_takeAway_97 : decode c_H_takeAway 97 = .ok (.lload 7, 2) := by decide +kernel
theorem d_H_takeAway_99 : decode c_H_takeAway 99 = .ok (.aload_n 0, 1) := by decide +kernel
theorem d_H_takeAway_100 : decode c_H_takeAway 100 = .ok (.getfield 9, 3) := by decide +kernel
theorem d_H_takeAway_103 : decode c_H_takeAway 103 = .ok (.iload_n 1, 1) := by decide +kernel
theorem d_H_takeAway_104 : decode c_H_takeAway 104 = .ok (.iload 4, 2) := by decide +kernel
theorem d_H_takeAway_106 : decode c_H_takeAway 106 = .ok (.iadd, 1) := by decide +kernel
theorem d_H_takeAway_107 : decode c_H_takeAway 107 = .ok (.iaload, 1) := by decide +kernel
theorem d_H_takeAway_108 : decode c_H_takeAway 108 = .ok (.i2l, 1) := by decide +kernel
theorem d_H_takeAway_109 : decode c_H_takeAway 109 = .ok (.ladd, 1) := by decide +kernel
theorem d_H_takeAway_110 : decode c_H_takeAway 110 = .ok (.lstore 7, 2) := by decide +kernel
theorem d_H_takeAway_112 : decode c_H_takeAway 112 = .ok (.aload_n 0, 1) := by decide +kernel
theorem d_H_takeAway_113 : decode c_H_takeAway 113 = .ok (.getfield 9, 3) := by decide +kernel
theorem d_H_takeAway_116 : decode c_H_takeAway 116 = .ok (.iload_n 1, 1) := by decide +kernel
theorem d_H_takeAway_117 : decode c_H_takeAway 117 = .ok (.iload 4, 2) := by decide +kernel
theorem d_H_takeAway_119 : decode c_H_takeAway 119 = .ok (.iadd, 1) := by decide +kernel
theorem d_H_takeAway_120 : decode c_H_takeAway 120 = .ok (.lload 7, 2) := by decide +kernel
theorem d_H_takeAway_122 : decode c_H_takeAway 122 = .ok (.ldc2_w 19, 3) := by decide +kernel
theorem d_H_takeAway_125 : decode c_H_takeAway 125 = .ok (.land, 1) := by decide +kernel
theorem d_H_takeAway_126 : decode c_H_takeAway 126 = .ok (.l2i, 1) := by decide +kernel
theorem d_H_takeAway_127 : decode c_H_takeAway 127 = .ok (.iastore, 1) := by decide +kernel
theorem d_H_takeAway_128 : decode c_H_takeAway 128 = .ok (.lload 7, 2) := by decide +kernel
theorem d_H_takeAway_130 : decode c_H_takeAway 130 = .ok (.bipush 30, 2) := by decide +kernel
theorem d_H_takeAway_132 : decode c_H_takeAway 132 = .ok (.lshr, 1) := by decide +kernel
theorem d_H_takeAway_133 : decode c_H_takeAway 133 = .ok (.l2i, 1) := by decide +kernel
theorem d_H_takeAway_134 : decode c_H_takeAway 134 = .ok (.ireturn, 1) := by decide +kernel
theorem d_H_lower_0 : decode c_H_lower 0 = .ok (.aload_n 0, 1) := by decide +kernel
theorem d_H_lower_1 : decode c_H_lower 1 = .ok (.iload_n 1, 1) := by decide +kernel
theorem d_H_lower_2 : decode c_H_lower 2 = .ok (.bipush 30, 2) := by decide +kernel
theorem d_H_lower_4 : decode c_H_lower 4 = .ok (.idiv, 1) := by decide +kernel
theorem d_H_lower_5 : decode c_H_lower 5 = .ok (.invokevirtual 75, 3) := by decide +kernel
theorem d_H_lower_8 : decode c_H_lower 8 = .ok (.aload_n 0, 1) := by decide +kernel
theorem d_H_lower_9 : decode c_H_lower 9 = .ok (.iconst 1, 1) := by decide +kernel
theorem d_H_lower_10 : decode c_H_lower 10 = .ok (.iload_n 1, 1) := by decide +kernel
theorem d_H_lower_11 : decode c_H_lower 11 = .ok (.bipush 30, 2) := by decide +kernel
theorem d_H_lower_13 : decode c_H_lower 13 = .ok (.irem, 1) := by decide +kernel
theorem d_H_lower_14 : decode c_H_lower 14 = .ok (.ishl, 1) := by decide +kernel
theorem d_H_lower_15 : decode c_H_lower 15 = .ok (.invokevirtual 78, 3) := by decide +kernel
theorem d_H_lower_18 : decode c_H_lower 18 = .ok (.pop, 1) := by decide +kernel
theorem d_H_lower_19 : decode c_H_lower 19 = .ok (.return_, 1) := by decide +kernel
theorem d_H_drop_0 : decode c_H_drop 0 = .ok (.iconst 0, 1) := by decide +kernel
theorem d_H_drop_1 : decode c_H_drop 1 = .ok (.aload_n 0, 1) := by decide +kernel
theorem d_H_drop_2 : decode c_H_drop 2 = .ok (.getfield 15, 3) := by decide +kernel
theorem d_H_drop_5 : decode c_H_drop 5 = .ok (.iload_n 1, 1) := by decide +kernel
theorem d_H_drop_6 : decode c_H_drop 6 = .ok (.isub, 1) := by decide +kernel
theorem d_H_drop_7 : decode c_H_drop 7 = .ok (.invokestatic 44, 3) := by decide +kernel
theorem d_H_drop_10 : decode c_H_drop 10 = .ok (.istore_n 2, 1) := by decide +kernel
theorem d_H_drop_11 : decode c_H_drop 11 = .ok (.aload_n 0, 1) := by decide +kernel
theorem d_H_drop_12 : decode c_H_drop 12 = .ok (.getfield 9, 3) := by decide +kernel
theorem d_H_drop_15 : decode c_H_drop 15 = .ok (.aload_n 0, 1) := by decide +kernel
theorem d_H_drop_16 : decode c_H_drop 16 = .ok (.getfield 15, 3) := by decide +kernel
theorem d_H_drop_19 : decode c_H_drop 19 = .ok (.iload_n 2, 1) := by decide +kernel
theorem d_H_drop_20 : decode c_H_drop 20 = .ok (.isub, 1) := by decide +kernel
theorem d_H_drop_21 : decode c_H_drop 21 = .ok (.aload_n 0, 1) := by decide +kernel
theorem d_H_drop_22 : decode c_H_drop 22 = .ok (.getfield 9, 3) := by decide +kernel
theorem d_H_drop_25 : decode c_H_drop 25 = .ok (.iconst 0, 1) := by decide +kernel
theorem d_H_drop_26 : decode c_H_drop 26 = .ok (.iload_n 2, 1) := by decide +kernel
theorem d_H_drop_27 : decode c_H_drop 27 = .ok (.invokestatic 31, 3) := by decide +kernel
theorem d_H_drop_30 : decode c_H_drop 30 = .ok (.aload_n 0, 1) := by decide +kernel
theorem d_H_drop_31 : decode c_H_drop 31 = .ok (.iload_n 2, 1) := by decide +kernel
theorem d_H_drop_32 : decode c_H_drop 32 = .ok (.putfield 15, 3) := by decide +kernel
theorem d_H_drop_35 : decode c_H_drop 35 = .ok (.return_, 1) := by decide +kernel
theorem d_H_order_0 : decode c_H_order 0 = .ok (.aload_n 0, 1) := by decide +kernel
theorem d_H_order_1 : decode c_H_order 1 = .ok (.getfield 15, 3) := by decide +kernel
theorem d_H_order_4 : decode c_H_order 4 = .ok (.aload_n 1, 1) := by decide +kernel
theorem d_H_order_5 : decode c_H_order 5 = .ok (.getfield 15, 3) := by decide +kernel
theorem d_H_order_8 : decode c_H_order 8 = .ok (.if_icmp .eq 20, 3) := by decide +kernel
theorem d_H_order_11 : decode c_H_order 11 = .ok (.aload_n 0, 1) := by decide +kernel
theorem d_H_order_12 : decode c_H_order 12 = .ok (.getfield 15, 3) := by decide +kernel
theorem d_H_order_15 : decode c_H_order 15 = .ok (.aload_n 1, 1) := by decide +kernel
theorem d_H_order_16 : decode c_H_order 16 = .ok (.getfield 15, 3) := by decide +kernel
theorem d_H_order_19 : decode c_H_order 19 = .ok (.if_icmp .ge 7, 3) := by decide +kernel
theorem d_H_order_22 : decode c_H_order 22 = .ok (.iconst (-1), 1) := by decide +kernel
theorem d_H_order_23 : decode c_H_order 23 = .ok (.goto 4, 3) := by decide +kernel
theorem d_H_order_26 : decode c_H_order 26 = .ok (.iconst 1, 1) := by decide +kernel
theorem d_H_order_27 : decode c_H_order 27 = .ok (.ireturn, 1) := by decide +kernel
theorem d_H_order_28 : decode c_H_order 28 = .ok (.aload_n 0, 1) := by decide +kernel
theorem d_H_order_29 : decode c_H_order 29 = .ok (.getfield 15, 3) := by decide +kernel
theorem d_H_order_32 : decode c_H_order 32 = .ok (.iconst 1, 1) := by decide +kernel
theorem d_H_order_33 : decode c_H_order 33 = .ok (.isub, 1) := by decide +kernel
theorem d_H_order_34 : decode c_H_order 34 = .ok (.istore_n 2, 1) := by decide +kernel
theorem d_H_order_35 : decode c_H_order 35 = .ok (.iload_n 2, 1) := by decide +kernel
theorem d_H_order_36 : decode c_H_order 36 = .ok (.ifCond .lt 45, 3) := by decide +kernel
theorem d_H_order_39 : decode c_H_order 39 = .ok (.aload_n 0, 1) := by decide +kernel
theorem d_H_order_40 : decode c_H_order 40 = .ok (.getfield 9, 3) := by decide +kernel
theorem d_H_order_43 : decode c_H_order 43 = .ok (.iload_n 2, 1) := by decide +kernel
theorem d_H_order_44 : decode c_H_order 44 = .ok (.iaload, 1) := by decide +kernel
theorem d_H_order_45 : decode c_H_order 45 = .ok (.aload_n 1, 1) := by decide +kernel
theorem d_H_order_46 : decode c_H_order 46 = .ok (.getfield 9, 3) := by decide +kernel
theorem d_H_order_49 : decode c_H_order 49 = .ok (.iload_n 2, 1) := by decide +kernel
theorem d_H_order_50 : decode c_H_order 50 = .ok (.iaload, 1) := by decide +kernel
theorem d_H_order_51 : decode c_H_order 51 = .ok (.if_icmp .eq 24, 3) := by decide +kernel
theorem d_H_order_54 : decode c_H_order 54 = .ok (.aload_n 0, 1) := by decide +kernel
theorem d_H_order_55 : decode c_H_order 55 = .ok (.getfield 9, 3) := by decide +kernel
theorem d_H_order_58 : decode c_H_order 58 = .ok (.iload_n 2, 1) := by decide +kernel
theorem d_H_order_59 : decode c_H_order 59 = .ok (.iaload, 1) := by decide +kernel
theorem d_H_order_60 : decode c_H_order 60 = .ok (.aload_n 1, 1) := by decide +kernel
theorem d_H_order_61 : decode c_H_order 61 = .ok (.getfield 9, 3) := by decide +kernel
theorem d_H_order_64 : decode c_H_order 64 = .ok (.iload_n 2, 1) := by decide +kernel
theorem d_H_order_65 : decode c_H_order 65 = .ok (.iaload, 1) := by decide +kernel
theorem d_H_order_66 : decode c_H_order 66 = .ok (.if_icmp .ge 7, 3) := by decide +kernel
theorem d_H_order_69 : decode c_H_order 69 = .ok (.iconst (-1), 1) := by decide +kernel
theorem d_H_order_70 : decode c_H_order 70 = .ok (.goto 4, 3) := by decide +kernel
theorem d_H_order_73 : decode c_H_order 73 = .ok (.iconst 1, 1) := by decide +kernel
theorem d_H_order_74 : decode c_H_order 74 = .ok (.ireturn, 1) := by decide +kernel
theorem d_H_order_75 : decode c_H_order 75 = .ok (.iinc 2 (-1), 3) := by decide +kernel
theorem d_H_order_78 : decode c_H_order 78 = .ok (.goto (-43), 3) := by decide +kernel
theorem d_H_order_81 : decode c_H_order 81 = .ok (.iconst 0, 1) := by decide +kernel
theorem d_H_order_82 : decode c_H_order 82 = .ok (.ireturn, 1) := by decide +kernel
theorem d_D_bitsPerDigit_0 : decode c_D_bitsPerDigit 0 = .ok (.iload_n 0, 1) := by decide +kernel
theorem d_D_bitsPerDigit_1 : decode c_D_bitsPerDigit 1 = .ok (.iconst 1, 1) := by decide +kernel
theorem d_D_bitsPerDigit_2 : decode c_D_bitsPerDigit 2 = .ok (.isub, 1) := by decide +kernel
theorem d_D_bitsPerDigit_3 : decode c_D_bitsPerDigit 3 = .ok (.invokestatic 199, 3) := by decide +kernel
theorem d_D_bitsPerDigit_6 : decode c_D_bitsPerDigit 6 = .ok (.ireturn, 1) := by decide +kernel
theorem d_H_assign_0 : decode c_H_assign 0 = .ok (.aload_n 0, 1) := by decide +kernel
theorem d_H_assign_1 : decode c_H_assign 1 = .ok (.iconst 0, 1) := by decide +kernel
theorem d_H_assign_2 : decode c_H_assign 2 = .ok (.putfield 15, 3) := by decide +kernel
theorem d_H_assign_5 : decode c_H_assign 5 = .ok (.lload_n 1, 1) := by decide +kernel
theorem d_H_assign_6 : decode c_H_assign 6 = .ok (.lstore_n 3, 1) := by decide +kernel
theorem d_H_assign_7 : decode c_H_assign 7 = .ok (.lload_n 3, 1) := by decide +kernel
theorem d_H_assign_8 : decode c_H_assign 8 = .ok (.lconst 0, 1) := by decide +kernel
theorem d_H_assign_9 : decode c_H_assign 9 = .ok (.lcmp, 1) := by decide +kernel
theorem d_H_assign_10 : decode c_H_assign 10 = .ok (.ifCond .le 48, 3) := by decide +kernel
theorem d_H_assign_13 : decode c_H_assign 13 = .ok (.aload_n 0, 1) := by decide +kernel
theorem d_H_assign_14 : decode c_H_assign 14 = .ok (.getfield 15, 3) := by decide +kernel
theorem d_H_assign_17 : decode c_H_assign 17 = .ok (.aload_n 0, 1) := by decide +kernel
theorem d_H_assign_18 : decode c_H_assign 18 = .ok (.getfield 9, 3) := by decide +kernel
theorem d_H_assign_21 : decode c_H_assign 21 = .ok (.arraylength, 1) := by decide +kernel
theorem d_H_assign_22 : decode c_H_assign 22 = .ok (.if_icmp .ge 36, 3) := by decide +kernel
theorem d_H_assign_25 : decode c_H_assign 25 = .ok (.aload_n 0, 1) := by decide +kernel
theorem d_H_assign_26 : decode c_H_assign 26 = .ok (.getfield 9, 3) := by decide +kernel
theorem d_H_assign_29 : decode c_H_assign 29 = .ok (.aload_n 0, 1) := by decide +kernel
theorem d_H_assign_30 : decode c_H_assign 30 = .ok (.getfield 15, 3) := by decide +kernel
theorem d_H_assign_33 : decode c_H_assign 33 = .ok (.lload_n 3, 1) := by decide +kernel
theorem d_H_assign_34 : decode c_H_assign 34 = .ok (.ldc2_w 19, 3) := by decide +kernel
theorem d_H_assign_37 : decode c_H_assign 37 = .ok (.land, 1) := by decide +kernel
theorem d_H_assign_38 : decode c_H_assign 38 = .ok (.l2i, 1) := by decide +kernel
theorem d_H_assign_39 : decode c_H_assign 39 = .ok (.iastore, 1) := by decide +kernel
theorem d_H_assign_40 : decode c_H_assign 40 = .ok (.aload_n 0, 1) := by decide +kernel
theorem d_H_assign_41 : decode c_H_assign 41 = .ok (.dup, 1) := by decide +kernel
theorem d_H_assign_42 : decode c_H_assign 42 = .ok (.getfield 15, 3) := by decide +kernel
theorem d_H_assign_45 : decode c_H_assign 45 = .ok (.iconst 1, 1) := by decide +kernel
theorem d_H_assign_46 : decode c_H_assign 46 = .ok (.iadd, 1) := by decide +kernel
theorem d_H_assign_47 : decode c_H_assign 47 = .ok (.putfield 15, 3) := by decide +kernel
theorem d_H_assign_50 : decode c_H_assign 50 = .ok (.lload_n 3, 1) := by decide +kernel
theorem d_H_assign_51 : decode c_H_assign 51 = .ok (.bipush 30, 2) := by decide +kernel
theorem d_H_assign_53 : decode c_H_assign 53 = .ok (.lshr, 1) := by decide +kernel
theorem d_H_assign_54 : decode c_H_assign 54 = .ok (.lstore_n 3, 1) := by decide +kernel
theorem d_H_assign_55 : decode c_H_assign 55 = .ok (.goto (-48), 3) := by decide +kernel
theorem d_H_assign_58 : decode c_H_assign 58 = .ok (.return_, 1) := by decide +kernel
theorem d_H_raise_0 : decode c_H_raise 0 = .ok (.iload_n 1, 1) := by decide +kernel
theorem d_H_raise_1 : decode c_H_raise 1 = .ok (.invokestatic 55, 3) := by decide +kernel
theorem d_H_raise_4 : decode c_H_raise 4 = .ok (.istore_n 3, 1) := by decide +kernel
theorem d_H_raise_5 : decode c_H_raise 5 = .ok (.iload_n 1, 1) := by decide +kernel
theorem d_H_raise_6 : decode c_H_raise 6 = .ok (.iload_n 3, 1) := by decide +kernel
theorem d_H_raise_7 : decode c_H_raise 7 = .ok (.invokestatic 58, 3) := by decide +kernel
theorem d_H_raise_10 : decode c_H_raise 10 = .ok (.l2i, 1) := by decide +kernel
theorem d_H_raise_11 : decode c_H_raise 11 = .ok (.istore 4, 2) := by decide +kernel
theorem d_H_raise_13 : decode c_H_raise 13 = .ok (.iconst 0, 1) := by decide +kernel
theorem d_H_raise_14 : decode c_H_raise 14 = .ok (.istore 5, 2) := by decide +kernel
theorem d_H_raise_16 : decode c_H_raise 16 = .ok (.iload 5, 2) := by decide +kernel
theorem d_H_raise_18 : decode c_H_raise 18 = .ok (.iload_n 2, 1) := by decide +kernel
theorem d_H_raise_19 : decode c_H_raise 19 = .ok (.iload_n 3, 1) := by decide +kernel
theorem d_H_raise_20 : decode c_H_raise 20 = .ok (.idiv, 1) := by decide +kernel
theorem d_H_raise_21 : decode c_H_raise 21 = .ok (.if_icmp .ge 16, 3) := by decide +kernel
theorem d_H_raise_24 : decode c_H_raise 24 = .ok (.aload_n 0, 1) := by decide +kernel
theorem d_H_raise_25 : decode c_H_raise 25 = .ok (.iload 4, 2) := by decide +kernel
theorem d_H_raise_27 : decode c_H_raise 27 = .ok (.iconst 0, 1) := by decide +kernel
theorem d_H_raise_28 : decode c_H_raise 28 = .ok (.invokevirtual 62, 3) := by decide +kernel
theorem d_H_raise_31 : decode c_H_raise 31 = .ok (.iinc 5 1, 3) := by decide +kernel
theorem d_H_raise_34 : decode c_H_raise 34 = .ok (.goto (-18), 3) := by decide +kernel
theorem d_H_raise_37 : decode c_H_raise 37 = .ok (.aload_n 0, 1) := by decide +kernel
theorem d_H_raise_38 : decode c_H_raise 38 = .ok (.iload_n 1, 1) := by decide +kernel
theorem d_H_raise_39 : decode c_H_raise 39 = .ok (.iload_n 2, 1) := by decide +kernel
theorem d_H_raise_40 : decode c_H_raise 40 = .ok (.iload_n 3, 1) := by decide +kernel
theorem d_H_raise_41 : decode c_H_raise 41 = .ok (.irem, 1) := by decide +kernel
theorem d_H_raise_42 : decode c_H_raise 42 = .ok (.invokestatic 58, 3) := by decide +kernel
theorem d_H_raise_45 : decode c_H_raise 45 = .ok (.l2i, 1) := by decide +kernel
theorem d_H_raise_46 : decode c_H_raise 46 = .ok (.iconst 0, 1) := by decide +kernel
theorem d_H_raise_47 : decode c_H_raise 47 = .ok (.invokevirtual 62, 3) := by decide +kernel
theorem d_H_raise_50 : decode c_H_raise 50 = .ok (.return_, 1) := by decide +kernel
theorem d_D_power_0 : decode c_D_power 0 = .ok (.lconst 1, 1) := by decide +kernel
theorem d_D_power_1 : decode c_D_power 1 = .ok (.lstore_n 2, 1) := by decide +kernel
theorem d_D_power_2 : decode c_D_power 2 = .ok (.iconst 0, 1) := by decide +kernel
theorem d_D_power_3 : decode c_D_power 3 = .ok (.istore 4, 2) := by decide +kernel
theorem d_D_power_5 : decode c_D_power 5 = .ok (.iload 4, 2) := by decide +kernel
theorem d_D_power_7 : decode c_D_power 7 = .ok (.iload_n 1, 1) := by decide +kernel
theorem d_D_power_8 : decode c_D_power 8 = .ok (.if_icmp .ge 14, 3) := by decide +kernel
theorem d_D_power_11 : decode c_D_power 11 = .ok (.lload_n 2, 1) := by decide +kernel
theorem d_D_power_12 : decode c_D_power 12 = .ok (.iload_n 0, 1) := by decide +kernel
theorem d_D_power_13 : decode c_D_power 13 = .ok (.i2l, 1) := by decide +kernel
theorem d_D_power_14 : decode c_D_power 14 = .ok (.lmul, 1) := by decide +kernel
theorem d_D_power_15 : decode c_D_power 15 = .ok (.lstore_n 2, 1) := by decide +kernel
theorem d_D_power_16 : decode c_D_power 16 = .ok (.iinc 4 1, 3) := by decide +kernel
theorem d_D_power_19 : decode c_D_power 19 = .ok (.goto (-14), 3) := by decide +kernel
theorem d_D_power_22 : decode c_D_power 22 = .ok (.lload_n 2, 1) := by decide +kernel
theorem d_D_power_23 : decode c_D_power 23 = .ok (.lreturn, 1) := by decide +kernel
theorem d_H_increase_0 : decode c_H_increase 0 = .ok (.aload_n 0, 1) := by decide +kernel
theorem d_H_increase_1 : decode c_H_increase 1 = .ok (.getfield 15, 3) := by decide +kernel
theorem d_H_increase_4 : decode c_H_increase 4 = .ok (.aload_n 1, 1) := by decide +kernel
theorem d_H_increase_5 : decode c_H_increase 5 = .ok (.getfield 15, 3) := by decide +kernel
theorem d_H_increase_8 : decode c_H_increase 8 = .ok (.invokestatic 44, 3) := by decide +kernel
theorem d_H_increase_11 : decode c_H_increase 11 = .ok (.aload_n 0, 1) := by decide +kernel
theorem d_H_increase_12 : decode c_H_increase 12 = .ok (.getfield 9, 3) := by decide +kernel
theorem d_H_increase_15 : decode c_H_increase 15 = .ok (.arraylength, 1) := by decide +kernel
theorem d_H_increase_16 : decode c_H_increase 16 = .ok (.invokestatic 25, 3) := by decide +kernel
theorem d_H_increase_19 : decode c_H_increase 19 = .ok (.istore_n 2, 1) := by decide +kernel
theorem d_H_increase_20 : decode c_H_increase 20 = .ok (.iconst 0, 1) := by decide +kernel
theorem d_H_increase_21 : decode c_H_increase 21 = .ok (.istore_n 3, 1) := by decide +kernel
theorem d_H_increase_22 : decode c_H_increase 22 = .ok (.iconst 0, 1) := by decide +kernel
theorem d_H_increase_23 : decode c_H_increase 23 = .ok (.istore 4, 2) := by decide +kernel
theorem d_H_increase_25 : decode c_H_increase 25 = .ok (.iload 4, 2) := by decide +kernel
theorem d_H_increase_27 : decode c_H_increase 27 = .ok (.iload_n 2, 1) := by decide +kernel
theorem d_H_increase_28 : decode c_H_increase 28 = .ok (.if_icmp .ge 44, 3) := by decide +kernel
theorem d_H_increase_31 : decode c_H_increase 31 = .ok (.aload_n 0, 1) := by decide +kernel
theorem d_H_increase_32 : decode c_H_increase 32 = .ok (.iload 4, 2) := by decide +kernel
theorem d_H_increase_34 : decode c_H_increase 34 = .ok (.invokevirtual 47, 3) := by decide +kernel
theorem d_H_increase_37 : decode c_H_increase 37 = .ok (.aload_n 1, 1) := by decide +kernel
theorem d_H_increase_38 : decode c_H_increase 38 = .ok (.iload 4, 2) := by decide +kernel
theorem d_H_increase_40 : decode c_H_increase 40 = .ok (.invokevirtual 47, 3) := by decide +kernel
theorem d_H_increase_43 : decode c_H_increase 43 = .ok (.iadd, 1) := by decide +kernel
theorem d_H_increase_44 : decode c_H_increase 44 = .ok (.iload_n 3, 1) := by decide +kernel
theorem d_H_increase_45 : decode c_H_increase 45 = .ok (.iadd, 1) := by decide +kernel
theorem d_H_increase_46 : decode c_H_increase 46 = .ok (.istore 5, 2) := by decide +kernel
theorem d_H_increase_48 : decode c_H_increase 48 = .ok (.aload_n 0, 1) := by decide +kernel
theorem d_H_increase_49 : decode c_H_increase 49 = .ok (.getfield 9, 3) := by decide +kernel
theorem d_H_increase_52 : decode c_H_increase 52 = .ok (.iload 4, 2) := by decide +kernel
theorem d_H_increase_54 : decode c_H_increase 54 = .ok (.iload 5, 2) := by decide +kernel
theorem d_H_increase_56 : decode c_H_increase 56 = .ok (.ldc 50, 2) := by decide +kernel
theorem d_H_increase_58 : decode c_H_increase 58 = .ok (.iand, 1) := by decide +kernel
theorem d_H_increase_59 : decode c_H_increase 59 = .ok (.iastore, 1) := by decide +kernel
theorem d_H_increase_60 : decode c_H_increase 60 = .ok (.iload 5, 2) := by decide +kernel
theorem d_H_increase_62 : decode c_H_increase 62 = .ok (.bipush 30, 2) := by decide +kernel
theorem d_H_increase_64 : decode c_H_increase 64 = .ok (.ishr, 1) := by decide +kernel
theorem d_H_increase_65 : decode c_H_increase 65 = .ok (.istore_n 3, 1) := by decide +kernel
theorem d_H_increase_66 : decode c_H_increase 66 = .ok (.iinc 4 1, 3) := by decide +kernel
theorem d_H_increase_69 : decode c_H_increase 69 = .ok (.goto (-44), 3) := by decide +kernel
theorem d_H_increase_72 : decode c_H_increase 72 = .ok (.aload_n 0, 1) := by decide +kernel
theorem d_H_increase_73 : decode c_H_increase 73 = .ok (.iload_n 2, 1) := by decide +kernel
theorem d_H_increase_74 : decode c_H_increase 74 = .ok (.putfield 15, 3) := by decide +kernel
theorem d_H_increase_77 : decode c_H_increase 77 = .ok (.aload_n 0, 1) := by decide +kernel
theorem d_H_increase_78 : decode c_H_increase 78 = .ok (.iload_n 3, 1) := by decide +kernel
theorem d_H_increase_79 : decode c_H_increase 79 = .ok (.invokevirtual 51, 3) := by decide +kernel
theorem d_H_increase_82 : decode c_H_increase 82 = .ok (.return_, 1) := by decide +kernel
theorem d_H_limbAt_0 : decode c_H_limbAt 0 = .ok (.iload_n 1, 1) := by decide +kernel
theorem d_H_limbAt_1 : decode c_H_limbAt 1 = .ok (.aload_n 0, 1) := by decide +kernel
theorem d_H_limbAt_2 : decode c_H_limbAt 2 = .ok (.getfield 15, 3) := by decide +kernel
theorem d_H_limbAt_5 : decode c_H_limbAt 5 = .ok (.if_icmp .ge 12, 3) := by decide +kernel
theorem d_H_limbAt_8 : decode c_H_limbAt 8 = .ok (.aload_n 0, 1) := by decide +kernel
theorem d_H_limbAt_9 : decode c_H_limbAt 9 = .ok (.getfield 9, 3) := by decide +kernel
theorem d_H_limbAt_12 : decode c_H_limbAt 12 = .ok (.iload_n 1, 1) := by decide +kernel
theorem d_H_limbAt_13 : decode c_H_limbAt 13 = .ok (.iaload, 1) := by decide +kernel
theorem d_H_limbAt_14 : decode c_H_limbAt 14 = .ok (.goto 4, 3) := by decide +kernel
theorem d_H_limbAt_17 : decode c_H_limbAt 17 = .ok (.iconst 0, 1) := by decide +kernel
theorem d_H_limbAt_18 : decode c_H_limbAt 18 = .ok (.ireturn, 1) := by decide +kernel
theorem d_JA_fillJ_0 : decode c_JA_fillJ 0 = .ok (.iconst 0, 1) := by decide +kernel
theorem d_JA_fillJ_1 : decode c_JA_fillJ 1 = .ok (.istore_n 3, 1) := by decide +kernel
theorem d_JA_fillJ_2 : decode c_JA_fillJ 2 = .ok (.aload_n 0, 1) := by decide +kernel
theorem d_JA_fillJ_3 : decode c_JA_fillJ 3 = .ok (.arraylength, 1) := by decide +kernel
theorem d_JA_fillJ_4 : decode c_JA_fillJ 4 = .ok (.istore 4, 2) := by decide +kernel
theorem d_JA_fillJ_6 : decode c_JA_fillJ 6 = .ok (.iload_n 3, 1) := by decide +kernel
theorem d_JA_fillJ_7 : decode c_JA_fillJ 7 = .ok (.iload 4, 2) := by decide +kernel
theorem d_JA_fillJ_9 : decode c_JA_fillJ 9 = .ok (.if_icmp .ge 13, 3) := by decide +kernel
theorem d_JA_fillJ_12 : decode c_JA_fillJ 12 = .ok (.aload_n 0, 1) := by decide +kernel
theorem d_JA_fillJ_13 : decode c_JA_fillJ 13 = .ok (.iload_n 3, 1) := by decide +kernel
theorem d_JA_fillJ_14 : decode c_JA_fillJ 14 = .ok (.lload_n 1, 1) := by decide +kernel
theorem d_JA_fillJ_15 : decode c_JA_fillJ 15 = .ok (.lastore, 1) := by decide +kernel
theorem d_JA_fillJ_16 : decode c_JA_fillJ 16 = .ok (.iinc 3 1, 3) := by decide +kernel
theorem d_JA_fillJ_19 : decode c_JA_fillJ 19 = .ok (.goto (-13), 3) := by decide +kernel
theorem d_JA_fillJ_22 : decode c_JA_fillJ 22 = .ok (.return_, 1) := by decide +kernel
theorem d_H_absorbsCarry_0 : decode c_H_absorbsCarry 0 = .ok (.iload_n 1, 1) := by decide +kernel
theorem d_H_absorbsCarry_1 : decode c_H_absorbsCarry 1 = .ok (.istore_n 3, 1) := by decide +kernel
theorem d_H_absorbsCarry_2 : decode c_H_absorbsCarry 2 = .ok (.iload_n 3, 1) := by decide +kernel
theorem d_H_absorbsCarry_3 : decode c_H_absorbsCarry 3 = .ok (.iload_n 2, 1) := by decide +kernel
theorem d_H_absorbsCarry_4 : decode c_H_absorbsCarry 4 = .ok (.if_icmp .ge 21, 3) := by decide +kernel
theorem d_H_absorbsCarry_7 : decode c_H_absorbsCarry 7 = .ok (.aload_n 0, 1) := by decide +kernel
theorem d_H_absorbsCarry_8 : decode c_H_absorbsCarry 8 = .ok (.iload_n 3, 1) := by decide +kernel
theorem d_H_absorbsCarry_9 : decode c_H_absorbsCarry 9 = .ok (.invokevirtual 47, 3) := by decide +kernel
theorem d_H_absorbsCarry_12 : decode c_H_absorbsCarry 12 = .ok (.ldc 50, 2) := by decide +kernel
theorem d_H_absorbsCarry_14 : decode c_H_absorbsCarry 14 = .ok (.if_icmp .eq 5, 3) := by decide +kernel
theorem d_H_absorbsCarry_17 : decode c_H_absorbsCarry 17 = .ok (.iconst 1, 1) := by decide +kernel
theorem d_H_absorbsCarry_18 : decode c_H_absorbsCarry 18 = .ok (.ireturn, 1) := by decide +kernel
theorem d_H_absorbsCarry_19 : decode c_H_absorbsCarry 19 = .ok (.iinc 3 1, 3) := by decide +kernel
theorem d_H_absorbsCarry_22 : decode c_H_absorbsCarry 22 = .ok (.goto (-20), 3) := by decide +kernel
theorem d_H_absorbsCarry_25 : decode c_H_absorbsCarry 25 = .ok (.iconst 0, 1) := by decide +kernel
theorem d_H_absorbsCarry_26 : decode c_H_absorbsCarry 26 = .ok (.ireturn, 1) := by decide +kernel
theorem d_H_openTop_0 : decode c_H_openTop 0 = .ok (.aload_n 0, 1) := by decide +kernel
theorem d_H_openTop_1 : decode c_H_openTop 1 = .ok (.getfield 15, 3) := by decide +kernel
theorem d_H_openTop_4 : decode c_H_openTop 4 = .ok (.aload_n 0, 1) := by decide +kernel
theorem d_H_openTop_5 : decode c_H_openTop 5 = .ok (.getfield 9, 3) := by decide +kernel
theorem d_H_openTop_8 : decode c_H_openTop 8 = .ok (.arraylength, 1) := by decide +kernel
theorem d_H_openTop_9 : decode c_H_openTop 9 = .ok (.if_icmp .ge 13, 3) := by decide +kernel
theorem d_H_openTop_12 : decode c_H_openTop 12 = .ok (.aload_n 0, 1) := by decide +kernel
theorem d_H_openTop_13 : decode c_H_openTop 13 = .ok (.getfield 9, 3) := by decide +kernel
theorem d_H_openTop_16 : decode c_H_openTop 16 = .ok (.aload_n 0, 1) := by decide +kernel
theorem d_H_openTop_17 : decode c_H_openTop 17 = .ok (.getfield 15, 3) := by decide +kernel
theorem d_H_openTop_20 : decode c_H_openTop 20 = .ok (.iconst 0, 1) := by decide +kernel
theorem d_H_openTop_21 : decode c_H_openTop 21 = .ok (.iastore, 1) := by decide +kernel
theorem d_H_openTop_22 : decode c_H_openTop 22 = .ok (.return_, 1) := by decide +kernel
theorem d_H_decrease_0 : decode c_H_decrease 0 = .ok (.iconst 0, 1) := by decide +kernel
theorem d_H_decrease_1 : decode c_H_decrease 1 = .ok (.istore_n 2, 1) := by decide +kernel
theorem d_H_decrease_2 : decode c_H_decrease 2 = .ok (.iconst 0, 1) := by decide +kernel
theorem d_H_decrease_3 : decode c_H_decrease 3 = .ok (.istore_n 3, 1) := by decide +kernel
theorem d_H_decrease_4 : decode c_H_decrease 4 = .ok (.iload_n 3, 1) := by decide +kernel
theorem d_H_decrease_5 : decode c_H_decrease 5 = .ok (.aload_n 0, 1) := by decide +kernel
theorem d_H_decrease_6 : decode c_H_decrease 6 = .ok (.getfield 15, 3) := by decide +kernel
theorem d_H_decrease_9 : decode c_H_decrease 9 = .ok (.if_icmp .ge 42, 3) := by decide +kernel
theorem d_H_decrease_12 : decode c_H_decrease 12 = .ok (.aload_n 0, 1) := by decide +kernel
theorem d_H_decrease_13 : decode c_H_decrease 13 = .ok (.getfield 9, 3) := by decide +kernel
theorem d_H_decrease_16 : decode c_H_decrease 16 = .ok (.iload_n 3, 1) := by decide +kernel
theorem d_H_decrease_17 : decode c_H_decrease 17 = .ok (.iaload, 1) := by decide +kernel
theorem d_H_decrease_18 : decode c_H_decrease 18 = .ok (.aload_n 1, 1) := by decide +kernel
theorem d_H_decrease_19 : decode c_H_decrease 19 = .ok (.iload_n 3, 1) := by decide +kernel
theorem d_H_decrease_20 : decode c_H_decrease 20 = .ok (.invokevirtual 47, 3) := by decide +kernel
theorem d_H_decrease_23 : decode c_H_decrease 23 = .ok (.isub, 1) := by decide +kernel
theorem d_H_decrease_24 : decode c_H_decrease 24 = .ok (.iload_n 2, 1) := by decide +kernel
theorem d_H_decrease_25 : decode c_H_decrease 25 = .ok (.iadd, 1) := by decide +kernel
theorem d_H_decrease_26 : decode c_H_decrease 26 = .ok (.istore 4, 2) := by decide +kernel
theorem d_H_decrease_28 : decode c_H_decrease 28 = .ok (.aload_n 0, 1) := by decide +kernel
theorem d_H_decrease_29 : decode c_H_decrease 29 = .ok (.getfield 9, 3) := by decide +kernel
theorem d_H_decrease_32 : decode c_H_decrease 32 = .ok (.iload_n 3, 1) := by decide +kernel
theorem d_H_decrease_33 : decode c_H_decrease 33 = .ok (.iload 4, 2) := by decide +kernel
theorem d_H_decrease_35 : decode c_H_decrease 35 = .ok (.ldc 50, 2) := by decide +kernel
theorem d_H_decrease_37 : decode c_H_decrease 37 = .ok (.iand, 1) := by decide +kernel
theorem d_H_decrease_38 : decode c_H_decrease 38 = .ok (.iastore, 1) := by decide +kernel
theorem d_H_decrease_39 : decode c_H_decrease 39 = .ok (.iload 4, 2) := by decide +kernel
theorem d_H_decrease_41 : decode c_H_decrease 41 = .ok (.bipush 30, 2) := by decide +kernel
theorem d_H_decrease_43 : decode c_H_decrease 43 = .ok (.ishr, 1) := by decide +kernel
theorem d_H_decrease_44 : decode c_H_decrease 44 = .ok (.istore_n 2, 1) := by decide +kernel
theorem d_H_decrease_45 : decode c_H_decrease 45 = .ok (.iinc 3 1, 3) := by decide +kernel
theorem d_H_decrease_48 : decode c_H_decrease 48 = .ok (.goto (-44), 3) := by decide +kernel
theorem d_H_decrease_51 : decode c_H_decrease 51 = .ok (.aload_n 0, 1) := by decide +kernel
theorem d_H_decrease_52 : decode c_H_decrease 52 = .ok (.invokevirtual 37, 3) := by decide +kernel
theorem d_H_decrease_55 : decode c_H_decrease 55 = .ok (.return_, 1) := by decide +kernel
theorem d_H_multiply_0 : decode c_H_multiply 0 = .ok (.aload_n 0, 1) := by decide +kernel
theorem d_H_multiply_1 : decode c_H_multiply 1 = .ok (.aload_n 1, 1) := by decide +kernel
theorem d_H_multiply_2 : decode c_H_multiply 2 = .ok (.getfield 15, 3) := by decide +kernel
theorem d_H_multiply_5 : decode c_H_multiply 5 = .ok (.aload_n 2, 1) := by decide +kernel
theorem d_H_multiply_6 : decode c_H_multiply 6 = .ok (.getfield 15, 3) := by decide +kernel
theorem d_H_multiply_9 : decode c_H_multiply 9 = .ok (.iadd, 1) := by decide +kernel
theorem d_H_multiply_10 : decode c_H_multiply 10 = .ok (.invokevirtual 66, 3) := by decide +kernel
theorem d_H_multiply_13 : decode c_H_multiply 13 = .ok (.iconst 0, 1) := by decide +kernel
theorem d_H_multiply_14 : decode c_H_multiply 14 = .ok (.istore_n 3, 1) := by decide +kernel
theorem d_H_multiply_15 : decode c_H_multiply 15 = .ok (.iload_n 3, 1) := by decide +kernel
theorem d_H_multiply_16 : decode c_H_multiply 16 = .ok (.aload_n 1, 1) := by decide +kernel
theorem d_H_multiply_17 : decode c_H_multiply 17 = .ok (.getfield 15, 3) := by decide +kernel
theorem d_H_multiply_20 : decode c_H_multiply 20 = .ok (.if_icmp .ge 117, 3) := by decide +kernel
theorem d_H_multiply_23 : decode c_H_multiply 23 = .ok (.iload_n 3, 1) := by decide +kernel
theorem d_H_multiply_24 : decode c_H_multiply 24 = .ok (.aload_n 2, 1) := by decide +kernel
theorem d_H_multiply_25 : decode c_H_multiply 25 = .ok (.getfield 15, 3) := by decide +kernel
theorem d_H_multiply_28 : decode c_H_multiply 28 = .ok (.iadd, 1) := by decide +kernel
theorem d_H_multiply_29 : decode c_H_multiply 29 = .ok (.aload_n 0, 1) := by decide +kernel
theorem d_H_multiply_30 : decode c_H_multiply 30 = .ok (.getfield 9, 3) := by decide +kernel
theorem d_H_multiply_33 : decode c_H_multiply 33 = .ok (.arraylength, 1) := by decide +kernel
theorem d_H_multiply_34 : decode c_H_multiply 34 = .ok (.if_icmp .ge 103, 3) := by decide +kernel
theorem d_H_multiply_37 : decode c_H_multiply 37 = .ok (.aload_n 1, 1) := by decide +kernel
theorem d_H_multiply_38 : decode c_H_multiply 38 = .ok (.getfield 9, 3) := by decide +kernel
theorem d_H_multiply_41 : decode c_H_multiply 41 = .ok (.iload_n 3, 1) := by decide +kernel
theorem d_H_multiply_42 : decode c_H_multiply 42 = .ok (.iaload, 1) := by decide +kernel
theorem d_H_multiply_43 : decode c_H_multiply 43 = .ok (.i2l, 1) := by decide +kernel
theorem d_H_multiply_44 : decode c_H_multiply 44 = .ok (.lstore 4, 2) := by decide +kernel
theorem d_H_multiply_46 : decode c_H_multiply 46 = .ok (.lconst 0, 1) := by decide +kernel
theorem d_H_multiply_47 : decode c_H_multiply 47 = .ok (.lstore 6, 2) := by decide +kernel
theorem d_H_multiply_49 : decode c_H_multiply 49 = .ok (.iconst 0, 1) := by decide +kernel
theorem d_H_multiply_50 : decode c_H_multiply 50 = .ok (.istore 8, 2) := by decide +kernel
theorem d_H_multiply_52 : decode c_H_multiply 52 = .ok (.iload 8, 2) := by decide +kernel
theorem d_H_multiply_54 : decode c_H_multiply 54 = .ok (.aload_n 2, 1) := by decide +kernel
theorem d_H_multiply_55 : decode c_H_multiply 55 = .ok (.getfield 15, 3) := by decide +kernel
theorem d_H_multiply_58 : decode c_H_multiply 58 = .ok (.if_icmp .ge 59, 3) := by decide +kernel
theorem d_H_multiply_61 : decode c_H_multiply 61 = .ok (.lload 6, 2) := by decide +kernel
theorem d_H_multiply_63 : decode c_H_multiply 63 = .ok (.lload 4, 2) := by decide +kernel
theorem d_H_multiply_65 : decode c_H_multiply 65 = .ok (.aload_n 2, 1) := by decide +kernel
theorem d_H_multiply_66 : decode c_H_multiply 66 = .ok (.getfield 9, 3) := by decide +kernel
theorem d_H_multiply_69 : decode c_H_multiply 69 = .ok (.iload 8, 2) := by decide +kernel
theorem d_H_multiply_71 : decode c_H_multiply 71 = .ok (.iaload, 1) := by decide +kernel
theorem d_H_multiply_72 : decode c_H_multiply 72 = .ok (.i2l, 1) := by decide +kernel
theorem d_H_multiply_73 : decode c_H_multiply 73 = .ok (.lmul, 1) := by decide +kernel
theorem d_H_multiply_74 : decode c_H_multiply 74 = .ok (.aload_n 0, 1) := by decide +kernel
theorem d_H_multiply_75 : decode c_H_multiply 75 = .ok (.getfield 9, 3) := by decide +kernel
theorem d_H_multiply_78 : decode c_H_multiply 78 = .ok (.iload_n 3, 1) := by decide +kernel
theorem d_H_multiply_79 : decode c_H_multiply 79 = .ok (.iload 8, 2) := by decide +kernel
theorem d_H_multiply_81 : decode c_H_multiply 81 = .ok (.iadd, 1) := by decide +kernel
theorem d_H_multiply_82 : decode c_H_multiply 82 = .ok (.iaload, 1) := by decide +kernel
theorem d_H_multiply_83 : decode c_H_multiply 83 = .ok (.i2l, 1) := by decide +kernel
theorem d_H_multiply_84 : decode c_H_multiply 84 = .ok (.ladd, 1) := by decide +kernel
theorem d_H_multiply_85 : decode c_H_multiply 85 = .ok (.ladd, 1) := by decide +kernel
theorem d_H_multiply_86 : decode c_H_multiply 86 = .ok (.lstore 6, 2) := by decide +kernel
theorem d_H_multiply_88 : decode c_H_multiply 88 = .ok (.aload_n 0, 1) := by decide +kernel
theorem d_H_multiply_89 : decode c_H_multiply 89 = .ok (.getfield 9, 3) := by decide +kernel
theorem d_H_multiply_92 : decode c_H_multiply 92 = .ok (.iload_n 3, 1) := by decide +kernel
theorem d_H_multiply_93 : decode c_H_multiply 93 = .ok (.iload 8, 2) := by decide +kernel
theorem d_H_multiply_95 : decode c_H_multiply 95 = .ok (.iadd, 1) := by decide +kernel
theorem d_H_multiply_96 : decode c_H_multiply 96 = .ok (.lload 6, 2) := by decide +kernel
theorem d_H_multiply_98 : decode c_H_multiply 98 = .ok (.ldc2_w 19, 3) := by decide +kernel
theorem d_H_multiply_101 : decode c_H_multiply 101 = .ok (.land, 1) := by decide +kernel
theorem d_H_multiply_102 : decode c_H_multiply 102 = .ok (.l2i, 1) := by decide +kernel
theorem d_H_multiply_103 : decode c_H_multiply 103 = .ok (.iastore, 1) := by decide +kernel
theorem d_H_multiply_104 : decode c_H_multiply 104 = .ok (.lload 6, 2) := by decide +kernel
theorem d_H_multiply_106 : decode c_H_multiply 106 = .ok (.bipush 30, 2) := by decide +kernel
theorem d_H_multiply_108 : decode c_H_multiply 108 = .ok (.lshr, 1) := by decide +kernel
theorem d_H_multiply_109 : decode c_H_multiply 109 = .ok (.lstore 6, 2) := by decide +kernel
theorem d_H_multiply_111 : decode c_H_multiply 111 = .ok (.iinc 8 1, 3) := by decide +kernel
theorem d_H_multiply_114 : decode c_H_multiply 114 = .ok (.goto (-62), 3) := by decide +kernel
theorem d_H_multiply_117 : decode c_H_multiply 117 = .ok (.aload_n 0, 1) := by decide +kernel
theorem d_H_multiply_118 : decode c_H_multiply 118 = .ok (.getfield 9, 3) := by decide +kernel
theorem d_H_multiply_121 : decode c_H_multiply 121 = .ok (.iload_n 3, 1) := by decide +kernel
theorem d_H_multiply_122 : decode c_H_multiply 122 = .ok (.aload_n 2, 1) := by decide +kernel
theorem d_H_multiply_123 : decode c_H_multiply 123 = .ok (.getfield 15, 3) := by decide +kernel
theorem d_H_multiply_126 : decode c_H_multiply 126 = .ok (.iadd, 1) := by decide +kernel
theorem d_H_multiply_127 : decode c_H_multiply 127 = .ok (.lload 6, 2) := by decide +kernel
theorem d_H_multiply_129 : decode c_H_multiply 129 = .ok (.l2i, 1) := by decide +kernel
theorem d_H_multiply_130 : decode c_H_multiply 130 = .ok (.iastore, 1) := by decide +kernel
theorem d_H_multiply_131 : decode c_H_multiply 131 = .ok (.iinc 3 1, 3) := by decide +kernel
theorem d_H_multiply_134 : decode c_H_multiply 134 = .ok (.goto (-119), 3) := by decide +kernel
theorem d_H_multiply_137 : decode c_H_multiply 137 = .ok (.aload_n 0, 1) := by decide +kernel
theorem d_H_multiply_138 : decode c_H_multiply 138 = .ok (.invokevirtual 37, 3) := by decide +kernel
theorem d_H_multiply_141 : decode c_H_multiply 141 = .ok (.return_, 1) := by decide +kernel
end
section
theorem d_L_mill_0 : decode c_L_mill 0 = .ok (.aload 4, 2) := by decide +kernel
theorem d_L_mill_2 : decode c_L_mill 2 = .ok (.iconst 0, 1) := by decide +kernel
theorem d_L_mill_3 : decode c_L_mill 3 = .ok (.aload_n 0, 1) := by decide +kernel
theorem d_L_mill_4 : decode c_L_mill 4 = .ok (.iload_n 1, 1) := by decide +kernel
theorem d_L_mill_5 : decode c_L_mill 5 = .ok (.iload_n 2, 1) := by decide +kernel
theorem d_L_mill_6 : decode c_L_mill 6 = .ok (.iload_n 3, 1) := by decide +kernel
theorem d_L_mill_7 : decode c_L_mill 7 = .ok (.invokevirtual 7, 3) := by decide +kernel
theorem d_L_mill_10 : decode c_L_mill 10 = .ok (.i2l, 1) := by decide +kernel
theorem d_L_mill_11 : decode c_L_mill 11 = .ok (.lastore, 1) := by decide +kernel
theorem d_L_mill_12 : decode c_L_mill 12 = .ok (.goto 11, 3) := by decide +kernel
theorem d_L_mill_15 : decode c_L_mill 15 = .ok (.astore 5, 2) := by decide +kernel
theorem d_L_mill_17 : decode c_L_mill 17 = .ok (.iconst 1, 1) := by decide +kernel
theorem d_L_mill_18 : decode c_L_mill 18 = .ok (.ireturn, 1) := by decide +kernel
theorem d_L_mill_19 : decode c_L_mill 19 = .ok (.astore 5, 2) := by decide +kernel
theorem d_L_mill_21 : decode c_L_mill 21 = .ok (.iconst 2, 1) := by decide +kernel
theorem d_L_mill_22 : decode c_L_mill 22 = .ok (.ireturn, 1) := by decide +kernel
theorem d_L_mill_23 : decode c_L_mill 23 = .ok (.iconst 0, 1) := by decide +kernel
theorem d_L_mill_24 : decode c_L_mill 24 = .ok (.ireturn, 1) := by decide +kernel
theorem d_L_root_0 : decode c_L_root 0 = .ok (.aload 5, 2) := by decide +kernel
theorem d_L_root_2 : decode c_L_root 2 = .ok (.iconst 0, 1) := by decide +kernel
theorem d_L_root_3 : decode c_L_root 3 = .ok (.aload_n 0, 1) := by decide +kernel
theorem d_L_root_4 : decode c_L_root 4 = .ok (.lload_n 1, 1) := by decide +kernel
theorem d_L_root_5 : decode c_L_root 5 = .ok (.iload_n 3, 1) := by decide +kernel
theorem d_L_root_6 : decode c_L_root 6 = .ok (.iload 4, 2) := by decide +kernel
theorem d_L_root_8 : decode c_L_root 8 = .ok (.invokevirtual 17, 3) := by decide +kernel
theorem d_L_root_11 : decode c_L_root 11 = .ok (.i2l, 1) := by decide +kernel
theorem d_L_root_12 : decode c_L_root 12 = .ok (.lastore, 1) := by decide +kernel
theorem d_L_root_13 : decode c_L_root 13 = .ok (.goto 11, 3) := by decide +kernel
theorem d_L_root_16 : decode c_L_root 16 = .ok (.astore 6, 2) := by decide +kernel
theorem d_L_root_18 : decode c_L_root 18 = .ok (.iconst 1, 1) := by decide +kernel
theorem d_L_root_19 : decode c_L_root 19 = .ok (.ireturn, 1) := by decide +kernel
theorem d_L_root_20 : decode c_L_root 20 = .ok (.astore 6, 2) := by decide +kernel
theorem d_L_root_22 : decode c_L_root 22 = .ok (.iconst 2, 1) := by decide +kernel
theorem d_L_root_23 : decode c_L_root 23 = .ok (.ireturn, 1) := by decide +kernel
theorem d_L_root_24 : decode c_L_root 24 = .ok (.iconst 0, 1) := by decide +kernel
theorem d_L_root_25 : decode c_L_root 25 = .ok (.ireturn, 1) := by decide +kernel
theorem d_L_over_0 : decode c_L_over 0 = .ok (.aload 7, 2) := by decide +kernel
theorem d_L_over_2 : decode c_L_over 2 = .ok (.iconst 0, 1) := by decide +kernel
theorem d_L_over_3 : decode c_L_over 3 = .ok (.aload_n 0, 1) := by decide +kernel
theorem d_L_over_4 : decode c_L_over 4 = .ok (.lload_n 1, 1) := by decide +kernel
theorem d_L_over_5 : decode c_L_over 5 = .ok (.lload_n 3, 1) := by decide +kernel
theorem d_L_over_6 : decode c_L_over 6 = .ok (.iload 5, 2) := by decide +kernel
theorem d_L_over_8 : decode c_L_over 8 = .ok (.iload 6, 2) := by decide +kernel
theorem d_L_over_10 : decode c_L_over 10 = .ok (.invokevirtual 21, 3) := by decide +kernel
theorem d_L_over_13 : decode c_L_over 13 = .ok (.i2l, 1) := by decide +kernel
theorem d_L_over_14 : decode c_L_over 14 = .ok (.lastore, 1) := by decide +kernel
theorem d_L_over_15 : decode c_L_over 15 = .ok (.goto 11, 3) := by decide +kernel
theorem d_L_over_18 : decode c_L_over 18 = .ok (.astore 8, 2) := by decide +kernel
theorem d_L_over_20 : decode c_L_over 20 = .ok (.iconst 1, 1) := by decide +kernel
theorem d_L_over_21 : decode c_L_over 21 = .ok (.ireturn, 1) := by decide +kernel
theorem d_L_over_22 : decode c_L_over 22 = .ok (.astore 8, 2) := by decide +kernel
theorem d_L_over_24 : decode c_L_over 24 = .ok (.iconst 2, 1) := by decide +kernel
theorem d_L_over_25 : decode c_L_over 25 = .ok (.ireturn, 1) := by decide +kernel
theorem d_L_over_26 : decode c_L_over 26 = .ok (.iconst 0, 1) := by decide +kernel
theorem d_L_over_27 : decode c_L_over 27 = .ok (.ireturn, 1) := by decide +kernel
theorem d_L_number_0 : decode c_L_number 0 = .ok (.aload 4, 2) := by decide +kernel
theorem d_L_number_2 : decode c_L_number 2 = .ok (.iconst 0, 1) := by decide +kernel
theorem d_L_number_3 : decode c_L_number 3 = .ok (.aload_n 0, 1) := by decide +kernel
theorem d_L_number_4 : decode c_L_number 4 = .ok (.lload_n 1, 1) := by decide +kernel
theorem d_L_number_5 : decode c_L_number 5 = .ok (.iload_n 3, 1) := by decide +kernel
theorem d_L_number_6 : decode c_L_number 6 = .ok (.invokevirtual 25, 3) := by decide +kernel
theorem d_L_number_9 : decode c_L_number 9 = .ok (.i2l, 1) := by decide +kernel
theorem d_L_number_10 : decode c_L_number 10 = .ok (.lastore, 1) := by decide +kernel
theorem d_L_number_11 : decode c_L_number 11 = .ok (.goto 7, 3) := by decide +kernel
theorem d_L_number_14 : decode c_L_number 14 = .ok (.astore 5, 2) := by decide +kernel
theorem d_L_number_16 : decode c_L_number 16 = .ok (.iconst 1, 1) := by decide +kernel
theorem d_L_number_17 : decode c_L_number 17 = .ok (.ireturn, 1) := by decide +kernel
theorem d_L_number_18 : decode c_L_number 18 = .ok (.iconst 0, 1) := by decide +kernel
theorem d_L_number_19 : decode c_L_number 19 = .ok (.ireturn, 1) := by decide +kernel
theorem d_L_push_0 : decode c_L_push 0 = .ok (.aload_n 2, 1) := by decide +kernel
theorem d_L_push_1 : decode c_L_push 1 = .ok (.iconst 0, 1) := by decide +kernel
theorem d_L_push_2 : decode c_L_push 2 = .ok (.aload_n 0, 1) := by decide +kernel
theorem d_L_push_3 : decode c_L_push 3 = .ok (.iload_n 1, 1) := by decide +kernel
theorem d_L_push_4 : decode c_L_push 4 = .ok (.invokevirtual 29, 3) := by decide +kernel
theorem d_L_push_7 : decode c_L_push 7 = .ok (.i2l, 1) := by decide +kernel
theorem d_L_push_8 : decode c_L_push 8 = .ok (.lastore, 1) := by decide +kernel
theorem d_L_push_9 : decode c_L_push 9 = .ok (.goto 9, 3) := by decide +kernel
theorem d_L_push_12 : decode c_L_push 12 = .ok (.astore_n 3, 1) := by decide +kernel
theorem d_L_push_13 : decode c_L_push 13 = .ok (.iconst 1, 1) := by decide +kernel
theorem d_L_push_14 : decode c_L_push 14 = .ok (.ireturn, 1) := by decide +kernel
theorem d_L_push_15 : decode c_L_push 15 = .ok (.astore_n 3, 1) := by decide +kernel
theorem d_L_push_16 : decode c_L_push 16 = .ok (.iconst 2, 1) := by decide +kernel
theorem d_L_push_17 : decode c_L_push 17 = .ok (.ireturn, 1) := by decide +kernel
theorem d_L_push_18 : decode c_L_push 18 = .ok (.iconst 0, 1) := by decide +kernel
theorem d_L_push_19 : decode c_L_push 19 = .ok (.ireturn, 1) := by decide +kernel
theorem d_L_add_0 : decode c_L_add 0 = .ok (.aload_n 1, 1) := by decide +kernel
theorem d_L_add_1 : decode c_L_add 1 = .ok (.iconst 0, 1) := by decide +kernel
theorem d_L_add_2 : decode c_L_add 2 = .ok (.aload_n 0, 1) := by decide +kernel
theorem d_L_add_3 : decode c_L_add 3 = .ok (.invokevirtual 33, 3) := by decide +kernel
theorem d_L_add_6 : decode c_L_add 6 = .ok (.i2l, 1) := by decide +kernel
theorem d_L_add_7 : decode c_L_add 7 = .ok (.lastore, 1) := by decide +kernel
theorem d_L_add_8 : decode c_L_add 8 = .ok (.goto 6, 3) := by decide +kernel
theorem d_L_add_11 : decode c_L_add 11 = .ok (.astore_n 2, 1) := by decide +kernel
theorem d_L_add_12 : decode c_L_add 12 = .ok (.iconst 1, 1) := by decide +kernel
theorem d_L_add_13 : decode c_L_add 13 = .ok (.ireturn, 1) := by decide +kernel
theorem d_L_add_14 : decode c_L_add 14 = .ok (.iconst 0, 1) := by decide +kernel
theorem d_L_add_15 : decode c_L_add 15 = .ok (.ireturn, 1) := by decide +kernel
theorem d_L_subtract_0 : decode c_L_subtract 0 = .ok (.aload_n 1, 1) := by decide +kernel
theorem d_L_subtract_1 : decode c_L_subtract 1 = .ok (.iconst 0, 1) := by decide +kernel
theorem d_L_subtract_2 : decode c_L_subtract 2 = .ok (.aload_n 0, 1) := by decide +kernel
theorem d_L_subtract_3 : decode c_L_subtract 3 = .ok (.invokevirtual 37, 3) := by decide +kernel
theorem d_L_subtract_6 : decode c_L_subtract 6 = .ok (.i2l, 1) := by decide +kernel
theorem d_L_subtract_7 : decode c_L_subtract 7 = .ok (.lastore, 1) := by decide +kernel
theorem d_L_subtract_8 : decode c_L_subtract 8 = .ok (.goto 6, 3) := by decide +kernel
theorem d_L_subtract_11 : decode c_L_subtract 11 = .ok (.astore_n 2, 1) := by decide +kernel
theorem d_L_subtract_12 : decode c_L_subtract 12 = .ok (.iconst 1, 1) := by decide +kernel
theorem d_L_subtract_13 : decode c_L_subtract 13 = .ok (.ireturn, 1) := by decide +kernel
theorem d_L_subtract_14 : decode c_L_subtract 14 = .ok (.iconst 0, 1) := by decide +kernel
theorem d_L_subtract_15 : decode c_L_subtract 15 = .ok (.ireturn, 1) := by decide +kernel
theorem d_L_times_0 : decode c_L_times 0 = .ok (.aload_n 1, 1) := by decide +kernel
theorem d_L_times_1 : decode c_L_times 1 = .ok (.iconst 0, 1) := by decide +kernel
theorem d_L_times_2 : decode c_L_times 2 = .ok (.aload_n 0, 1) := by decide +kernel
theorem d_L_times_3 : decode c_L_times 3 = .ok (.invokevirtual 42, 3) := by decide +kernel
theorem d_L_times_6 : decode c_L_times 6 = .ok (.i2l, 1) := by decide +kernel
theorem d_L_times_7 : decode c_L_times 7 = .ok (.lastore, 1) := by decide +kernel
theorem d_L_times_8 : decode c_L_times 8 = .ok (.goto 6, 3) := by decide +kernel
theorem d_L_times_11 : decode c_L_times 11 = .ok (.astore_n 2, 1) := by decide +kernel
theorem d_L_times_12 : decode c_L_times 12 = .ok (.iconst 1, 1) := by decide +kernel
theorem d_L_times_13 : decode c_L_times 13 = .ok (.ireturn, 1) := by decide +kernel
theorem d_L_times_14 : decode c_L_times 14 = .ok (.iconst 0, 1) := by decide +kernel
theorem d_L_times_15 : decode c_L_times 15 = .ok (.ireturn, 1) := by decide +kernel
theorem d_L_divide_0 : decode c_L_divide 0 = .ok (.aload_n 1, 1) := by decide +kernel
theorem d_L_divide_1 : decode c_L_divide 1 = .ok (.iconst 0, 1) := by decide +kernel
theorem d_L_divide_2 : decode c_L_divide 2 = .ok (.aload_n 0, 1) := by decide +kernel
theorem d_L_divide_3 : decode c_L_divide 3 = .ok (.invokevirtual 45, 3) := by decide +kernel
theorem d_L_divide_6 : decode c_L_divide 6 = .ok (.i2l, 1) := by decide +kernel
theorem d_L_divide_7 : decode c_L_divide 7 = .ok (.lastore, 1) := by decide +kernel
theorem d_L_divide_8 : decode c_L_divide 8 = .ok (.goto 6, 3) := by decide +kernel
theorem d_L_divide_11 : decode c_L_divide 11 = .ok (.astore_n 2, 1) := by decide +kernel
theorem d_L_divide_12 : decode c_L_divide 12 = .ok (.iconst 1, 1) := by decide +kernel
theorem d_L_divide_13 : decode c_L_divide 13 = .ok (.ireturn, 1) := by decide +kernel
theorem d_L_divide_14 : decode c_L_divide 14 = .ok (.iconst 0, 1) := by decide +kernel
theorem d_L_divide_15 : decode c_L_divide 15 = .ok (.ireturn, 1) := by decide +kernel
theorem d_L_convert_0 : decode c_L_convert 0 = .ok (.aload_n 2, 1) := by decide +kernel
theorem d_L_convert_1 : decode c_L_convert 1 = .ok (.iconst 0, 1) := by decide +kernel
theorem d_L_convert_2 : decode c_L_convert 2 = .ok (.aload_n 0, 1) := by decide +kernel
theorem d_L_convert_3 : decode c_L_convert 3 = .ok (.iload_n 1, 1) := by decide +kernel
theorem d_L_convert_4 : decode c_L_convert 4 = .ok (.invokevirtual 48, 3) := by decide +kernel
theorem d_L_convert_7 : decode c_L_convert 7 = .ok (.i2l, 1) := by decide +kernel
theorem d_L_convert_8 : decode c_L_convert 8 = .ok (.lastore, 1) := by decide +kernel
theorem d_L_convert_9 : decode c_L_convert 9 = .ok (.goto 6, 3) := by decide +kernel
theorem d_L_convert_12 : decode c_L_convert 12 = .ok (.astore_n 3, 1) := by decide +kernel
theorem d_L_convert_13 : decode c_L_convert 13 = .ok (.iconst 1, 1) := by decide +kernel
theorem d_L_convert_14 : decode c_L_convert 14 = .ok (.ireturn, 1) := by decide +kernel
theorem d_L_convert_15 : decode c_L_convert 15 = .ok (.iconst 0, 1) := by decide +kernel
theorem d_L_convert_16 : decode c_L_convert 16 = .ok (.ireturn, 1) := by decide +kernel
theorem d_L_digit_0 : decode c_L_digit 0 = .ok (.aload_n 2, 1) := by decide +kernel
theorem d_L_digit_1 : decode c_L_digit 1 = .ok (.iconst 0, 1) := by decide +kernel
theorem d_L_digit_2 : decode c_L_digit 2 = .ok (.aload_n 0, 1) := by decide +kernel
theorem d_L_digit_3 : decode c_L_digit 3 = .ok (.iload_n 1, 1) := by decide +kernel
theorem d_L_digit_4 : decode c_L_digit 4 = .ok (.invokevirtual 51, 3) := by decide +kernel
theorem d_L_digit_7 : decode c_L_digit 7 = .ok (.i2l, 1) := by decide +kernel
theorem d_L_digit_8 : decode c_L_digit 8 = .ok (.lastore, 1) := by decide +kernel
theorem d_L_digit_9 : decode c_L_digit 9 = .ok (.goto 6, 3) := by decide +kernel
theorem d_L_digit_12 : decode c_L_digit 12 = .ok (.astore_n 3, 1) := by decide +kernel
theorem d_L_digit_13 : decode c_L_digit 13 = .ok (.iconst 1, 1) := by decide +kernel
theorem d_L_digit_14 : decode c_L_digit 14 = .ok (.ireturn, 1) := by decide +kernel
theorem d_L_digit_15 : decode c_L_digit 15 = .ok (.iconst 0, 1) := by decide +kernel
theorem d_L_digit_16 : decode c_L_digit 16 = .ok (.ireturn, 1) := by decide +kernel
theorem d_L_about_0 : decode c_L_about 0 = .ok (.aload_n 2, 1) := by decide +kernel
theorem d_L_about_1 : decode c_L_about 1 = .ok (.iconst 0, 1) := by decide +kernel
theorem d_L_about_2 : decode c_L_about 2 = .ok (.aload_n 0, 1) := by decide +kernel
theorem d_L_about_3 : decode c_L_about 3 = .ok (.iload_n 1, 1) := by decide +kernel
theorem d_L_about_4 : decode c_L_about 4 = .ok (.invokevirtual 56, 3) := by decide +kernel
theorem d_L_about_7 : decode c_L_about 7 = .ok (.i2l, 1) := by decide +kernel
theorem d_L_about_8 : decode c_L_about 8 = .ok (.lastore, 1) := by decide +kernel
theorem d_L_about_9 : decode c_L_about 9 = .ok (.goto 6, 3) := by decide +kernel
theorem d_L_about_12 : decode c_L_about 12 = .ok (.astore_n 3, 1) := by decide +kernel
theorem d_L_about_13 : decode c_L_about 13 = .ok (.iconst 1, 1) := by decide +kernel
theorem d_L_about_14 : decode c_L_about 14 = .ok (.ireturn, 1) := by decide +kernel
theorem d_L_about_15 : decode c_L_about 15 = .ok (.iconst 0, 1) := by decide +kernel
theorem d_L_about_16 : decode c_L_about 16 = .ok (.ireturn, 1) := by decide +kernel
theorem d_L_count_0 : decode c_L_count 0 = .ok (.aload 4, 2) := by decide +kernel
theorem d_L_count_2 : decode c_L_count 2 = .ok (.iconst 0, 1) := by decide +kernel
theorem d_L_count_3 : decode c_L_count 3 = .ok (.aload_n 0, 1) := by decide +kernel
theorem d_L_count_4 : decode c_L_count 4 = .ok (.iload_n 1, 1) := by decide +kernel
theorem d_L_count_5 : decode c_L_count 5 = .ok (.iload_n 2, 1) := by decide +kernel
theorem d_L_count_6 : decode c_L_count 6 = .ok (.iload_n 3, 1) := by decide +kernel
theorem d_L_count_7 : decode c_L_count 7 = .ok (.invokevirtual 59, 3) := by decide +kernel
theorem d_L_count_10 : decode c_L_count 10 = .ok (.i2l, 1) := by decide +kernel
theorem d_L_count_11 : decode c_L_count 11 = .ok (.lastore, 1) := by decide +kernel
theorem d_L_count_12 : decode c_L_count 12 = .ok (.goto 7, 3) := by decide +kernel
theorem d_L_count_15 : decode c_L_count 15 = .ok (.astore 5, 2) := by decide +kernel
theorem d_L_count_17 : decode c_L_count 17 = .ok (.iconst 1, 1) := by decide +kernel
theorem d_L_count_18 : decode c_L_count 18 = .ok (.ireturn, 1) := by decide +kernel
theorem d_L_count_19 : decode c_L_count 19 = .ok (.iconst 0, 1) := by decide +kernel
theorem d_L_count_20 : decode c_L_count 20 = .ok (.ireturn, 1) := by decide +kernel
theorem d_L_find_0 : decode c_L_find 0 = .ok (.aload 5, 2) := by decide +kernel
theorem d_L_find_2 : decode c_L_find 2 = .ok (.iconst 0, 1) := by decide +kernel
theorem d_L_find_3 : decode c_L_find 3 = .ok (.aload_n 0, 1) := by decide +kernel
theorem d_L_find_4 : decode c_L_find 4 = .ok (.lload_n 1, 1) := by decide +kernel
theorem d_L_find_5 : decode c_L_find 5 = .ok (.iload_n 3, 1) := by decide +kernel
theorem d_L_find_6 : decode c_L_find 6 = .ok (.iload 4, 2) := by decide +kernel
theorem d_L_find_8 : decode c_L_find 8 = .ok (.invokevirtual 62, 3) := by decide +kernel
theorem d_L_find_11 : decode c_L_find 11 = .ok (.i2l, 1) := by decide +kernel
theorem d_L_find_12 : decode c_L_find 12 = .ok (.lastore, 1) := by decide +kernel
theorem d_L_find_13 : decode c_L_find 13 = .ok (.goto 7, 3) := by decide +kernel
theorem d_L_find_16 : decode c_L_find 16 = .ok (.astore 6, 2) := by decide +kernel
theorem d_L_find_18 : decode c_L_find 18 = .ok (.iconst 1, 1) := by decide +kernel
theorem d_L_find_19 : decode c_L_find 19 = .ok (.ireturn, 1) := by decide +kernel
theorem d_L_find_20 : decode c_L_find 20 = .ok (.iconst 0, 1) := by decide +kernel
theorem d_L_find_21 : decode c_L_find 21 = .ok (.ireturn, 1) := by decide +kernel
theorem d_L_law_0 : decode c_L_law 0 = .ok (.new 8, 3) := by decide +kernel
theorem d_L_law_3 : decode c_L_law 3 = .ok (.dup, 1) := by decide +kernel
theorem d_L_law_4 : decode c_L_law 4 = .ok (.invokespecial 65, 3) := by decide +kernel
theorem d_L_law_7 : decode c_L_law 7 = .ok (.astore_n 1, 1) := by decide +kernel
theorem d_L_law_8 : decode c_L_law 8 = .ok (.new 66, 3) := by decide +kernel
theorem d_L_law_11 : decode c_L_law 11 = .ok (.dup, 1) := by decide +kernel
theorem d_L_law_12 : decode c_L_law 12 = .ok (.invokespecial 68, 3) := by decide +kernel
theorem d_L_law_15 : decode c_L_law 15 = .ok (.astore_n 2, 1) := by decide +kernel
theorem d_L_law_16 : decode c_L_law 16 = .ok (.iconst 1, 1) := by decide +kernel
theorem d_L_law_17 : decode c_L_law 17 = .ok (.newarray .long, 2) := by decide +kernel
theorem d_L_law_19 : decode c_L_law 19 = .ok (.astore_n 3, 1) := by decide +kernel
theorem d_L_law_20 : decode c_L_law 20 = .ok (.iconst 0, 1) := by decide +kernel
theorem d_L_law_21 : decode c_L_law 21 = .ok (.istore 4, 2) := by decide +kernel
theorem d_L_law_23 : decode c_L_law 23 = .ok (.iload 4, 2) := by decide +kernel
theorem d_L_law_25 : decode c_L_law 25 = .ok (.aload_n 0, 1) := by decide +kernel
theorem d_L_law_26 : decode c_L_law 26 = .ok (.arraylength, 1) := by decide +kernel
theorem d_L_law_27 : decode c_L_law 27 = .ok (.bipush 7, 2) := by decide +kernel
theorem d_L_law_29 : decode c_L_law 29 = .ok (.isub, 1) := by decide +kernel
theorem d_L_law_30 : decode c_L_law 30 = .ok (.if_icmp .gt 1196, 3) := by decide +kernel
theorem d_L_law_33 : decode c_L_law 33 = .ok (.aload_n 0, 1) := by decide +kernel
theorem d_L_law_34 : decode c_L_law 34 = .ok (.iload 4, 2) := by decide +kernel
theorem d_L_law_36 : decode c_L_law 36 = .ok (.iaload, 1) := by decide +kernel
theorem d_L_law_37 : decode c_L_law 37 = .ok (.bipush 31, 2) := by decide +kernel
theorem d_L_law_39 : decode c_L_law 39 = .ok (.iand, 1) := by decide +kernel
theorem d_L_law_40 : decode c_L_law 40 = .ok (.tableswitch 1180 0 17 #[88, 168, 280, 438, 538, 594, 605, 618, 662, 706, 750, 794, 807, 863, 919, 975, 1055, 1167], 88) := by decide +kernel
theorem d_L_law_128 : decode c_L_law 128 = .ok (.aload_n 1, 1) := by decide +kernel
theorem d_L_law_129 : decode c_L_law 129 = .ok (.aload_n 0, 1) := by decide +kernel
theorem d_L_law_130 : decode c_L_law 130 = .ok (.iload 4, 2) := by decide +kernel
theorem d_L_law_132 : decode c_L_law 132 = .ok (.iconst 1, 1) := by decide +kernel
theorem d_L_law_133 : decode c_L_law 133 = .ok (.iadd, 1) := by decide +kernel
theorem d_L_law_134 : decode c_L_law 134 = .ok (.iaload, 1) := by decide +kernel
theorem d_L_law_135 : decode c_L_law 135 = .ok (.aload_n 0, 1) := by decide +kernel
theorem d_L_law_136 : decode c_L_law 136 = .ok (.iload 4, 2) := by decide +kernel
theorem d_L_law_138 : decode c_L_law 138 = .ok (.iconst 2, 1) := by decide +kernel
theorem d_L_law_139 : decode c_L_law 139 = .ok (.iadd, 1) := by decide +kernel
theorem d_L_law_140 : decode c_L_law 140 = .ok (.iaload, 1) := by decide +kernel
theorem d_L_law_141 : decode c_L_law 141 = .ok (.aload_n 0, 1) := by decide +kernel
theorem d_L_law_142 : decode c_L_law 142 = .ok (.iload 4, 2) := by decide +kernel
theorem d_L_law_144 : decode c_L_law 144 = .ok (.iconst 3, 1) := by decide +kernel
theorem d_L_law_145 : decode c_L_law 145 = .ok (.iadd, 1) := by decide +kernel
theorem d_L_law_146 : decode c_L_law 146 = .ok (.iaload, 1) := by decide +kernel
theorem d_L_law_147 : decode c_L_law 147 = .ok (.aload_n 3, 1) := by decide +kernel
theorem d_L_law_148 : decode c_L_law 148 = .ok (.invokestatic 69, 3) := by decide +kernel
theorem d_L_law_151 : decode c_L_law 151 = .ok (.istore 5, 2) := by decide +kernel
theorem d_L_law_153 : decode c_L_law 153 = .ok (.aload_n 2, 1) := by decide +kernel
theorem d_L_law_154 : decode c_L_law 154 = .ok (.aload_n 0, 1) := by decide +kernel
theorem d_L_law_155 : decode c_L_law 155 = .ok (.iload 4, 2) := by decide +kernel
theorem d_L_law_157 : decode c_L_law 157 = .ok (.iconst 1, 1) := by decide +kernel
theorem d_L_law_158 : decode c_L_law 158 = .ok (.iadd, 1) := by decide +kernel
theorem d_L_law_159 : decode c_L_law 159 = .ok (.iaload, 1) := by decide +kernel
theorem d_L_law_160 : decode c_L_law 160 = .ok (.aload_n 0, 1) := by decide +kernel
theorem d_L_law_161 : decode c_L_law 161 = .ok (.iload 4, 2) := by decide +kernel
theorem d_L_law_163 : decode c_L_law 163 = .ok (.iconst 2, 1) := by decide +kernel
theorem d_L_law_164 : decode c_L_law 164 = .ok (.iadd, 1) := by decide +kernel
theorem d_L_law_165 : decode c_L_law 165 = .ok (.iaload, 1) := by decide +kernel
theorem d_L_law_166 : decode c_L_law 166 = .ok (.aload_n 0, 1) := by decide +kernel
theorem d_L_law_167 : decode c_L_law 167 = .ok (.iload 4, 2) := by decide +kernel
theorem d_L_law_169 : decode c_L_law 169 = .ok (.iconst 3, 1) := by decide +kernel
theorem d_L_law_170 : decode c_L_law 170 = .ok (.iadd, 1) := by decide +kernel
theorem d_L_law_171 : decode c_L_law 171 = .ok (.iaload, 1) := by decide +kernel
theorem d_L_law_172 : decode c_L_law 172 = .ok (.invokevirtual 74, 3) := by decide +kernel
theorem d_L_law_175 : decode c_L_law 175 = .ok (.istore 6, 2) := by decide +kernel
theorem d_L_law_177 : decode c_L_law 177 = .ok (.aload_n 2, 1) := by decide +kernel
theorem d_L_law_178 : decode c_L_law 178 = .ok (.invokevirtual 75, 3) := by decide +kernel
theorem d_L_law_181 : decode c_L_law 181 = .ok (.iload 5, 2) := by decide +kernel
theorem d_L_law_183 : decode c_L_law 183 = .ok (.if_icmp .eq 5, 3) := by decide +kernel
theorem d_L_law_186 : decode c_L_law 186 = .ok (.iconst 0, 1) := by decide +kernel
theorem d_L_law_187 : decode c_L_law 187 = .ok (.ireturn, 1) := by decide +kernel
theorem d_L_law_188 : decode c_L_law 188 = .ok (.iload 5, 2) := by decide +kernel
theorem d_L_law_190 : decode c_L_law 190 = .ok (.ifCond .ne 15, 3) := by decide +kernel
theorem d_L_law_193 : decode c_L_law 193 = .ok (.aload_n 3, 1) := by decide +kernel
theorem d_L_law_194 : decode c_L_law 194 = .ok (.iconst 0, 1) := by decide +kernel
theorem d_L_law_195 : decode c_L_law 195 = .ok (.laload, 1) := by decide +kernel
theorem d_L_law_196 : decode c_L_law 196 = .ok (.iload 6, 2) := by decide +kernel
theorem d_L_law_198 : decode c_L_law 198 = .ok (.i2l, 1) := by decide +kernel
theorem d_L_law_199 : decode c_L_law 199 = .ok (.lcmp, 1) := by decide +kernel
theorem d_L_law_200 : decode c_L_law 200 = .ok (.ifCond .eq 5, 3) := by decide +kernel
theorem d_L_law_203 : decode c_L_law 203 = .ok (.iconst 0, 1) := by decide +kernel
theorem d_L_law_204 : decode c_L_law 204 = .ok (.ireturn, 1) := by decide +kernel
theorem d_L_law_205 : decode c_L_law 205 = .ok (.goto 1015, 3) := by decide +kernel
theorem d_L_law_208 : decode c_L_law 208 = .ok (.aload_n 1, 1) := by decide +kernel
theorem d_L_law_209 : decode c_L_law 209 = .ok (.aload_n 0, 1) := by decide +kernel
theorem d_L_law_210 : decode c_L_law 210 = .ok (.iload 4, 2) := by decide +kernel
theorem d_L_law_212 : decode c_L_law 212 = .ok (.iconst 1, 1) := by decide +kernel
theorem d_L_law_213 : decode c_L_law 213 = .ok (.iadd, 1) := by decide +kernel
theorem d_L_law_214 : decode c_L_law 214 = .ok (.iaload, 1) := by decide +kernel
theorem d_L_law_215 : decode c_L_law 215 = .ok (.i2l, 1) := by decide +kernel
theorem d_L_law_216 : decode c_L_law 216 = .ok (.bipush 32, 2) := by decide +kernel
theorem d_L_law_218 : decode c_L_law 218 = .ok (.lshl, 1) := by decide +kernel
theorem d_L_law_219 : decode c_L_law 219 = .ok (.aload_n 0, 1) := by decide +kernel
theorem d_L_law_220 : decode c_L_law 220 = .ok (.iload 4, 2) := by decide +kernel
theorem d_L_law_222 : decode c_L_law 222 = .ok (.iconst 2, 1) := by decide +kernel
theorem d_L_law_223 : decode c_L_law 223 = .ok (.iadd, 1) := by decide +kernel
theorem d_L_law_224 : decode c_L_law 224 = .ok (.iaload, 1) := by decide +kernel
theorem d_L_law_225 : decode c_L_law 225 = .ok (.i2l, 1) := by decide +kernel
theorem d_L_law_226 : decode c_L_law 226 = .ok (.ldc2_w 78, 3) := by decide +kernel
theorem d_L_law_229 : decode c_L_law 229 = .ok (.land, 1) := by decide +kernel
theorem d_L_law_230 : decode c_L_law 230 = .ok (.lor, 1) := by decide +kernel
theorem d_L_law_231 : decode c_L_law 231 = .ok (.aload_n 0, 1) := by decide +kernel
theorem d_L_law_232 : decode c_L_law 232 = .ok (.iload 4, 2) := by decide +kernel
theorem d_L_law_234 : decode c_L_law 234 = .ok (.iconst 3, 1) := by decide +kernel
theorem d_L_law_235 : decode c_L_law 235 = .ok (.iadd, 1) := by decide +kernel
theorem d_L_law_236 : decode c_L_law 236 = .ok (.iaload, 1) := by decide +kernel
theorem d_L_law_237 : decode c_L_law 237 = .ok (.aload_n 0, 1) := by decide +kernel
theorem d_L_law_238 : decode c_L_law 238 = .ok (.iload 4, 2) := by decide +kernel
theorem d_L_law_240 : decode c_L_law 240 = .ok (.iconst 4, 1) := by decide +kernel
theorem d_L_law_241 : decode c_L_law 241 = .ok (.iadd, 1) := by decide +kernel
theorem d_L_law_242 : decode c_L_law 242 = .ok (.iaload, 1) := by decide +kernel
theorem d_L_law_243 : decode c_L_law 243 = .ok (.aload_n 3, 1) := by decide +kernel
theorem d_L_law_244 : decode c_L_law 244 = .ok (.invokestatic 80, 3) := by decide +kernel
theorem d_L_law_247 : decode c_L_law 247 = .ok (.istore 5, 2) := by decide +kernel
theorem d_L_law_249 : decode c_L_law 249 = .ok (.aload_n 2, 1) := by decide +kernel
theorem d_L_law_250 : decode c_L_law 250 = .ok (.aload_n 0, 1) := by decide +kernel
theorem d_L_law_251 : decode c_L_law 251 = .ok (.iload 4, 2) := by decide +kernel
theorem d_L_law_253 : decode c_L_law 253 = .ok (.iconst 1, 1) := by decide +kernel
theorem d_L_law_254 : decode c_L_law 254 = .ok (.iadd, 1) := by decide +kernel
theorem d_L_law_255 : decode c_L_law 255 = .ok (.iaload, 1) := by decide +kernel
theorem d_L_law_256 : decode c_L_law 256 = .ok (.i2l, 1) := by decide +kernel
theorem d_L_law_257 : decode c_L_law 257 = .ok (.bipush 32, 2) := by decide +kernel
theorem d_L_law_259 : decode c_L_law 259 = .ok (.lshl, 1) := by decide +kernel
theorem d_L_law_260 : decode c_L_law 260 = .ok (.aload_n 0, 1) := by decide +kernel
theorem d_L_law_261 : decode c_L_law 261 = .ok (.iload 4, 2) := by decide +kernel
theorem d_L_law_263 : decode c_L_law 263 = .ok (.iconst 2, 1) := by decide +kernel
theorem d_L_law_264 : decode c_L_law 264 = .ok (.iadd, 1) := by decide +kernel
theorem d_L_law_265 : decode c_L_law 265 = .ok (.iaload, 1) := by decide +kernel
theorem d_L_law_266 : decode c_L_law 266 = .ok (.i2l, 1) := by decide +kernel
theorem d_L_law_267 : decode c_L_law 267 = .ok (.ldc2_w 78, 3) := by decide +kernel
theorem d_L_law_270 : decode c_L_law 270 = .ok (.land, 1) := by decide +kernel
theorem d_L_law_271 : decode c_L_law 271 = .ok (.lor, 1) := by decide +kernel
theorem d_L_law_272 : decode c_L_law 272 = .ok (.aload_n 0, 1) := by decide +kernel
theorem d_L_law_273 : decode c_L_law 273 = .ok (.iload 4, 2) := by decide +kernel
theorem d_L_law_275 : decode c_L_law 275 = .ok (.iconst 3, 1) := by decide +kernel
theorem d_L_law_276 : decode c_L_law 276 = .ok (.iadd, 1) := by decide +kernel
theorem d_L_law_277 : decode c_L_law 277 = .ok (.iaload, 1) := by decide +kernel
theorem d_L_law_278 : decode c_L_law 278 = .ok (.aload_n 0, 1) := by decide +kernel
theorem d_L_law_279 : decode c_L_law 279 = .ok (.iload 4, 2) := by decide +kernel
theorem d_L_law_281 : decode c_L_law 281 = .ok (.iconst 4, 1) := by decide +kernel
theorem d_L_law_282 : decode c_L_law 282 = .ok (.iadd, 1) := by decide +kernel
theorem d_L_law_283 : decode c_L_law 283 = .ok (.iaload, 1) := by decide +kernel
theorem d_L_law_284 : decode c_L_law 284 = .ok (.invokevirtual 83, 3) := by decide +kernel
theorem d_L_law_287 : decode c_L_law 287 = .ok (.istore 6, 2) := by decide +kernel
theorem d_L_law_289 : decode c_L_law 289 = .ok (.aload_n 2, 1) := by decide +kernel
theorem d_L_law_290 : decode c_L_law 290 = .ok (.invokevirtual 75, 3) := by decide +kernel
theorem d_L_law_293 : decode c_L_law 293 = .ok (.iload 5, 2) := by decide +kernel
theorem d_L_law_295 : decode c_L_law 295 = .ok (.if_icmp .eq 5, 3) := by decide +kernel
theorem d_L_law_298 : decode c_L_law 298 = .ok (.iconst 0, 1) := by decide +kernel
theorem d_L_law_299 : decode c_L_law 299 = .ok (.ireturn, 1) := by decide +kernel
theorem d_L_law_300 : decode c_L_law 300 = .ok (.iload 5, 2) := by decide +kernel
theorem d_L_law_302 : decode c_L_law 302 = .ok (.ifCond .ne 15, 3) := by decide +kernel
theorem d_L_law_305 : decode c_L_law 305 = .ok (.aload_n 3, 1) := by decide +kernel
theorem d_L_law_306 : decode c_L_law 306 = .ok (.iconst 0, 1) := by decide +kernel
theorem d_L_law_307 : decode c_L_law 307 = .ok (.laload, 1) := by decide +kernel
theorem d_L_law_308 : decode c_L_law 308 = .ok (.iload 6, 2) := by decide +kernel
theorem d_L_law_310 : decode c_L_law 310 = .ok (.i2l, 1) := by decide +kernel
theorem d_L_law_311 : decode c_L_law 311 = .ok (.lcmp, 1) := by decide +kernel
theorem d_L_law_312 : decode c_L_law 312 = .ok (.ifCond .eq 5, 3) := by decide +kernel
theorem d_L_law_315 : decode c_L_law 315 = .ok (.iconst 0, 1) := by decide +kernel
theorem d_L_law_316 : decode c_L_law 316 = .ok (.ireturn, 1) := by decide +kernel
theorem d_L_law_317 : decode c_L_law 317 = .ok (.goto 903, 3) := by decide +kernel
theorem d_L_law_320 : decode c_L_law 320 = .ok (.aload_n 1, 1) := by decide +kernel
theorem d_L_law_321 : decode c_L_law 321 = .ok (.aload_n 0, 1) := by decide +kernel
theorem d_L_law_322 : decode c_L_law 322 = .ok (.iload 4, 2) := by decide +kernel
theorem d_L_law_324 : decode c_L_law 324 = .ok (.iconst 1, 1) := by decide +kernel
theorem d_L_law_325 : decode c_L_law 325 = .ok (.iadd, 1) := by decide +kernel
theorem d_L_law_326 : decode c_L_law 326 = .ok (.iaload, 1) := by decide +kernel
theorem d_L_law_327 : decode c_L_law 327 = .ok (.i2l, 1) := by decide +kernel
theorem d_L_law_328 : decode c_L_law 328 = .ok (.bipush 32, 2) := by decide +kernel
theorem d_L_law_330 : decode c_L_law 330 = .ok (.lshl, 1) := by decide +kernel
theorem d_L_law_331 : decode c_L_law 331 = .ok (.aload_n 0, 1) := by decide +kernel
theorem d_L_law_332 : decode c_L_law 332 = .ok (.iload 4, 2) := by decide +kernel
theorem d_L_law_334 : decode c_L_law 334 = .ok (.iconst 2, 1) := by decide +kernel
theorem d_L_law_335 : decode c_L_law 335 = .ok (.iadd, 1) := by decide +kernel
theorem d_L_law_336 : decode c_L_law 336 = .ok (.iaload, 1) := by decide +kernel
theorem d_L_law_337 : decode c_L_law 337 = .ok (.i2l, 1) := by decide +kernel
theorem d_L_law_338 : decode c_L_law 338 = .ok (.ldc2_w 78, 3) := by decide +kernel
theorem d_L_law_341 : decode c_L_law 341 = .ok (.land, 1) := by decide +kernel
theorem d_L_law_342 : decode c_L_law 342 = .ok (.lor, 1) := by decide +kernel
theorem d_L_law_343 : decode c_L_law 343 = .ok (.aload_n 0, 1) := by decide +kernel
theorem d_L_law_344 : decode c_L_law 344 = .ok (.iload 4, 2) := by decide +kernel
theorem d_L_law_346 : decode c_L_law 346 = .ok (.iconst 3, 1) := by decide +kernel
theorem d_L_law_347 : decode c_L_law 347 = .ok (.iadd, 1) := by decide +kernel
theorem d_L_law_348 : decode c_L_law 348 = .ok (.iaload, 1) := by decide +kernel
theorem d_L_law_349 : decode c_L_law 349 = .ok (.i2l, 1) := by decide +kernel
theorem d_L_law_350 : decode c_L_law 350 = .ok (.bipush 32, 2) := by decide +kernel
theorem d_L_law_352 : decode c_L_law 352 = .ok (.lshl, 1) := by decide +kernel
theorem d_L_law_353 : decode c_L_law 353 = .ok (.aload_n 0, 1) := by decide +kernel
theorem d_L_law_354 : decode c_L_law 354 = .ok (.iload 4, 2) := by decide +kernel
theorem d_L_law_356 : decode c_L_law 356 = .ok (.iconst 4, 1) := by decide +kernel
theorem d_L_law_357 : decode c_L_law 357 = .ok (.iadd, 1) := by decide +kernel
theorem d_L_law_358 : decode c_L_law 358 = .ok (.iaload, 1) := by decide +kernel
theorem d_L_law_359 : decode c_L_law 359 = .ok (.i2l, 1) := by decide +kernel
theorem d_L_law_360 : decode c_L_law 360 = .ok (.ldc2_w 78, 3) := by decide +kernel
theorem d_L_law_363 : decode c_L_law 363 = .ok (.land, 1) := by decide +kernel
theorem d_L_law_364 : decode c_L_law 364 = .ok (.lor, 1) := by decide +kernel
theorem d_L_law_365 : decode c_L_law 365 = .ok (.aload_n 0, 1) := by decide +kernel
theorem d_L_law_366 : decode c_L_law 366 = .ok (.iload 4, 2) := by decide +kernel
theorem d_L_law_368 : decode c_L_law 368 = .ok (.iconst 5, 1) := by decide +kernel
theorem d_L_law_369 : decode c_L_law 369 = .ok (.iadd, 1) := by decide +kernel
theorem d_L_law_370 : decode c_L_law 370 = .ok (.iaload, 1) := by decide +kernel
theorem d_L_law_371 : decode c_L_law 371 = .ok (.aload_n 0, 1) := by decide +kernel
theorem d_L_law_372 : decode c_L_law 372 = .ok (.iload 4, 2) := by decide +kernel
theorem d_L_law_374 : decode c_L_law 374 = .ok (.bipush 6, 2) := by decide +kernel
theorem d_L_law_376 : decode c_L_law 376 = .ok (.iadd, 1) := by decide +kernel
theorem d_L_law_377 : decode c_L_law 377 = .ok (.iaload, 1) := by decide +kernel
theorem d_L_law_378 : decode c_L_law 378 = .ok (.aload_n 3, 1) := by decide +kernel
theorem d_L_law_379 : decode c_L_law 379 = .ok (.invokestatic 84, 3) := by decide +kernel
theorem d_L_law_382 : decode c_L_law 382 = .ok (.istore 5, 2) := by decide +kernel
theorem d_L_law_384 : decode c_L_law 384 = .ok (.aload_n 2, 1) := by decide +kernel
theorem d_L_law_385 : decode c_L_law 385 = .ok (.aload_n 0, 1) := by decide +kernel
theorem d_L_law_386 : decode c_L_law 386 = .ok (.iload 4, 2) := by decide +kernel
theorem d_L_law_388 : decode c_L_law 388 = .ok (.iconst 1, 1) := by decide +kernel
theorem d_L_law_389 : decode c_L_law 389 = .ok (.iadd, 1) := by decide +kernel
theorem d_L_law_390 : decode c_L_law 390 = .ok (.iaload, 1) := by decide +kernel
theorem d_L_law_391 : decode c_L_law 391 = .ok (.i2l, 1) := by decide +kernel
theorem d_L_law_392 : decode c_L_law 392 = .ok (.bipush 32, 2) := by decide +kernel
theorem d_L_law_394 : decode c_L_law 394 = .ok (.lshl, 1) := by decide +kernel
theorem d_L_law_395 : decode c_L_law 395 = .ok (.aload_n 0, 1) := by decide +kernel
theorem d_L_law_396 : decode c_L_law 396 = .ok (.iload 4, 2) := by decide +kernel
theorem d_L_law_398 : decode c_L_law 398 = .ok (.iconst 2, 1) := by decide +kernel
theorem d_L_law_399 : decode c_L_law 399 = .ok (.iadd, 1) := by decide +kernel
theorem d_L_law_400 : decode c_L_law 400 = .ok (.iaload, 1) := by decide +kernel
theorem d_L_law_401 : decode c_L_law 401 = .ok (.i2l, 1) := by decide +kernel
theorem d_L_law_402 : decode c_L_law 402 = .ok (.ldc2_w 78, 3) := by decide +kernel
theorem d_L_law_405 : decode c_L_law 405 = .ok (.land, 1) := by decide +kernel
theorem d_L_law_406 : decode c_L_law 406 = .ok (.lor, 1) := by decide +kernel
theorem d_L_law_407 : decode c_L_law 407 = .ok (.aload_n 0, 1) := by decide +kernel
theorem d_L_law_408 : decode c_L_law 408 = .ok (.iload 4, 2) := by decide +kernel
theorem d_L_law_410 : decode c_L_law 410 = .ok (.iconst 3, 1) := by decide +kernel
theorem d_L_law_411 : decode c_L_law 411 = .ok (.iadd, 1) := by decide +kernel
theorem d_L_law_412 : decode c_L_law 412 = .ok (.iaload, 1) := by decide +kernel
theorem d_L_law_413 : decode c_L_law 413 = .ok (.i2l, 1) := by decide +kernel
theorem d_L_law_414 : decode c_L_law 414 = .ok (.bipush 32, 2) := by decide +kernel
theorem d_L_law_416 : decode c_L_law 416 = .ok (.lshl, 1) := by decide +kernel
theorem d_L_law_417 : decode c_L_law 417 = .ok (.aload_n 0, 1) := by decide +kernel
theorem d_L_law_418 : decode c_L_law 418 = .ok (.iload 4, 2) := by decide +kernel
theorem d_L_law_420 : decode c_L_law 420 = .ok (.iconst 4, 1) := by decide +kernel
theorem d_L_law_421 : decode c_L_law 421 = .ok (.iadd, 1) := by decide +kernel
theorem d_L_law_422 : decode c_L_law 422 = .ok (.iaload, 1) := by decide +kernel
theorem d_L_law_423 : decode c_L_law 423 = .ok (.i2l, 1) := by decide +kernel
theorem d_L_law_424 : decode c_L_law 424 = .ok (.ldc2_w 78, 3) := by decide +kernel
theorem d_L_law_427 : decode c_L_law 427 = .ok (.land, 1) := by decide +kernel
theorem d_L_law_428 : decode c_L_law 428 = .ok (.lor, 1) := by decide +kernel
theorem d_L_law_429 : decode c_L_law 429 = .ok (.aload_n 0, 1) := by decide +kernel
theorem d_L_law_430 : decode c_L_law 430 = .ok (.iload 4, 2) := by decide +kernel
theorem d_L_law_432 : decode c_L_law 432 = .ok (.iconst 5, 1) := by decide +kernel
theorem d_L_law_433 : decode c_L_law 433 = .ok (.iadd, 1) := by decide +kernel
theorem d_L_law_434 : decode c_L_law 434 = .ok (.iaload, 1) := by decide +kernel
theorem d_L_law_435 : decode c_L_law 435 = .ok (.aload_n 0, 1) := by decide +kernel
theorem d_L_law_436 : decode c_L_law 436 = .ok (.iload 4, 2) := by decide +kernel
theorem d_L_law_438 : decode c_L_law 438 = .ok (.bipush 6, 2) := by decide +kernel
theorem d_L_law_440 : decode c_L_law 440 = .ok (.iadd, 1) := by decide +kernel
theorem d_L_law_441 : decode c_L_law 441 = .ok (.iaload, 1) := by decide +kernel
theorem d_L_law_442 : decode c_L_law 442 = .ok (.invokevirtual 87, 3) := by decide +kernel
theorem d_L_law_445 : decode c_L_law 445 = .ok (.istore 6, 2) := by decide +kernel
theorem d_L_law_447 : decode c_L_law 447 = .ok (.aload_n 2, 1) := by decide +kernel
theorem d_L_law_448 : decode c_L_law 448 = .ok (.invokevirtual 75, 3) := by decide +kernel
theorem d_L_law_451 : decode c_L_law 451 = .ok (.iload 5, 2) := by decide +kernel
theorem d_L_law_453 : decode c_L_law 453 = .ok (.if_icmp .eq 5, 3) := by decide +kernel
theorem d_L_law_456 : decode c_L_law 456 = .ok (.iconst 0, 1) := by decide +kernel
theorem d_L_law_457 : decode c_L_law 457 = .ok (.ireturn, 1) := by decide +kernel
theorem d_L_law_458 : decode c_L_law 458 = .ok (.iload 5, 2) := by decide +kernel
theorem d_L_law_460 : decode c_L_law 460 = .ok (.ifCond .ne 15, 3) := by decide +kernel
theorem d_L_law_463 : decode c_L_law 463 = .ok (.aload_n 3, 1) := by decide +kernel
theorem d_L_law_464 : decode c_L_law 464 = .ok (.iconst 0, 1) := by decide +kernel
theorem d_L_law_465 : decode c_L_law 465 = .ok (.laload, 1) := by decide +kernel
theorem d_L_law_466 : decode c_L_law 466 = .ok (.iload 6, 2) := by decide +kernel
theorem d_L_law_468 : decode c_L_law 468 = .ok (.i2l, 1) := by decide +kernel
theorem d_L_law_469 : decode c_L_law 469 = .ok (.lcmp, 1) := by decide +kernel
theorem d_L_law_470 : decode c_L_law 470 = .ok (.ifCond .eq 5, 3) := by decide +kernel
theorem d_L_law_473 : decode c_L_law 473 = .ok (.iconst 0, 1) := by decide +kernel
theorem d_L_law_474 : decode c_L_law 474 = .ok (.ireturn, 1) := by decide +kernel
theorem d_L_law_475 : decode c_L_law 475 = .ok (.goto 745, 3) := by decide +kernel
theorem d_L_law_478 : decode c_L_law 478 = .ok (.aload_n 1, 1) := by decide +kernel
theorem d_L_law_479 : decode c_L_law 479 = .ok (.aload_n 0, 1) := by decide +kernel
theorem d_L_law_480 : decode c_L_law 480 = .ok (.iload 4, 2) := by decide +kernel
theorem d_L_law_482 : decode c_L_law 482 = .ok (.iconst 1, 1) := by decide +kernel
theorem d_L_law_483 : decode c_L_law 483 = .ok (.iadd, 1) := by decide +kernel
theorem d_L_law_484 : decode c_L_law 484 = .ok (.iaload, 1) := by decide +kernel
theorem d_L_law_485 : decode c_L_law 485 = .ok (.i2l, 1) := by decide +kernel
theorem d_L_law_486 : decode c_L_law 486 = .ok (.bipush 32, 2) := by decide +kernel
theorem d_L_law_488 : decode c_L_law 488 = .ok (.lshl, 1) := by decide +kernel
theorem d_L_law_489 : decode c_L_law 489 = .ok (.aload_n 0, 1) := by decide +kernel
theorem d_L_law_490 : decode c_L_law 490 = .ok (.iload 4, 2) := by decide +kernel
theorem d_L_law_492 : decode c_L_law 492 = .ok (.iconst 2, 1) := by decide +kernel
theorem d_L_law_493 : decode c_L_law 493 = .ok (.iadd, 1) := by decide +kernel
theorem d_L_law_494 : decode c_L_law 494 = .ok (.iaload, 1) := by decide +kernel
theorem d_L_law_495 : decode c_L_law 495 = .ok (.i2l, 1) := by decide +kernel
theorem d_L_law_496 : decode c_L_law 496 = .ok (.ldc2_w 78, 3) := by decide +kernel
theorem d_L_law_499 : decode c_L_law 499 = .ok (.land, 1) := by decide +kernel
theorem d_L_law_500 : decode c_L_law 500 = .ok (.lor, 1) := by decide +kernel
theorem d_L_law_501 : decode c_L_law 501 = .ok (.aload_n 0, 1) := by decide +kernel
theorem d_L_law_502 : decode c_L_law 502 = .ok (.iload 4, 2) := by decide +kernel
theorem d_L_law_504 : decode c_L_law 504 = .ok (.iconst 3, 1) := by decide +kernel
theorem d_L_law_505 : decode c_L_law 505 = .ok (.iadd, 1) := by decide +kernel
theorem d_L_law_506 : decode c_L_law 506 = .ok (.iaload, 1) := by decide +kernel
theorem d_L_law_507 : decode c_L_law 507 = .ok (.aload_n 3, 1) := by decide +kernel
theorem d_L_law_508 : decode c_L_law 508 = .ok (.invokestatic 88, 3) := by decide +kernel
theorem d_L_law_511 : decode c_L_law 511 = .ok (.istore 5, 2) := by decide +kernel
theorem d_L_law_513 : decode c_L_law 513 = .ok (.aload_n 2, 1) := by decide +kernel
theorem d_L_law_514 : decode c_L_law 514 = .ok (.aload_n 0, 1) := by decide +kernel
theorem d_L_law_515 : decode c_L_law 515 = .ok (.iload 4, 2) := by decide +kernel
theorem d_L_law_517 : decode c_L_law 517 = .ok (.iconst 1, 1) := by decide +kernel
theorem d_L_law_518 : decode c_L_law 518 = .ok (.iadd, 1) := by decide +kernel
theorem d_L_law_519 : decode c_L_law 519 = .ok (.iaload, 1) := by decide +kernel
theorem d_L_law_520 : decode c_L_law 520 = .ok (.i2l, 1) := by decide +kernel
theorem d_L_law_521 : decode c_L_law 521 = .ok (.bipush 32, 2) := by decide +kernel
theorem d_L_law_523 : decode c_L_law 523 = .ok (.lshl, 1) := by decide +kernel
theorem d_L_law_524 : decode c_L_law 524 = .ok (.aload_n 0, 1) := by decide +kernel
theorem d_L_law_525 : decode c_L_law 525 = .ok (.iload 4, 2) := by decide +kernel
theorem d_L_law_527 : decode c_L_law 527 = .ok (.iconst 2, 1) := by decide +kernel
theorem d_L_law_528 : decode c_L_law 528 = .ok (.iadd, 1) := by decide +kernel
theorem d_L_law_529 : decode c_L_law 529 = .ok (.iaload, 1) := by decide +kernel
theorem d_L_law_530 : decode c_L_law 530 = .ok (.i2l, 1) := by decide +kernel
theorem d_L_law_531 : decode c_L_law 531 = .ok (.ldc2_w 78, 3) := by decide +kernel
theorem d_L_law_534 : decode c_L_law 534 = .ok (.land, 1) := by decide +kernel
theorem d_L_law_535 : decode c_L_law 535 = .ok (.lor, 1) := by decide +kernel
theorem d_L_law_536 : decode c_L_law 536 = .ok (.aload_n 0, 1) := by decide +kernel
theorem d_L_law_537 : decode c_L_law 537 = .ok (.iload 4, 2) := by decide +kernel
theorem d_L_law_539 : decode c_L_law 539 = .ok (.iconst 3, 1) := by decide +kernel
theorem d_L_law_540 : decode c_L_law 540 = .ok (.iadd, 1) := by decide +kernel
theorem d_L_law_541 : decode c_L_law 541 = .ok (.iaload, 1) := by decide +kernel
theorem d_L_law_542 : decode c_L_law 542 = .ok (.invokevirtual 91, 3) := by decide +kernel
theorem d_L_law_545 : decode c_L_law 545 = .ok (.istore 6, 2) := by decide +kernel
theorem d_L_law_547 : decode c_L_law 547 = .ok (.aload_n 2, 1) := by decide +kernel
theorem d_L_law_548 : decode c_L_law 548 = .ok (.invokevirtual 75, 3) := by decide +kernel
theorem d_L_law_551 : decode c_L_law 551 = .ok (.iload 5, 2) := by decide +kernel
theorem d_L_law_553 : decode c_L_law 553 = .ok (.if_icmp .eq 5, 3) := by decide +kernel
theorem d_L_law_556 : decode c_L_law 556 = .ok (.iconst 0, 1) := by decide +kernel
theorem d_L_law_557 : decode c_L_law 557 = .ok (.ireturn, 1) := by decide +kernel
theorem d_L_law_558 : decode c_L_law 558 = .ok (.iload 5, 2) := by decide +kernel
theorem d_L_law_560 : decode c_L_law 560 = .ok (.ifCond .ne 15, 3) := by decide +kernel
theorem d_L_law_563 : decode c_L_law 563 = .ok (.aload_n 3, 1) := by decide +kernel
theorem d_L_law_564 : decode c_L_law 564 = .ok (.iconst 0, 1) := by decide +kernel
theorem d_L_law_565 : decode c_L_law 565 = .ok (.laload, 1) := by decide +kernel
theorem d_L_law_566 : decode c_L_law 566 = .ok (.iload 6, 2) := by decide +kernel
theorem d_L_law_568 : decode c_L_law 568 = .ok (.i2l, 1) := by decide +kernel
theorem d_L_law_569 : decode c_L_law 569 = .ok (.lcmp, 1) := by decide +kernel
theorem d_L_law_570 : decode c_L_law 570 = .ok (.ifCond .eq 5, 3) := by decide +kernel
theorem d_L_law_573 : decode c_L_law 573 = .ok (.iconst 0, 1) := by decide +kernel
theorem d_L_law_574 : decode c_L_law 574 = .ok (.ireturn, 1) := by decide +kernel
theorem d_L_law_575 : decode c_L_law 575 = .ok (.goto 645, 3) := by decide +kernel
theorem d_L_law_578 : decode c_L_law 578 = .ok (.aload_n 1, 1) := by decide +kernel
theorem d_L_law_579 : decode c_L_law 579 = .ok (.aload_n 0, 1) := by decide +kernel
theorem d_L_law_580 : decode c_L_law 580 = .ok (.iload 4, 2) := by decide +kernel
theorem d_L_law_582 : decode c_L_law 582 = .ok (.iconst 1, 1) := by decide +kernel
theorem d_L_law_583 : decode c_L_law 583 = .ok (.iadd, 1) := by decide +kernel
theorem d_L_law_584 : decode c_L_law 584 = .ok (.iaload, 1) := by decide +kernel
theorem d_L_law_585 : decode c_L_law 585 = .ok (.aload_n 3, 1) := by decide +kernel
theorem d_L_law_586 : decode c_L_law 586 = .ok (.invokestatic 92, 3) := by decide +kernel
theorem d_L_law_589 : decode c_L_law 589 = .ok (.istore 5, 2) := by decide +kernel
theorem d_L_law_591 : decode c_L_law 591 = .ok (.aload_n 2, 1) := by decide +kernel
theorem d_L_law_592 : decode c_L_law 592 = .ok (.aload_n 0, 1) := by decide +kernel
theorem d_L_law_593 : decode c_L_law 593 = .ok (.iload 4, 2) := by decide +kernel
theorem d_L_law_595 : decode c_L_law 595 = .ok (.iconst 1, 1) := by decide +kernel
theorem d_L_law_596 : decode c_L_law 596 = .ok (.iadd, 1) := by decide +kernel
theorem d_L_law_597 : decode c_L_law 597 = .ok (.iaload, 1) := by decide +kernel
theorem d_L_law_598 : decode c_L_law 598 = .ok (.invokevirtual 95, 3) := by decide +kernel
theorem d_L_law_601 : decode c_L_law 601 = .ok (.istore 6, 2) := by decide +kernel
theorem d_L_law_603 : decode c_L_law 603 = .ok (.aload_n 2, 1) := by decide +kernel
theorem d_L_law_604 : decode c_L_law 604 = .ok (.invokevirtual 75, 3) := by decide +kernel
theorem d_L_law_607 : decode c_L_law 607 = .ok (.iload 5, 2) := by decide +kernel
theorem d_L_law_609 : decode c_L_law 609 = .ok (.if_icmp .eq 5, 3) := by decide +kernel
theorem d_L_law_612 : decode c_L_law 612 = .ok (.iconst 0, 1) := by decide +kernel
theorem d_L_law_613 : decode c_L_law 613 = .ok (.ireturn, 1) := by decide +kernel
theorem d_L_law_614 : decode c_L_law 614 = .ok (.iload 5, 2) := by decide +kernel
theorem d_L_law_616 : decode c_L_law 616 = .ok (.ifCond .ne 15, 3) := by decide +kernel
theorem d_L_law_619 : decode c_L_law 619 = .ok (.aload_n 3, 1) := by decide +kernel
theorem d_L_law_620 : decode c_L_law 620 = .ok (.iconst 0, 1) := by decide +kernel
theorem d_L_law_621 : decode c_L_law 621 = .ok (.laload, 1) := by decide +kernel
theorem d_L_law_622 : decode c_L_law 622 = .ok (.iload 6, 2) := by decide +kernel
theorem d_L_law_624 : decode c_L_law 624 = .ok (.i2l, 1) := by decide +kernel
theorem d_L_law_625 : decode c_L_law 625 = .ok (.lcmp, 1) := by decide +kernel
theorem d_L_law_626 : decode c_L_law 626 = .ok (.ifCond .eq 5, 3) := by decide +kernel
theorem d_L_law_629 : decode c_L_law 629 = .ok (.iconst 0, 1) := by decide +kernel
theorem d_L_law_630 : decode c_L_law 630 = .ok (.ireturn, 1) := by decide +kernel
theorem d_L_law_631 : decode c_L_law 631 = .ok (.goto 589, 3) := by decide +kernel
theorem d_L_law_634 : decode c_L_law 634 = .ok (.aload_n 1, 1) := by decide +kernel
theorem d_L_law_635 : decode c_L_law 635 = .ok (.invokevirtual 96, 3) := by decide +kernel
theorem d_L_law_638 : decode c_L_law 638 = .ok (.aload_n 2, 1) := by decide +kernel
theorem d_L_law_639 : decode c_L_law 639 = .ok (.invokevirtual 99, 3) := by decide +kernel
theorem d_L_law_642 : decode c_L_law 642 = .ok (.goto 578, 3) := by decide +kernel
theorem d_L_law_645 : decode c_L_law 645 = .ok (.aload_n 1, 1) := by decide +kernel
theorem d_L_law_646 : decode c_L_law 646 = .ok (.invokevirtual 100, 3) := by decide +kernel
theorem d_L_law_649 : decode c_L_law 649 = .ok (.aload_n 2, 1) := by decide +kernel
theorem d_L_law_650 : decode c_L_law 650 = .ok (.invokevirtual 103, 3) := by decide +kernel
theorem d_L_law_653 : decode c_L_law 653 = .ok (.if_icmp .eq 567, 3) := by decide +kernel
theorem d_L_law_656 : decode c_L_law 656 = .ok (.iconst 0, 1) := by decide +kernel
theorem d_L_law_657 : decode c_L_law 657 = .ok (.ireturn, 1) := by decide +kernel
theorem d_L_law_658 : decode c_L_law 658 = .ok (.aload_n 1, 1) := by decide +kernel
theorem d_L_law_659 : decode c_L_law 659 = .ok (.aload_n 3, 1) := by decide +kernel
theorem d_L_law_660 : decode c_L_law 660 = .ok (.invokestatic 104, 3) := by decide +kernel
theorem d_L_law_663 : decode c_L_law 663 = .ok (.istore 5, 2) := by decide +kernel
theorem d_L_law_665 : decode c_L_law 665 = .ok (.aload_n 2, 1) := by decide +kernel
theorem d_L_law_666 : decode c_L_law 666 = .ok (.invokevirtual 107, 3) := by decide +kernel
theorem d_L_law_669 : decode c_L_law 669 = .ok (.istore 6, 2) := by decide +kernel
theorem d_L_law_671 : decode c_L_law 671 = .ok (.aload_n 2, 1) := by decide +kernel
theorem d_L_law_672 : decode c_L_law 672 = .ok (.invokevirtual 75, 3) := by decide +kernel
theorem d_L_law_675 : decode c_L_law 675 = .ok (.iload 5, 2) := by decide +kernel
theorem d_L_law_677 : decode c_L_law 677 = .ok (.if_icmp .eq 5, 3) := by decide +kernel
theorem d_L_law_680 : decode c_L_law 680 = .ok (.iconst 0, 1) := by decide +kernel
theorem d_L_law_681 : decode c_L_law 681 = .ok (.ireturn, 1) := by decide +kernel
theorem d_L_law_682 : decode c_L_law 682 = .ok (.iload 5, 2) := by decide +kernel
theorem d_L_law_684 : decode c_L_law 684 = .ok (.ifCond .ne 15, 3) := by decide +kernel
theorem d_L_law_687 : decode c_L_law 687 = .ok (.aload_n 3, 1) := by decide +kernel
theorem d_L_law_688 : decode c_L_law 688 = .ok (.iconst 0, 1) := by decide +kernel
theorem d_L_law_689 : decode c_L_law 689 = .ok (.laload, 1) := by decide +kernel
theorem d_L_law_690 : decode c_L_law 690 = .ok (.iload 6, 2) := by decide +kernel
theorem d_L_law_692 : decode c_L_law 692 = .ok (.i2l, 1) := by decide +kernel
theorem d_L_law_693 : decode c_L_law 693 = .ok (.lcmp, 1) := by decide +kernel
theorem d_L_law_694 : decode c_L_law 694 = .ok (.ifCond .eq 5, 3) := by decide +kernel
theorem d_L_law_697 : decode c_L_law 697 = .ok (.iconst 0, 1) := by decide +kernel
theorem d_L_law_698 : decode c_L_law 698 = .ok (.ireturn, 1) := by decide +kernel
theorem d_L_law_699 : decode c_L_law 699 = .ok (.goto 521, 3) := by decide +kernel
theorem d_L_law_702 : decode c_L_law 702 = .ok (.aload_n 1, 1) := by decide +kernel
theorem d_L_law_703 : decode c_L_law 703 = .ok (.aload_n 3, 1) := by decide +kernel
theorem d_L_law_704 : decode c_L_law 704 = .ok (.invokestatic 108, 3) := by decide +kernel
theorem d_L_law_707 : decode c_L_law 707 = .ok (.istore 5, 2) := by decide +kernel
theorem d_L_law_709 : decode c_L_law 709 = .ok (.aload_n 2, 1) := by decide +kernel
theorem d_L_law_710 : decode c_L_law 710 = .ok (.invokevirtual 110, 3) := by decide +kernel
theorem d_L_law_713 : decode c_L_law 713 = .ok (.istore 6, 2) := by decide +kernel
theorem d_L_law_715 : decode c_L_law 715 = .ok (.aload_n 2, 1) := by decide +kernel
theorem d_L_law_716 : decode c_L_law 716 = .ok (.invokevirtual 75, 3) := by decide +kernel
theorem d_L_law_719 : decode c_L_law 719 = .ok (.iload 5, 2) := by decide +kernel
theorem d_L_law_721 : decode c_L_law 721 = .ok (.if_icmp .eq 5, 3) := by decide +kernel
theorem d_L_law_724 : decode c_L_law 724 = .ok (.iconst 0, 1) := by decide +kernel
theorem d_L_law_725 : decode c_L_law 725 = .ok (.ireturn, 1) := by decide +kernel
theorem d_L_law_726 : decode c_L_law 726 = .ok (.iload 5, 2) := by decide +kernel
theorem d_L_law_728 : decode c_L_law 728 = .ok (.ifCond .ne 15, 3) := by decide +kernel
theorem d_L_law_731 : decode c_L_law 731 = .ok (.aload_n 3, 1) := by decide +kernel
theorem d_L_law_732 : decode c_L_law 732 = .ok (.iconst 0, 1) := by decide +kernel
theorem d_L_law_733 : decode c_L_law 733 = .ok (.laload, 1) := by decide +kernel
theorem d_L_law_734 : decode c_L_law 734 = .ok (.iload 6, 2) := by decide +kernel
theorem d_L_law_736 : decode c_L_law 736 = .ok (.i2l, 1) := by decide +kernel
theorem d_L_law_737 : decode c_L_law 737 = .ok (.lcmp, 1) := by decide +kernel
theorem d_L_law_738 : decode c_L_law 738 = .ok (.ifCond .eq 5, 3) := by decide +kernel
theorem d_L_law_741 : decode c_L_law 741 = .ok (.iconst 0, 1) := by decide +kernel
theorem d_L_law_742 : decode c_L_law 742 = .ok (.ireturn, 1) := by decide +kernel
theorem d_L_law_743 : decode c_L_law 743 = .ok (.goto 477, 3) := by decide +kernel
theorem d_L_law_746 : decode c_L_law 746 = .ok (.aload_n 1, 1) := by decide +kernel
theorem d_L_law_747 : decode c_L_law 747 = .ok (.aload_n 3, 1) := by decide +kernel
theorem d_L_law_748 : decode c_L_law 748 = .ok (.invokestatic 111, 3) := by decide +kernel
theorem d_L_law_751 : decode c_L_law 751 = .ok (.istore 5, 2) := by decide +kernel
theorem d_L_law_753 : decode c_L_law 753 = .ok (.aload_n 2, 1) := by decide +kernel
theorem d_L_law_754 : decode c_L_law 754 = .ok (.invokevirtual 113, 3) := by decide +kernel
theorem d_L_law_757 : decode c_L_law 757 = .ok (.istore 6, 2) := by decide +kernel
theorem d_L_law_759 : decode c_L_law 759 = .ok (.aload_n 2, 1) := by decide +kernel
theorem d_L_law_760 : decode c_L_law 760 = .ok (.invokevirtual 75, 3) := by decide +kernel
theorem d_L_law_763 : decode c_L_law 763 = .ok (.iload 5, 2) := by decide +kernel
theorem d_L_law_765 : decode c_L_law 765 = .ok (.if_icmp .eq 5, 3) := by decide +kernel
theorem d_L_law_768 : decode c_L_law 768 = .ok (.iconst 0, 1) := by decide +kernel
theorem d_L_law_769 : decode c_L_law 769 = .ok (.ireturn, 1) := by decide +kernel
theorem d_L_law_770 : decode c_L_law 770 = .ok (.iload 5, 2) := by decide +kernel
theorem d_L_law_772 : decode c_L_law 772 = .ok (.ifCond .ne 15, 3) := by decide +kernel
theorem d_L_law_775 : decode c_L_law 775 = .ok (.aload_n 3, 1) := by decide +kernel
theorem d_L_law_776 : decode c_L_law 776 = .ok (.iconst 0, 1) := by decide +kernel
theorem d_L_law_777 : decode c_L_law 777 = .ok (.laload, 1) := by decide +kernel
theorem d_L_law_778 : decode c_L_law 778 = .ok (.iload 6, 2) := by decide +kernel
theorem d_L_law_780 : decode c_L_law 780 = .ok (.i2l, 1) := by decide +kernel
theorem d_L_law_781 : decode c_L_law 781 = .ok (.lcmp, 1) := by decide +kernel
theorem d_L_law_782 : decode c_L_law 782 = .ok (.ifCond .eq 5, 3) := by decide +kernel
theorem d_L_law_785 : decode c_L_law 785 = .ok (.iconst 0, 1) := by decide +kernel
theorem d_L_law_786 : decode c_L_law 786 = .ok (.ireturn, 1) := by decide +kernel
theorem d_L_law_787 : decode c_L_law 787 = .ok (.goto 433, 3) := by decide +kernel
theorem d_L_law_790 : decode c_L_law 790 = .ok (.aload_n 1, 1) := by decide +kernel
theorem d_L_law_791 : decode c_L_law 791 = .ok (.aload_n 3, 1) := by decide +kernel
theorem d_L_law_792 : decode c_L_law 792 = .ok (.invokestatic 114, 3) := by decide +kernel
theorem d_L_law_795 : decode c_L_law 795 = .ok (.istore 5, 2) := by decide +kernel
theorem d_L_law_797 : decode c_L_law 797 = .ok (.aload_n 2, 1) := by decide +kernel
theorem d_L_law_798 : decode c_L_law 798 = .ok (.invokevirtual 116, 3) := by decide +kernel
theorem d_L_law_801 : decode c_L_law 801 = .ok (.istore 6, 2) := by decide +kernel
theorem d_L_law_803 : decode c_L_law 803 = .ok (.aload_n 2, 1) := by decide +kernel
theorem d_L_law_804 : decode c_L_law 804 = .ok (.invokevirtual 75, 3) := by decide +kernel
theorem d_L_law_807 : decode c_L_law 807 = .ok (.iload 5, 2) := by decide +kernel
theorem d_L_law_809 : decode c_L_law 809 = .ok (.if_icmp .eq 5, 3) := by decide +kernel
theorem d_L_law_812 : decode c_L_law 812 = .ok (.iconst 0, 1) := by decide +kernel
theorem d_L_law_813 : decode c_L_law 813 = .ok (.ireturn, 1) := by decide +kernel
theorem d_L_law_814 : decode c_L_law 814 = .ok (.iload 5, 2) := by decide +kernel
theorem d_L_law_816 : decode c_L_law 816 = .ok (.ifCond .ne 15, 3) := by decide +kernel
theorem d_L_law_819 : decode c_L_law 819 = .ok (.aload_n 3, 1) := by decide +kernel
theorem d_L_law_820 : decode c_L_law 820 = .ok (.iconst 0, 1) := by decide +kernel
theorem d_L_law_821 : decode c_L_law 821 = .ok (.laload, 1) := by decide +kernel
theorem d_L_law_822 : decode c_L_law 822 = .ok (.iload 6, 2) := by decide +kernel
theorem d_L_law_824 : decode c_L_law 824 = .ok (.i2l, 1) := by decide +kernel
theorem d_L_law_825 : decode c_L_law 825 = .ok (.lcmp, 1) := by decide +kernel
theorem d_L_law_826 : decode c_L_law 826 = .ok (.ifCond .eq 5, 3) := by decide +kernel
theorem d_L_law_829 : decode c_L_law 829 = .ok (.iconst 0, 1) := by decide +kernel
theorem d_L_law_830 : decode c_L_law 830 = .ok (.ireturn, 1) := by decide +kernel
theorem d_L_law_831 : decode c_L_law 831 = .ok (.goto 389, 3) := by decide +kernel
theorem d_L_law_834 : decode c_L_law 834 = .ok (.aload_n 1, 1) := by decide +kernel
theorem d_L_law_835 : decode c_L_law 835 = .ok (.invokevirtual 117, 3) := by decide +kernel
theorem d_L_law_838 : decode c_L_law 838 = .ok (.aload_n 2, 1) := by decide +kernel
theorem d_L_law_839 : decode c_L_law 839 = .ok (.invokevirtual 120, 3) := by decide +kernel
theorem d_L_law_842 : decode c_L_law 842 = .ok (.if_icmp .eq 378, 3) := by decide +kernel
theorem d_L_law_845 : decode c_L_law 845 = .ok (.iconst 0, 1) := by decide +kernel
theorem d_L_law_846 : decode c_L_law 846 = .ok (.ireturn, 1) := by decide +kernel
theorem d_L_law_847 : decode c_L_law 847 = .ok (.aload_n 1, 1) := by decide +kernel
theorem d_L_law_848 : decode c_L_law 848 = .ok (.aload_n 0, 1) := by decide +kernel
theorem d_L_law_849 : decode c_L_law 849 = .ok (.iload 4, 2) := by decide +kernel
theorem d_L_law_851 : decode c_L_law 851 = .ok (.iconst 1, 1) := by decide +kernel
theorem d_L_law_852 : decode c_L_law 852 = .ok (.iadd, 1) := by decide +kernel
theorem d_L_law_853 : decode c_L_law 853 = .ok (.iaload, 1) := by decide +kernel
theorem d_L_law_854 : decode c_L_law 854 = .ok (.aload_n 3, 1) := by decide +kernel
theorem d_L_law_855 : decode c_L_law 855 = .ok (.invokestatic 121, 3) := by decide +kernel
theorem d_L_law_858 : decode c_L_law 858 = .ok (.istore 5, 2) := by decide +kernel
theorem d_L_law_860 : decode c_L_law 860 = .ok (.aload_n 2, 1) := by decide +kernel
theorem d_L_law_861 : decode c_L_law 861 = .ok (.aload_n 0, 1) := by decide +kernel
theorem d_L_law_862 : decode c_L_law 862 = .ok (.iload 4, 2) := by decide +kernel
theorem d_L_law_864 : decode c_L_law 864 = .ok (.iconst 1, 1) := by decide +kernel
theorem d_L_law_865 : decode c_L_law 865 = .ok (.iadd, 1) := by decide +kernel
theorem d_L_law_866 : decode c_L_law 866 = .ok (.iaload, 1) := by decide +kernel
theorem d_L_law_867 : decode c_L_law 867 = .ok (.invokevirtual 123, 3) := by decide +kernel
theorem d_L_law_870 : decode c_L_law 870 = .ok (.istore 6, 2) := by decide +kernel
theorem d_L_law_872 : decode c_L_law 872 = .ok (.aload_n 2, 1) := by decide +kernel
theorem d_L_law_873 : decode c_L_law 873 = .ok (.invokevirtual 75, 3) := by decide +kernel
theorem d_L_law_876 : decode c_L_law 876 = .ok (.iload 5, 2) := by decide +kernel
theorem d_L_law_878 : decode c_L_law 878 = .ok (.if_icmp .eq 5, 3) := by decide +kernel
theorem d_L_law_881 : decode c_L_law 881 = .ok (.iconst 0, 1) := by decide +kernel
theorem d_L_law_882 : decode c_L_law 882 = .ok (.ireturn, 1) := by decide +kernel
theorem d_L_law_883 : decode c_L_law 883 = .ok (.iload 5, 2) := by decide +kernel
theorem d_L_law_885 : decode c_L_law 885 = .ok (.ifCond .ne 15, 3) := by decide +kernel
theorem d_L_law_888 : decode c_L_law 888 = .ok (.aload_n 3, 1) := by decide +kernel
theorem d_L_law_889 : decode c_L_law 889 = .ok (.iconst 0, 1) := by decide +kernel
theorem d_L_law_890 : decode c_L_law 890 = .ok (.laload, 1) := by decide +kernel
theorem d_L_law_891 : decode c_L_law 891 = .ok (.iload 6, 2) := by decide +kernel
theorem d_L_law_893 : decode c_L_law 893 = .ok (.i2l, 1) := by decide +kernel
theorem d_L_law_894 : decode c_L_law 894 = .ok (.lcmp, 1) := by decide +kernel
theorem d_L_law_895 : decode c_L_law 895 = .ok (.ifCond .eq 5, 3) := by decide +kernel
theorem d_L_law_898 : decode c_L_law 898 = .ok (.iconst 0, 1) := by decide +kernel
theorem d_L_law_899 : decode c_L_law 899 = .ok (.ireturn, 1) := by decide +kernel
theorem d_L_law_900 : decode c_L_law 900 = .ok (.goto 320, 3) := by decide +kernel
theorem d_L_law_903 : decode c_L_law 903 = .ok (.aload_n 1, 1) := by decide +kernel
theorem d_L_law_904 : decode c_L_law 904 = .ok (.aload_n 0, 1) := by decide +kernel
theorem d_L_law_905 : decode c_L_law 905 = .ok (.iload 4, 2) := by decide +kernel
theorem d_L_law_907 : decode c_L_law 907 = .ok (.iconst 1, 1) := by decide +kernel
theorem d_L_law_908 : decode c_L_law 908 = .ok (.iadd, 1) := by decide +kernel
theorem d_L_law_909 : decode c_L_law 909 = .ok (.iaload, 1) := by decide +kernel
theorem d_L_law_910 : decode c_L_law 910 = .ok (.aload_n 3, 1) := by decide +kernel
theorem d_L_law_911 : decode c_L_law 911 = .ok (.invokestatic 124, 3) := by decide +kernel
theorem d_L_law_914 : decode c_L_law 914 = .ok (.istore 5, 2) := by decide +kernel
theorem d_L_law_916 : decode c_L_law 916 = .ok (.aload_n 2, 1) := by decide +kernel
theorem d_L_law_917 : decode c_L_law 917 = .ok (.aload_n 0, 1) := by decide +kernel
theorem d_L_law_918 : decode c_L_law 918 = .ok (.iload 4, 2) := by decide +kernel
theorem d_L_law_920 : decode c_L_law 920 = .ok (.iconst 1, 1) := by decide +kernel
theorem d_L_law_921 : decode c_L_law 921 = .ok (.iadd, 1) := by decide +kernel
theorem d_L_law_922 : decode c_L_law 922 = .ok (.iaload, 1) := by decide +kernel
theorem d_L_law_923 : decode c_L_law 923 = .ok (.invokevirtual 126, 3) := by decide +kernel
theorem d_L_law_926 : decode c_L_law 926 = .ok (.istore 6, 2) := by decide +kernel
theorem d_L_law_928 : decode c_L_law 928 = .ok (.aload_n 2, 1) := by decide +kernel
theorem d_L_law_929 : decode c_L_law 929 = .ok (.invokevirtual 75, 3) := by decide +kernel
theorem d_L_law_932 : decode c_L_law 932 = .ok (.iload 5, 2) := by decide +kernel
theorem d_L_law_934 : decode c_L_law 934 = .ok (.if_icmp .eq 5, 3) := by decide +kernel
theorem d_L_law_937 : decode c_L_law 937 = .ok (.iconst 0, 1) := by decide +kernel
theorem d_L_law_938 : decode c_L_law 938 = .ok (.ireturn, 1) := by decide +kernel
theorem d_L_law_939 : decode c_L_law 939 = .ok (.iload 5, 2) := by decide +kernel
theorem d_L_law_941 : decode c_L_law 941 = .ok (.ifCond .ne 15, 3) := by decide +kernel
theorem d_L_law_944 : decode c_L_law 944 = .ok (.aload_n 3, 1) := by decide +kernel
theorem d_L_law_945 : decode c_L_law 945 = .ok (.iconst 0, 1) := by decide +kernel
theorem d_L_law_946 : decode c_L_law 946 = .ok (.laload, 1) := by decide +kernel
theorem d_L_law_947 : decode c_L_law 947 = .ok (.iload 6, 2) := by decide +kernel
theorem d_L_law_949 : decode c_L_law 949 = .ok (.i2l, 1) := by decide +kernel
theorem d_L_law_950 : decode c_L_law 950 = .ok (.lcmp, 1) := by decide +kernel
theorem d_L_law_951 : decode c_L_law 951 = .ok (.ifCond .eq 5, 3) := by decide +kernel
theorem d_L_law_954 : decode c_L_law 954 = .ok (.iconst 0, 1) := by decide +kernel
theorem d_L_law_955 : decode c_L_law 955 = .ok (.ireturn, 1) := by decide +kernel
theorem d_L_law_956 : decode c_L_law 956 = .ok (.goto 264, 3) := by decide +kernel
theorem d_L_law_959 : decode c_L_law 959 = .ok (.aload_n 1, 1) := by decide +kernel
theorem d_L_law_960 : decode c_L_law 960 = .ok (.aload_n 0, 1) := by decide +kernel
theorem d_L_law_961 : decode c_L_law 961 = .ok (.iload 4, 2) := by decide +kernel
theorem d_L_law_963 : decode c_L_law 963 = .ok (.iconst 1, 1) := by decide +kernel
theorem d_L_law_964 : decode c_L_law 964 = .ok (.iadd, 1) := by decide +kernel
theorem d_L_law_965 : decode c_L_law 965 = .ok (.iaload, 1) := by decide +kernel
theorem d_L_law_966 : decode c_L_law 966 = .ok (.aload_n 3, 1) := by decide +kernel
theorem d_L_law_967 : decode c_L_law 967 = .ok (.invokestatic 127, 3) := by decide +kernel
theorem d_L_law_970 : decode c_L_law 970 = .ok (.istore 5, 2) := by decide +kernel
theorem d_L_law_972 : decode c_L_law 972 = .ok (.aload_n 2, 1) := by decide +kernel
theorem d_L_law_973 : decode c_L_law 973 = .ok (.aload_n 0, 1) := by decide +kernel
theorem d_L_law_974 : decode c_L_law 974 = .ok (.iload 4, 2) := by decide +kernel
theorem d_L_law_976 : decode c_L_law 976 = .ok (.iconst 1, 1) := by decide +kernel
theorem d_L_law_977 : decode c_L_law 977 = .ok (.iadd, 1) := by decide +kernel
theorem d_L_law_978 : decode c_L_law 978 = .ok (.iaload, 1) := by decide +kernel
theorem d_L_law_979 : decode c_L_law 979 = .ok (.invokevirtual 129, 3) := by decide +kernel
theorem d_L_law_982 : decode c_L_law 982 = .ok (.istore 6, 2) := by decide +kernel
theorem d_L_law_984 : decode c_L_law 984 = .ok (.aload_n 2, 1) := by decide +kernel
theorem d_L_law_985 : decode c_L_law 985 = .ok (.invokevirtual 75, 3) := by decide +kernel
theorem d_L_law_988 : decode c_L_law 988 = .ok (.iload 5, 2) := by decide +kernel
theorem d_L_law_990 : decode c_L_law 990 = .ok (.if_icmp .eq 5, 3) := by decide +kernel
theorem d_L_law_993 : decode c_L_law 993 = .ok (.iconst 0, 1) := by decide +kernel
theorem d_L_law_994 : decode c_L_law 994 = .ok (.ireturn, 1) := by decide +kernel
theorem d_L_law_995 : decode c_L_law 995 = .ok (.iload 5, 2) := by decide +kernel
theorem d_L_law_997 : decode c_L_law 997 = .ok (.ifCond .ne 15, 3) := by decide +kernel
theorem d_L_law_1000 : decode c_L_law 1000 = .ok (.aload_n 3, 1) := by decide +kernel
theorem d_L_law_1001 : decode c_L_law 1001 = .ok (.iconst 0, 1) := by decide +kernel
theorem d_L_law_1002 : decode c_L_law 1002 = .ok (.laload, 1) := by decide +kernel
theorem d_L_law_1003 : decode c_L_law 1003 = .ok (.iload 6, 2) := by decide +kernel
theorem d_L_law_1005 : decode c_L_law 1005 = .ok (.i2l, 1) := by decide +kernel
theorem d_L_law_1006 : decode c_L_law 1006 = .ok (.lcmp, 1) := by decide +kernel
theorem d_L_law_1007 : decode c_L_law 1007 = .ok (.ifCond .eq 5, 3) := by decide +kernel
theorem d_L_law_1010 : decode c_L_law 1010 = .ok (.iconst 0, 1) := by decide +kernel
theorem d_L_law_1011 : decode c_L_law 1011 = .ok (.ireturn, 1) := by decide +kernel
theorem d_L_law_1012 : decode c_L_law 1012 = .ok (.goto 208, 3) := by decide +kernel
theorem d_L_law_1015 : decode c_L_law 1015 = .ok (.aload_n 1, 1) := by decide +kernel
theorem d_L_law_1016 : decode c_L_law 1016 = .ok (.aload_n 0, 1) := by decide +kernel
theorem d_L_law_1017 : decode c_L_law 1017 = .ok (.iload 4, 2) := by decide +kernel
theorem d_L_law_1019 : decode c_L_law 1019 = .ok (.iconst 1, 1) := by decide +kernel
theorem d_L_law_1020 : decode c_L_law 1020 = .ok (.iadd, 1) := by decide +kernel
theorem d_L_law_1021 : decode c_L_law 1021 = .ok (.iaload, 1) := by decide +kernel
theorem d_L_law_1022 : decode c_L_law 1022 = .ok (.aload_n 0, 1) := by decide +kernel
theorem d_L_law_1023 : decode c_L_law 1023 = .ok (.iload 4, 2) := by decide +kernel
theorem d_L_law_1025 : decode c_L_law 1025 = .ok (.iconst 2, 1) := by decide +kernel
theorem d_L_law_1026 : decode c_L_law 1026 = .ok (.iadd, 1) := by decide +kernel
theorem d_L_law_1027 : decode c_L_law 1027 = .ok (.iaload, 1) := by decide +kernel
theorem d_L_law_1028 : decode c_L_law 1028 = .ok (.aload_n 0, 1) := by decide +kernel
theorem d_L_law_1029 : decode c_L_law 1029 = .ok (.iload 4, 2) := by decide +kernel
theorem d_L_law_1031 : decode c_L_law 1031 = .ok (.iconst 3, 1) := by decide +kernel
theorem d_L_law_1032 : decode c_L_law 1032 = .ok (.iadd, 1) := by decide +kernel
theorem d_L_law_1033 : decode c_L_law 1033 = .ok (.iaload, 1) := by decide +kernel
theorem d_L_law_1034 : decode c_L_law 1034 = .ok (.aload_n 3, 1) := by decide +kernel
theorem d_L_law_1035 : decode c_L_law 1035 = .ok (.invokestatic 130, 3) := by decide +kernel
theorem d_L_law_1038 : decode c_L_law 1038 = .ok (.istore 5, 2) := by decide +kernel
theorem d_L_law_1040 : decode c_L_law 1040 = .ok (.aload_n 2, 1) := by decide +kernel
theorem d_L_law_1041 : decode c_L_law 1041 = .ok (.aload_n 0, 1) := by decide +kernel
theorem d_L_law_1042 : decode c_L_law 1042 = .ok (.iload 4, 2) := by decide +kernel
theorem d_L_law_1044 : decode c_L_law 1044 = .ok (.iconst 1, 1) := by decide +kernel
theorem d_L_law_1045 : decode c_L_law 1045 = .ok (.iadd, 1) := by decide +kernel
theorem d_L_law_1046 : decode c_L_law 1046 = .ok (.iaload, 1) := by decide +kernel
theorem d_L_law_1047 : decode c_L_law 1047 = .ok (.aload_n 0, 1) := by decide +kernel
theorem d_L_law_1048 : decode c_L_law 1048 = .ok (.iload 4, 2) := by decide +kernel
theorem d_L_law_1050 : decode c_L_law 1050 = .ok (.iconst 2, 1) := by decide +kernel
theorem d_L_law_1051 : decode c_L_law 1051 = .ok (.iadd, 1) := by decide +kernel
theorem d_L_law_1052 : decode c_L_law 1052 = .ok (.iaload, 1) := by decide +kernel
theorem d_L_law_1053 : decode c_L_law 1053 = .ok (.aload_n 0, 1) := by decide +kernel
theorem d_L_law_1054 : decode c_L_law 1054 = .ok (.iload 4, 2) := by decide +kernel
theorem d_L_law_1056 : decode c_L_law 1056 = .ok (.iconst 3, 1) := by decide +kernel
theorem d_L_law_1057 : decode c_L_law 1057 = .ok (.iadd, 1) := by decide +kernel
theorem d_L_law_1058 : decode c_L_law 1058 = .ok (.iaload, 1) := by decide +kernel
theorem d_L_law_1059 : decode c_L_law 1059 = .ok (.invokevirtual 132, 3) := by decide +kernel
theorem d_L_law_1062 : decode c_L_law 1062 = .ok (.istore 6, 2) := by decide +kernel
theorem d_L_law_1064 : decode c_L_law 1064 = .ok (.aload_n 2, 1) := by decide +kernel
theorem d_L_law_1065 : decode c_L_law 1065 = .ok (.invokevirtual 75, 3) := by decide +kernel
theorem d_L_law_1068 : decode c_L_law 1068 = .ok (.iload 5, 2) := by decide +kernel
theorem d_L_law_1070 : decode c_L_law 1070 = .ok (.if_icmp .eq 5, 3) := by decide +kernel
theorem d_L_law_1073 : decode c_L_law 1073 = .ok (.iconst 0, 1) := by decide +kernel
theorem d_L_law_1074 : decode c_L_law 1074 = .ok (.ireturn, 1) := by decide +kernel
theorem d_L_law_1075 : decode c_L_law 1075 = .ok (.iload 5, 2) := by decide +kernel
theorem d_L_law_1077 : decode c_L_law 1077 = .ok (.ifCond .ne 15, 3) := by decide +kernel
theorem d_L_law_1080 : decode c_L_law 1080 = .ok (.aload_n 3, 1) := by decide +kernel
theorem d_L_law_1081 : decode c_L_law 1081 = .ok (.iconst 0, 1) := by decide +kernel
theorem d_L_law_1082 : decode c_L_law 1082 = .ok (.laload, 1) := by decide +kernel
theorem d_L_law_1083 : decode c_L_law 1083 = .ok (.iload 6, 2) := by decide +kernel
theorem d_L_law_1085 : decode c_L_law 1085 = .ok (.i2l, 1) := by decide +kernel
theorem d_L_law_1086 : decode c_L_law 1086 = .ok (.lcmp, 1) := by decide +kernel
theorem d_L_law_1087 : decode c_L_law 1087 = .ok (.ifCond .eq 5, 3) := by decide +kernel
theorem d_L_law_1090 : decode c_L_law 1090 = .ok (.iconst 0, 1) := by decide +kernel
theorem d_L_law_1091 : decode c_L_law 1091 = .ok (.ireturn, 1) := by decide +kernel
theorem d_L_law_1092 : decode c_L_law 1092 = .ok (.goto 128, 3) := by decide +kernel
theorem d_L_law_1095 : decode c_L_law 1095 = .ok (.aload_n 1, 1) := by decide +kernel
theorem d_L_law_1096 : decode c_L_law 1096 = .ok (.aload_n 0, 1) := by decide +kernel
theorem d_L_law_1097 : decode c_L_law 1097 = .ok (.iload 4, 2) := by decide +kernel
theorem d_L_law_1099 : decode c_L_law 1099 = .ok (.iconst 1, 1) := by decide +kernel
theorem d_L_law_1100 : decode c_L_law 1100 = .ok (.iadd, 1) := by decide +kernel
theorem d_L_law_1101 : decode c_L_law 1101 = .ok (.iaload, 1) := by decide +kernel
theorem d_L_law_1102 : decode c_L_law 1102 = .ok (.i2l, 1) := by decide +kernel
theorem d_L_law_1103 : decode c_L_law 1103 = .ok (.bipush 32, 2) := by decide +kernel
theorem d_L_law_1105 : decode c_L_law 1105 = .ok (.lshl, 1) := by decide +kernel
theorem d_L_law_1106 : decode c_L_law 1106 = .ok (.aload_n 0, 1) := by decide +kernel
theorem d_L_law_1107 : decode c_L_law 1107 = .ok (.iload 4, 2) := by decide +kernel
theorem d_L_law_1109 : decode c_L_law 1109 = .ok (.iconst 2, 1) := by decide +kernel
theorem d_L_law_1110 : decode c_L_law 1110 = .ok (.iadd, 1) := by decide +kernel
theorem d_L_law_1111 : decode c_L_law 1111 = .ok (.iaload, 1) := by decide +kernel
theorem d_L_law_1112 : decode c_L_law 1112 = .ok (.i2l, 1) := by decide +kernel
theorem d_L_law_1113 : decode c_L_law 1113 = .ok (.ldc2_w 78, 3) := by decide +kernel
theorem d_L_law_1116 : decode c_L_law 1116 = .ok (.land, 1) := by decide +kernel
theorem d_L_law_1117 : decode c_L_law 1117 = .ok (.lor, 1) := by decide +kernel
theorem d_L_law_1118 : decode c_L_law 1118 = .ok (.aload_n 0, 1) := by decide +kernel
theorem d_L_law_1119 : decode c_L_law 1119 = .ok (.iload 4, 2) := by decide +kernel
theorem d_L_law_1121 : decode c_L_law 1121 = .ok (.iconst 3, 1) := by decide +kernel
theorem d_L_law_1122 : decode c_L_law 1122 = .ok (.iadd, 1) := by decide +kernel
theorem d_L_law_1123 : decode c_L_law 1123 = .ok (.iaload, 1) := by decide +kernel
theorem d_L_law_1124 : decode c_L_law 1124 = .ok (.aload_n 0, 1) := by decide +kernel
theorem d_L_law_1125 : decode c_L_law 1125 = .ok (.iload 4, 2) := by decide +kernel
theorem d_L_law_1127 : decode c_L_law 1127 = .ok (.iconst 4, 1) := by decide +kernel
theorem d_L_law_1128 : decode c_L_law 1128 = .ok (.iadd, 1) := by decide +kernel
theorem d_L_law_1129 : decode c_L_law 1129 = .ok (.iaload, 1) := by decide +kernel
theorem d_L_law_1130 : decode c_L_law 1130 = .ok (.aload_n 3, 1) := by decide +kernel
theorem d_L_law_1131 : decode c_L_law 1131 = .ok (.invokestatic 133, 3) := by decide +kernel
theorem d_L_law_1134 : decode c_L_law 1134 = .ok (.istore 5, 2) := by decide +kernel
theorem d_L_law_1136 : decode c_L_law 1136 = .ok (.aload_n 2, 1) := by decide +kernel
theorem d_L_law_1137 : decode c_L_law 1137 = .ok (.aload_n 0, 1) := by decide +kernel
theorem d_L_law_1138 : decode c_L_law 1138 = .ok (.iload 4, 2) := by decide +kernel
theorem d_L_law_1140 : decode c_L_law 1140 = .ok (.iconst 1, 1) := by decide +kernel
theorem d_L_law_1141 : decode c_L_law 1141 = .ok (.iadd, 1) := by decide +kernel
theorem d_L_law_1142 : decode c_L_law 1142 = .ok (.iaload, 1) := by decide +kernel
theorem d_L_law_1143 : decode c_L_law 1143 = .ok (.i2l, 1) := by decide +kernel
theorem d_L_law_1144 : decode c_L_law 1144 = .ok (.bipush 32, 2) := by decide +kernel
theorem d_L_law_1146 : decode c_L_law 1146 = .ok (.lshl, 1) := by decide +kernel
theorem d_L_law_1147 : decode c_L_law 1147 = .ok (.aload_n 0, 1) := by decide +kernel
theorem d_L_law_1148 : decode c_L_law 1148 = .ok (.iload 4, 2) := by decide +kernel
theorem d_L_law_1150 : decode c_L_law 1150 = .ok (.iconst 2, 1) := by decide +kernel
theorem d_L_law_1151 : decode c_L_law 1151 = .ok (.iadd, 1) := by decide +kernel
theorem d_L_law_1152 : decode c_L_law 1152 = .ok (.iaload, 1) := by decide +kernel
theorem d_L_law_1153 : decode c_L_law 1153 = .ok (.i2l, 1) := by decide +kernel
theorem d_L_law_1154 : decode c_L_law 1154 = .ok (.ldc2_w 78, 3) := by decide +kernel
theorem d_L_law_1157 : decode c_L_law 1157 = .ok (.land, 1) := by decide +kernel
theorem d_L_law_1158 : decode c_L_law 1158 = .ok (.lor, 1) := by decide +kernel
theorem d_L_law_1159 : decode c_L_law 1159 = .ok (.aload_n 0, 1) := by decide +kernel
theorem d_L_law_1160 : decode c_L_law 1160 = .ok (.iload 4, 2) := by decide +kernel
theorem d_L_law_1162 : decode c_L_law 1162 = .ok (.iconst 3, 1) := by decide +kernel
theorem d_L_law_1163 : decode c_L_law 1163 = .ok (.iadd, 1) := by decide +kernel
theorem d_L_law_1164 : decode c_L_law 1164 = .ok (.iaload, 1) := by decide +kernel
theorem d_L_law_1165 : decode c_L_law 1165 = .ok (.aload_n 0, 1) := by decide +kernel
theorem d_L_law_1166 : decode c_L_law 1166 = .ok (.iload 4, 2) := by decide +kernel
theorem d_L_law_1168 : decode c_L_law 1168 = .ok (.iconst 4, 1) := by decide +kernel
theorem d_L_law_1169 : decode c_L_law 1169 = .ok (.iadd, 1) := by decide +kernel
theorem d_L_law_1170 : decode c_L_law 1170 = .ok (.iaload, 1) := by decide +kernel
theorem d_L_law_1171 : decode c_L_law 1171 = .ok (.invokevirtual 135, 3) := by decide +kernel
theorem d_L_law_1174 : decode c_L_law 1174 = .ok (.istore 6, 2) := by decide +kernel
theorem d_L_law_1176 : decode c_L_law 1176 = .ok (.aload_n 2, 1) := by decide +kernel
theorem d_L_law_1177 : decode c_L_law 1177 = .ok (.invokevirtual 75, 3) := by decide +kernel
theorem d_L_law_1180 : decode c_L_law 1180 = .ok (.iload 5, 2) := by decide +kernel
theorem d_L_law_1182 : decode c_L_law 1182 = .ok (.if_icmp .eq 5, 3) := by decide +kernel
theorem d_L_law_1185 : decode c_L_law 1185 = .ok (.iconst 0, 1) := by decide +kernel
theorem d_L_law_1186 : decode c_L_law 1186 = .ok (.ireturn, 1) := by decide +kernel
theorem d_L_law_1187 : decode c_L_law 1187 = .ok (.iload 5, 2) := by decide +kernel
theorem d_L_law_1189 : decode c_L_law 1189 = .ok (.ifCond .ne 15, 3) := by decide +kernel
theorem d_L_law_1192 : decode c_L_law 1192 = .ok (.aload_n 3, 1) := by decide +kernel
theorem d_L_law_1193 : decode c_L_law 1193 = .ok (.iconst 0, 1) := by decide +kernel
theorem d_L_law_1194 : decode c_L_law 1194 = .ok (.laload, 1) := by decide +kernel
theorem d_L_law_1195 : decode c_L_law 1195 = .ok (.iload 6, 2) := by decide +kernel
theorem d_L_law_1197 : decode c_L_law 1197 = .ok (.i2l, 1) := by decide +kernel
theorem d_L_law_1198 : decode c_L_law 1198 = .ok (.lcmp, 1) := by decide +kernel
theorem d_L_law_1199 : decode c_L_law 1199 = .ok (.ifCond .eq 5, 3) := by decide +kernel
theorem d_L_law_1202 : decode c_L_law 1202 = .ok (.iconst 0, 1) := by decide +kernel
theorem d_L_law_1203 : decode c_L_law 1203 = .ok (.ireturn, 1) := by decide +kernel
theorem d_L_law_1204 : decode c_L_law 1204 = .ok (.goto 16, 3) := by decide +kernel
theorem d_L_law_1207 : decode c_L_law 1207 = .ok (.aload_n 1, 1) := by decide +kernel
theorem d_L_law_1208 : decode c_L_law 1208 = .ok (.invokevirtual 136, 3) := by decide +kernel
theorem d_L_law_1211 : decode c_L_law 1211 = .ok (.aload_n 2, 1) := by decide +kernel
theorem d_L_law_1212 : decode c_L_law 1212 = .ok (.invokevirtual 139, 3) := by decide +kernel
theorem d_L_law_1215 : decode c_L_law 1215 = .ok (.if_icmp .eq 5, 3) := by decide +kernel
theorem d_L_law_1218 : decode c_L_law 1218 = .ok (.iconst 0, 1) := by decide +kernel
theorem d_L_law_1219 : decode c_L_law 1219 = .ok (.ireturn, 1) := by decide +kernel
theorem d_L_law_1220 : decode c_L_law 1220 = .ok (.iinc 4 7, 3) := by decide +kernel
theorem d_L_law_1223 : decode c_L_law 1223 = .ok (.goto (-1200), 3) := by decide +kernel
theorem d_L_law_1226 : decode c_L_law 1226 = .ok (.iconst 1, 1) := by decide +kernel
theorem d_L_law_1227 : decode c_L_law 1227 = .ok (.ireturn, 1) := by decide +kernel
end
section
theorem d_M_init_0 : decode c_M_init 0 = .ok (.aload_n 0, 1) := by decide +kernel
theorem d_M_init_1 : decode c_M_init 1 = .ok (.invokespecial 1, 3) := by decide +kernel
theorem d_M_init_4 : decode c_M_init 4 = .ok (.aload_n 0, 1) := by decide +kernel
theorem d_M_init_5 : decode c_M_init 5 = .ok (.sipush 28000, 3) := by decide +kernel
theorem d_M_init_8 : decode c_M_init 8 = .ok (.newarray .int, 2) := by decide +kernel
theorem d_M_init_10 : decode c_M_init 10 = .ok (.putfield 7, 3) := by decide +kernel
theorem d_M_init_13 : decode c_M_init 13 = .ok (.aload_n 0, 1) := by decide +kernel
theorem d_M_init_14 : decode c_M_init 14 = .ok (.bipush 10, 2) := by decide +kernel
theorem d_M_init_16 : decode c_M_init 16 = .ok (.newarray .int, 2) := by decide +kernel
theorem d_M_init_18 : decode c_M_init 18 = .ok (.putfield 13, 3) := by decide +kernel
theorem d_M_init_21 : decode c_M_init 21 = .ok (.aload_n 0, 1) := by decide +kernel
theorem d_M_init_22 : decode c_M_init 22 = .ok (.bipush 10, 2) := by decide +kernel
theorem d_M_init_24 : decode c_M_init 24 = .ok (.putfield 16, 3) := by decide +kernel
theorem d_M_init_27 : decode c_M_init 27 = .ok (.aload_n 0, 1) := by decide +kernel
theorem d_M_init_28 : decode c_M_init 28 = .ok (.bipush 10, 2) := by decide +kernel
theorem d_M_init_30 : decode c_M_init 30 = .ok (.putfield 20, 3) := by decide +kernel
theorem d_M_init_33 : decode c_M_init 33 = .ok (.aload_n 0, 1) := by decide +kernel
theorem d_M_init_34 : decode c_M_init 34 = .ok (.sipush 24001, 3) := by decide +kernel
theorem d_M_init_37 : decode c_M_init 37 = .ok (.newarray .int, 2) := by decide +kernel
theorem d_M_init_39 : decode c_M_init 39 = .ok (.putfield 23, 3) := by decide +kernel
theorem d_M_init_42 : decode c_M_init 42 = .ok (.aload_n 0, 1) := by decide +kernel
theorem d_M_init_43 : decode c_M_init 43 = .ok (.bipush 12, 2) := by decide +kernel
theorem d_M_init_45 : decode c_M_init 45 = .ok (.newarray .int, 2) := by decide +kernel
theorem d_M_init_47 : decode c_M_init 47 = .ok (.putfield 26, 3) := by decide +kernel
theorem d_M_init_50 : decode c_M_init 50 = .ok (.return_, 1) := by decide +kernel
theorem d_M_thrown_0 : decode c_M_thrown 0 = .ok (.aload_n 0, 1) := by decide +kernel
theorem d_M_thrown_1 : decode c_M_thrown 1 = .ok (.getfield 29, 3) := by decide +kernel
theorem d_M_thrown_4 : decode c_M_thrown 4 = .ok (.ireturn, 1) := by decide +kernel
theorem d_M_mill_0 : decode c_M_mill 0 = .ok (.aload_n 0, 1) := by decide +kernel
theorem d_M_mill_1 : decode c_M_mill 1 = .ok (.iload_n 1, 1) := by decide +kernel
theorem d_M_mill_2 : decode c_M_mill 2 = .ok (.ifCond .lt 8, 3) := by decide +kernel
theorem d_M_mill_5 : decode c_M_mill 5 = .ok (.iload_n 1, 1) := by decide +kernel
theorem d_M_mill_6 : decode c_M_mill 6 = .ok (.iconst 4, 1) := by decide +kernel
theorem d_M_mill_7 : decode c_M_mill 7 = .ok (.if_icmp .le 7, 3) := by decide +kernel
theorem d_M_mill_10 : decode c_M_mill 10 = .ok (.iconst 1, 1) := by decide +kernel
theorem d_M_mill_11 : decode c_M_mill 11 = .ok (.goto 4, 3) := by decide +kernel
theorem d_M_mill_14 : decode c_M_mill 14 = .ok (.iconst 0, 1) := by decide +kernel
theorem d_M_mill_15 : decode c_M_mill 15 = .ok (.iload_n 2, 1) := by decide +kernel
theorem d_M_mill_16 : decode c_M_mill 16 = .ok (.iload_n 3, 1) := by decide +kernel
theorem d_M_mill_17 : decode c_M_mill 17 = .ok (.invokevirtual 150, 3) := by decide +kernel
theorem d_M_mill_20 : decode c_M_mill 20 = .ok (.ifCond .eq 5, 3) := by decide +kernel
theorem d_M_mill_23 : decode c_M_mill 23 = .ok (.iconst 0, 1) := by decide +kernel
theorem d_M_mill_24 : decode c_M_mill 24 = .ok (.ireturn, 1) := by decide +kernel
theorem d_M_mill_25 : decode c_M_mill 25 = .ok (.iload_n 1, 1) := by decide +kernel
theorem d_M_mill_26 : decode c_M_mill 26 = .ok (.iconst 2, 1) := by decide +kernel
theorem d_M_mill_27 : decode c_M_mill 27 = .ok (.if_icmp .ne 12, 3) := by decide +kernel
theorem d_M_mill_30 : decode c_M_mill 30 = .ok (.aload_n 0, 1) := by decide +kernel
theorem d_M_mill_31 : decode c_M_mill 31 = .ok (.iload_n 2, 1) := by decide +kernel
theorem d_M_mill_32 : decode c_M_mill 32 = .ok (.iload_n 3, 1) := by decide +kernel
theorem d_M_mill_33 : decode c_M_mill 33 = .ok (.invokevirtual 154, 3) := by decide +kernel
theorem d_M_mill_36 : decode c_M_mill 36 = .ok (.goto 10, 3) := by decide +kernel
theorem d_M_mill_39 : decode c_M_mill 39 = .ok (.aload_n 0, 1) := by decide +kernel
theorem d_M_mill_40 : decode c_M_mill 40 = .ok (.iload_n 1, 1) := by decide +kernel
theorem d_M_mill_41 : decode c_M_mill 41 = .ok (.iload_n 2, 1) := by decide +kernel
theorem d_M_mill_42 : decode c_M_mill 42 = .ok (.iload_n 3, 1) := by decide +kernel
theorem d_M_mill_43 : decode c_M_mill 43 = .ok (.invokevirtual 157, 3) := by decide +kernel
theorem d_M_mill_46 : decode c_M_mill 46 = .ok (.aload_n 0, 1) := by decide +kernel
theorem d_M_mill_47 : decode c_M_mill 47 = .ok (.iload_n 3, 1) := by decide +kernel
theorem d_M_mill_48 : decode c_M_mill 48 = .ok (.invokevirtual 160, 3) := by decide +kernel
theorem d_M_mill_51 : decode c_M_mill 51 = .ok (.ireturn, 1) := by decide +kernel
theorem d_M_isWrong_0 : decode c_M_isWrong 0 = .ok (.aload_n 0, 1) := by decide +kernel
theorem d_M_isWrong_1 : decode c_M_isWrong 1 = .ok (.iload_n 1, 1) := by decide +kernel
theorem d_M_isWrong_2 : decode c_M_isWrong 2 = .ok (.ifCond .ne 21, 3) := by decide +kernel
theorem d_M_isWrong_5 : decode c_M_isWrong 5 = .ok (.iload_n 2, 1) := by decide +kernel
theorem d_M_isWrong_6 : decode c_M_isWrong 6 = .ok (.ifCond .lt 17, 3) := by decide +kernel
theorem d_M_isWrong_9 : decode c_M_isWrong 9 = .ok (.iload_n 2, 1) := by decide +kernel
theorem d_M_isWrong_10 : decode c_M_isWrong 10 = .ok (.sipush 6000, 3) := by decide +kernel
theorem d_M_isWrong_13 : decode c_M_isWrong 13 = .ok (.if_icmp .gt 10, 3) := by decide +kernel
theorem d_M_isWrong_16 : decode c_M_isWrong 16 = .ok (.iload_n 3, 1) := by decide +kernel
theorem d_M_isWrong_17 : decode c_M_isWrong 17 = .ok (.invokestatic 124, 3) := by decide +kernel
theorem d_M_isWrong_20 : decode c_M_isWrong 20 = .ok (.ifCond .ne 7, 3) := by decide +kernel
theorem d_M_isWrong_23 : decode c_M_isWrong 23 = .ok (.iconst 1, 1) := by decide +kernel
theorem d_M_isWrong_24 : decode c_M_isWrong 24 = .ok (.goto 4, 3) := by decide +kernel
theorem d_M_isWrong_27 : decode c_M_isWrong 27 = .ok (.iconst 0, 1) := by decide +kernel
theorem d_M_isWrong_28 : decode c_M_isWrong 28 = .ok (.iconst 1, 1) := by decide +kernel
theorem d_M_isWrong_29 : decode c_M_isWrong 29 = .ok (.invokevirtual 128, 3) := by decide +kernel
theorem d_M_isWrong_32 : decode c_M_isWrong 32 = .ok (.ifCond .eq 5, 3) := by decide +kernel
theorem d_M_isWrong_35 : decode c_M_isWrong 35 = .ok (.iconst 1, 1) := by decide +kernel
theorem d_M_isWrong_36 : decode c_M_isWrong 36 = .ok (.ireturn, 1) := by decide +kernel
theorem d_M_isWrong_37 : decode c_M_isWrong 37 = .ok (.aload_n 0, 1) := by decide +kernel
theorem d_M_isWrong_38 : decode c_M_isWrong 38 = .ok (.iload_n 2, 1) := by decide +kernel
theorem d_M_isWrong_39 : decode c_M_isWrong 39 = .ok (.iload_n 3, 1) := by decide +kernel
theorem d_M_isWrong_40 : decode c_M_isWrong 40 = .ok (.invokestatic 132, 3) := by decide +kernel
theorem d_M_isWrong_43 : decode c_M_isWrong 43 = .ok (.imul, 1) := by decide +kernel
theorem d_M_isWrong_44 : decode c_M_isWrong 44 = .ok (.sipush 20000, 3) := by decide +kernel
theorem d_M_isWrong_47 : decode c_M_isWrong 47 = .ok (.if_icmp .le 7, 3) := by decide +kernel
theorem d_M_isWrong_50 : decode c_M_isWrong 50 = .ok (.iconst 1, 1) := by decide +kernel
theorem d_M_isWrong_51 : decode c_M_isWrong 51 = .ok (.goto 4, 3) := by decide +kernel
theorem d_M_isWrong_54 : decode c_M_isWrong 54 = .ok (.iconst 0, 1) := by decide +kernel
theorem d_M_isWrong_55 : decode c_M_isWrong 55 = .ok (.iconst 2, 1) := by decide +kernel
theorem d_M_isWrong_56 : decode c_M_isWrong 56 = .ok (.invokevirtual 128, 3) := by decide +kernel
theorem d_M_isWrong_59 : decode c_M_isWrong 59 = .ok (.ireturn, 1) := by decide +kernel
theorem d_M_isBase_0 : decode c_M_isBase 0 = .ok (.iload_n 0, 1) := by decide +kernel
theorem d_M_isBase_1 : decode c_M_isBase 1 = .ok (.iconst 2, 1) := by decide +kernel
theorem d_M_isBase_2 : decode c_M_isBase 2 = .ok (.if_icmp .lt 13, 3) := by decide +kernel
theorem d_M_isBase_5 : decode c_M_isBase 5 = .ok (.iload_n 0, 1) := by decide +kernel
theorem d_M_isBase_6 : decode c_M_isBase 6 = .ok (.bipush 36, 2) := by decide +kernel
theorem d_M_isBase_8 : decode c_M_isBase 8 = .ok (.if_icmp .gt 7, 3) := by decide +kernel
theorem d_M_isBase_11 : decode c_M_isBase 11 = .ok (.iconst 1, 1) := by decide +kernel
theorem d_M_isBase_12 : decode c_M_isBase 12 = .ok (.goto 4, 3) := by decide +kernel
theorem d_M_isBase_15 : decode c_M_isBase 15 = .ok (.iconst 0, 1) := by decide +kernel
theorem d_M_isBase_16 : decode c_M_isBase 16 = .ok (.ireturn, 1) := by decide +kernel
theorem d_M_fails_0 : decode c_M_fails 0 = .ok (.aload_n 0, 1) := by decide +kernel
theorem d_M_fails_1 : decode c_M_fails 1 = .ok (.iload_n 1, 1) := by decide +kernel
theorem d_M_fails_2 : decode c_M_fails 2 = .ok (.ifCond .eq 7, 3) := by decide +kernel
theorem d_M_fails_5 : decode c_M_fails 5 = .ok (.iload_n 2, 1) := by decide +kernel
theorem d_M_fails_6 : decode c_M_fails 6 = .ok (.goto 4, 3) := by decide +kernel
theorem d_M_fails_9 : decode c_M_fails 9 = .ok (.iconst 0, 1) := by decide +kernel
theorem d_M_fails_10 : decode c_M_fails 10 = .ok (.putfield 29, 3) := by decide +kernel
theorem d_M_fails_13 : decode c_M_fails 13 = .ok (.iload_n 1, 1) := by decide +kernel
theorem d_M_fails_14 : decode c_M_fails 14 = .ok (.ireturn, 1) := by decide +kernel
theorem d_M_log_0 : decode c_M_log 0 = .ok (.iconst 0, 1) := by decide +kernel
theorem d_M_log_1 : decode c_M_log 1 = .ok (.istore_n 1, 1) := by decide +kernel
theorem d_M_log_2 : decode c_M_log 2 = .ok (.iconst 1, 1) := by decide +kernel
theorem d_M_log_3 : decode c_M_log 3 = .ok (.iload_n 1, 1) := by decide +kernel
theorem d_M_log_4 : decode c_M_log 4 = .ok (.ishl, 1) := by decide +kernel
theorem d_M_log_5 : decode c_M_log 5 = .ok (.iload_n 0, 1) := by decide +kernel
theorem d_M_log_6 : decode c_M_log 6 = .ok (.if_icmp .ge 9, 3) := by decide +kernel
theorem d_M_log_9 : decode c_M_log 9 = .ok (.iinc 1 1, 3) := by decide +kernel
theorem d_M_log_12 : decode c_M_log 12 = .ok (.goto (-10), 3) := by decide +kernel
theorem d_M_log_15 : decode c_M_log 15 = .ok (.iload_n 1, 1) := by decide +kernel
theorem d_M_log_16 : decode c_M_log 16 = .ok (.ireturn, 1) := by decide +kernel
theorem d_M_golden_0 : decode c_M_golden 0 = .ok (.aload_n 0, 1) := by decide +kernel
theorem d_M_golden_1 : decode c_M_golden 1 = .ok (.iconst 2, 1) := by decide +kernel
theorem d_M_golden_2 : decode c_M_golden 2 = .ok (.iload_n 2, 1) := by decide +kernel
theorem d_M_golden_3 : decode c_M_golden 3 = .ok (.iconst 2, 1) := by decide +kernel
theorem d_M_golden_4 : decode c_M_golden 4 = .ok (.iload_n 1, 1) := by decide +kernel
theorem d_M_golden_5 : decode c_M_golden 5 = .ok (.imul, 1) := by decide +kernel
theorem d_M_golden_6 : decode c_M_golden 6 = .ok (.invokevirtual 102, 3) := by decide +kernel
theorem d_M_golden_9 : decode c_M_golden 9 = .ok (.aload_n 0, 1) := by decide +kernel
theorem d_M_golden_10 : decode c_M_golden 10 = .ok (.iconst 2, 1) := by decide +kernel
theorem d_M_golden_11 : decode c_M_golden 11 = .ok (.ldc2_w 90, 3) := by decide +kernel
theorem d_M_golden_14 : decode c_M_golden 14 = .ok (.lconst 0, 1) := by decide +kernel
theorem d_M_golden_15 : decode c_M_golden 15 = .ok (.invokevirtual 60, 3) := by decide +kernel
theorem d_M_golden_18 : decode c_M_golden 18 = .ok (.aload_n 0, 1) := by decide +kernel
theorem d_M_golden_19 : decode c_M_golden 19 = .ok (.iconst 5, 1) := by decide +kernel
theorem d_M_golden_20 : decode c_M_golden 20 = .ok (.iconst 2, 1) := by decide +kernel
theorem d_M_golden_21 : decode c_M_golden 21 = .ok (.invokevirtual 121, 3) := by decide +kernel
theorem d_M_golden_24 : decode c_M_golden 24 = .ok (.aload_n 0, 1) := by decide +kernel
theorem d_M_golden_25 : decode c_M_golden 25 = .ok (.iconst 2, 1) := by decide +kernel
theorem d_M_golden_26 : decode c_M_golden 26 = .ok (.iload_n 2, 1) := by decide +kernel
theorem d_M_golden_27 : decode c_M_golden 27 = .ok (.iload_n 1, 1) := by decide +kernel
theorem d_M_golden_28 : decode c_M_golden 28 = .ok (.invokevirtual 102, 3) := by decide +kernel
theorem d_M_golden_31 : decode c_M_golden 31 = .ok (.aload_n 0, 1) := by decide +kernel
theorem d_M_golden_32 : decode c_M_golden 32 = .ok (.iconst 5, 1) := by decide +kernel
theorem d_M_golden_33 : decode c_M_golden 33 = .ok (.iconst 2, 1) := by decide +kernel
theorem d_M_golden_34 : decode c_M_golden 34 = .ok (.lconst 1, 1) := by decide +kernel
theorem d_M_golden_35 : decode c_M_golden 35 = .ok (.invokevirtual 50, 3) := by decide +kernel
theorem d_M_golden_38 : decode c_M_golden 38 = .ok (.aload_n 0, 1) := by decide +kernel
theorem d_M_golden_39 : decode c_M_golden 39 = .ok (.iconst 5, 1) := by decide +kernel
theorem d_M_golden_40 : decode c_M_golden 40 = .ok (.ldc2_w 73, 3) := by decide +kernel
theorem d_M_golden_43 : decode c_M_golden 43 = .ok (.invokevirtual 87, 3) := by decide +kernel
theorem d_M_golden_46 : decode c_M_golden 46 = .ok (.aload_n 0, 1) := by decide +kernel
theorem d_M_golden_47 : decode c_M_golden 47 = .ok (.iconst 0, 1) := by decide +kernel
theorem d_M_golden_48 : decode c_M_golden 48 = .ok (.iconst 5, 1) := by decide +kernel
theorem d_M_golden_49 : decode c_M_golden 49 = .ok (.invokevirtual 70, 3) := by decide +kernel
theorem d_M_golden_52 : decode c_M_golden 52 = .ok (.return_, 1) := by decide +kernel
theorem d_M_power_0 : decode c_M_power 0 = .ok (.aload_n 0, 1) := by decide +kernel
theorem d_M_power_1 : decode c_M_power 1 = .ok (.iload_n 1, 1) := by decide +kernel
theorem d_M_power_2 : decode c_M_power 2 = .ok (.lconst 1, 1) := by decide +kernel
theorem d_M_power_3 : decode c_M_power 3 = .ok (.invokevirtual 83, 3) := by decide +kernel
theorem d_M_power_6 : decode c_M_power 6 = .ok (.iconst 0, 1) := by decide +kernel
theorem d_M_power_7 : decode c_M_power 7 = .ok (.istore 4, 2) := by decide +kernel
theorem d_M_power_9 : decode c_M_power 9 = .ok (.iload 4, 2) := by decide +kernel
theorem d_M_power_11 : decode c_M_power 11 = .ok (.iload_n 3, 1) := by decide +kernel
theorem d_M_power_12 : decode c_M_power 12 = .ok (.if_icmp .ge 17, 3) := by decide +kernel
theorem d_M_power_15 : decode c_M_power 15 = .ok (.aload_n 0, 1) := by decide +kernel
theorem d_M_power_16 : decode c_M_power 16 = .ok (.iload_n 1, 1) := by decide +kernel
theorem d_M_power_17 : decode c_M_power 17 = .ok (.iload_n 2, 1) := by decide +kernel
theorem d_M_power_18 : decode c_M_power 18 = .ok (.i2l, 1) := by decide +kernel
theorem d_M_power_19 : decode c_M_power 19 = .ok (.lconst 0, 1) := by decide +kernel
theorem d_M_power_20 : decode c_M_power 20 = .ok (.invokevirtual 60, 3) := by decide +kernel
theorem d_M_power_23 : decode c_M_power 23 = .ok (.iinc 4 1, 3) := by decide +kernel
theorem d_M_power_26 : decode c_M_power 26 = .ok (.goto (-17), 3) := by decide +kernel
theorem d_M_power_29 : decode c_M_power 29 = .ok (.return_, 1) := by decide +kernel
theorem d_M_set_0 : decode c_M_set 0 = .ok (.aload_n 0, 1) := by decide +kernel
theorem d_M_set_1 : decode c_M_set 1 = .ok (.getfield 13, 3) := by decide +kernel
theorem d_M_set_4 : decode c_M_set 4 = .ok (.iload_n 1, 1) := by decide +kernel
theorem d_M_set_5 : decode c_M_set 5 = .ok (.iconst 0, 1) := by decide +kernel
theorem d_M_set_6 : decode c_M_set 6 = .ok (.iastore, 1) := by decide +kernel
theorem d_M_set_7 : decode c_M_set 7 = .ok (.lload_n 2, 1) := by decide +kernel
theorem d_M_set_8 : decode c_M_set 8 = .ok (.lstore 4, 2) := by decide +kernel
theorem d_M_set_10 : decode c_M_set 10 = .ok (.lload 4, 2) := by decide +kernel
theorem d_M_set_12 : decode c_M_set 12 = .ok (.lconst 0, 1) := by decide +kernel
theorem d_M_set_13 : decode c_M_set 13 = .ok (.lcmp, 1) := by decide +kernel
theorem d_M_set_14 : decode c_M_set 14 = .ok (.ifCond .le 47, 3) := by decide +kernel
theorem d_M_set_17 : decode c_M_set 17 = .ok (.aload_n 0, 1) := by decide +kernel
theorem d_M_set_18 : decode c_M_set 18 = .ok (.getfield 7, 3) := by decide +kernel
theorem d_M_set_21 : decode c_M_set 21 = .ok (.sipush 2800, 3) := by decide +kernel
theorem d_M_set_24 : decode c_M_set 24 = .ok (.iload_n 1, 1) := by decide +kernel
theorem d_M_set_25 : decode c_M_set 25 = .ok (.imul, 1) := by decide +kernel
theorem d_M_set_26 : decode c_M_set 26 = .ok (.aload_n 0, 1) := by decide +kernel
theorem d_M_set_27 : decode c_M_set 27 = .ok (.getfield 13, 3) := by decide +kernel
theorem d_M_set_30 : decode c_M_set 30 = .ok (.iload_n 1, 1) := by decide +kernel
theorem d_M_set_31 : decode c_M_set 31 = .ok (.iaload, 1) := by decide +kernel
theorem d_M_set_32 : decode c_M_set 32 = .ok (.iadd, 1) := by decide +kernel
theorem d_M_set_33 : decode c_M_set 33 = .ok (.lload 4, 2) := by decide +kernel
theorem d_M_set_35 : decode c_M_set 35 = .ok (.ldc2_w 32, 3) := by decide +kernel
theorem d_M_set_38 : decode c_M_set 38 = .ok (.land, 1) := by decide +kernel
theorem d_M_set_39 : decode c_M_set 39 = .ok (.l2i, 1) := by decide +kernel
theorem d_M_set_40 : decode c_M_set 40 = .ok (.iastore, 1) := by decide +kernel
theorem d_M_set_41 : decode c_M_set 41 = .ok (.aload_n 0, 1) := by decide +kernel
theorem d_M_set_42 : decode c_M_set 42 = .ok (.getfield 13, 3) := by decide +kernel
theorem d_M_set_45 : decode c_M_set 45 = .ok (.iload_n 1, 1) := by decide +kernel
theorem d_M_set_46 : decode c_M_set 46 = .ok (.dup2, 1) := by decide +kernel
theorem d_M_set_47 : decode c_M_set 47 = .ok (.iaload, 1) := by decide +kernel
theorem d_M_set_48 : decode c_M_set 48 = .ok (.iconst 1, 1) := by decide +kernel
theorem d_M_set_49 : decode c_M_set 49 = .ok (.iadd, 1) := by decide +kernel
theorem d_M_set_50 : decode c_M_set 50 = .ok (.iastore, 1) := by decide +kernel
theorem d_M_set_51 : decode c_M_set 51 = .ok (.lload 4, 2) := by decide +kernel
theorem d_M_set_53 : decode c_M_set 53 = .ok (.bipush 15, 2) := by decide +kernel
theorem d_M_set_55 : decode c_M_set 55 = .ok (.lshr, 1) := by decide +kernel
theorem d_M_set_56 : decode c_M_set 56 = .ok (.lstore 4, 2) := by decide +kernel
theorem d_M_set_58 : decode c_M_set 58 = .ok (.goto (-48), 3) := by decide +kernel
theorem d_M_set_61 : decode c_M_set 61 = .ok (.return_, 1) := by decide +kernel
theorem d_M_grow_0 : decode c_M_grow 0 = .ok (.lload 4, 2) := by decide +kernel
theorem d_M_grow_2 : decode c_M_grow 2 = .ok (.lstore 6, 2) := by decide +kernel
theorem d_M_grow_4 : decode c_M_grow 4 = .ok (.iconst 0, 1) := by decide +kernel
theorem d_M_grow_5 : decode c_M_grow 5 = .ok (.istore 8, 2) := by decide +kernel
theorem d_M_grow_7 : decode c_M_grow 7 = .ok (.iload 8, 2) := by decide +kernel
theorem d_M_grow_9 : decode c_M_grow 9 = .ok (.aload_n 0, 1) := by decide +kernel
theorem d_M_grow_10 : decode c_M_grow 10 = .ok (.getfield 13, 3) := by decide +kernel
theorem d_M_grow_13 : decode c_M_grow 13 = .ok (.iload_n 1, 1) := by decide +kernel
theorem d_M_grow_14 : decode c_M_grow 14 = .ok (.iaload, 1) := by decide +kernel
theorem d_M_grow_15 : decode c_M_grow 15 = .ok (.if_icmp .lt 10, 3) := by decide +kernel
theorem d_M_grow_18 : decode c_M_grow 18 = .ok (.lload 6, 2) := by decide +kernel
theorem d_M_grow_20 : decode c_M_grow 20 = .ok (.lconst 0, 1) := by decide +kernel
theorem d_M_grow_21 : decode c_M_grow 21 = .ok (.lcmp, 1) := by decide +kernel
theorem d_M_grow_22 : decode c_M_grow 22 = .ok (.ifCond .le 83, 3) := by decide +kernel
theorem d_M_grow_25 : decode c_M_grow 25 = .ok (.lload 6, 2) := by decide +kernel
theorem d_M_grow_27 : decode c_M_grow 27 = .ok (.lload_n 2, 1) := by decide +kernel
theorem d_M_grow_28 : decode c_M_grow 28 = .ok (.aload_n 0, 1) := by decide +kernel
theorem d_M_grow_29 : decode c_M_grow 29 = .ok (.iload_n 1, 1) := by decide +kernel
theorem d_M_grow_30 : decode c_M_grow 30 = .ok (.iload 8, 2) := by decide +kernel
theorem d_M_grow_32 : decode c_M_grow 32 = .ok (.invokevirtual 34, 3) := by decide +kernel
theorem d_M_grow_35 : decode c_M_grow 35 = .ok (.i2l, 1) := by decide +kernel
theorem d_M_grow_36 : decode c_M_grow 36 = .ok (.lmul, 1) := by decide +kernel
theorem d_M_grow_37 : decode c_M_grow 37 = .ok (.ladd, 1) := by decide +kernel
theorem d_M_grow_38 : decode c_M_grow 38 = .ok (.lstore 6, 2) := by decide +kernel
theorem d_M_grow_40 : decode c_M_grow 40 = .ok (.aload_n 0, 1) := by decide +kernel
theorem d_M_grow_41 : decode c_M_grow 41 = .ok (.getfield 7, 3) := by decide +kernel
theorem d_M_grow_44 : decode c_M_grow 44 = .ok (.sipush 2800, 3) := by decide +kernel
theorem d_M_grow_47 : decode c_M_grow 47 = .ok (.iload_n 1, 1) := by decide +kernel
theorem d_M_grow_48 : decode c_M_grow 48 = .ok (.imul, 1) := by decide +kernel
theorem d_M_grow_49 : decode c_M_grow 49 = .ok (.iload 8, 2) := by decide +kernel
theorem d_M_grow_51 : decode c_M_grow 51 = .ok (.iadd, 1) := by decide +kernel
theorem d_M_grow_52 : decode c_M_grow 52 = .ok (.lload 6, 2) := by decide +kernel
theorem d_M_grow_54 : decode c_M_grow 54 = .ok (.ldc2_w 32, 3) := by decide +kernel
theorem d_M_grow_57 : decode c_M_grow 57 = .ok (.land, 1) := by decide +kernel
theorem d_M_grow_58 : decode c_M_grow 58 = .ok (.l2i, 1) := by decide +kernel
theorem d_M_grow_59 : decode c_M_grow 59 = .ok (.iastore, 1) := by decide +kernel
theorem d_M_grow_60 : decode c_M_grow 60 = .ok (.aload_n 0, 1) := by decide +kernel
theorem d_M_grow_61 : decode c_M_grow 61 = .ok (.getfield 13, 3) := by decide +kernel
theorem d_M_grow_64 : decode c_M_grow 64 = .ok (.iload_n 1, 1) := by decide +kernel
theorem d_M_grow_65 : decode c_M_grow 65 = .ok (.iload 8, 2) := by decide +kernel
theorem d_M_grow_67 : decode c_M_grow 67 = .ok (.iconst 1, 1) := by decide +kernel
theorem d_M_grow_68 : decode c_M_grow 68 = .ok (.iadd, 1) := by decide +kernel
theorem d_M_grow_69 : decode c_M_grow 69 = .ok (.aload_n 0, 1) := by decide +kernel
theorem d_M_grow_70 : decode c_M_grow 70 = .ok (.getfield 13, 3) := by decide +kernel
theorem d_M_grow_73 : decode c_M_grow 73 = .ok (.iload_n 1, 1) := by decide +kernel
theorem d_M_grow_74 : decode c_M_grow 74 = .ok (.iaload, 1) := by decide +kernel
theorem d_M_grow_75 : decode c_M_grow 75 = .ok (.if_icmp .le 10, 3) := by decide +kernel
theorem d_M_grow_78 : decode c_M_grow 78 = .ok (.iload 8, 2) := by decide +kernel
theorem d_M_grow_80 : decode c_M_grow 80 = .ok (.iconst 1, 1) := by decide +kernel
theorem d_M_grow_81 : decode c_M_grow 81 = .ok (.iadd, 1) := by decide +kernel
theorem d_M_grow_82 : decode c_M_grow 82 = .ok (.goto 9, 3) := by decide +kernel
theorem d_M_grow_85 : decode c_M_grow 85 = .ok (.aload_n 0, 1) := by decide +kernel
theorem d_M_grow_86 : decode c_M_grow 86 = .ok (.getfield 13, 3) := by decide +kernel
theorem d_M_grow_89 : decode c_M_grow 89 = .ok (.iload_n 1, 1) := by decide +kernel
theorem d_M_grow_90 : decode c_M_grow 90 = .ok (.iaload, 1) := by decide +kernel
theorem d_M_grow_91 : decode c_M_grow 91 = .ok (.iastore, 1) := by decide +kernel
theorem d_M_grow_92 : decode c_M_grow 92 = .ok (.lload 6, 2) := by decide +kernel
theorem d_M_grow_94 : decode c_M_grow 94 = .ok (.bipush 15, 2) := by decide +kernel
theorem d_M_grow_96 : decode c_M_grow 96 = .ok (.lshr, 1) := by decide +kernel
theorem d_M_grow_97 : decode c_M_grow 97 = .ok (.lstore 6, 2) := by decide +kernel
theorem d_M_grow_99 : decode c_M_grow 99 = .ok (.iinc 8 1, 3) := by decide +kernel
theorem d_M_grow_102 : decode c_M_grow 102 = .ok (.goto (-95), 3) := by decide +kernel
theorem d_M_grow_105 : decode c_M_grow 105 = .ok (.aload_n 0, 1) := by decide +kernel
theorem d_M_grow_106 : decode c_M_grow 106 = .ok (.iload_n 1, 1) := by decide +kernel
theorem d_M_grow_107 : decode c_M_grow 107 = .ok (.invokevirtual 38, 3) := by decide +kernel
theorem d_M_grow_110 : decode c_M_grow 110 = .ok (.return_, 1) := by decide +kernel
theorem d_M_at_0 : decode c_M_at 0 = .ok (.iload_n 2, 1) := by decide +kernel
theorem d_M_at_1 : decode c_M_at 1 = .ok (.ifCond .lt 28, 3) := by decide +kernel
theorem d_M_at_4 : decode c_M_at 4 = .ok (.iload_n 2, 1) := by decide +kernel
theorem d_M_at_5 : decode c_M_at 5 = .ok (.aload_n 0, 1) := by decide +kernel
theorem d_M_at_6 : decode c_M_at 6 = .ok (.getfield 13, 3) := by decide +kernel
theorem d_M_at_9 : decode c_M_at 9 = .ok (.iload_n 1, 1) := by decide +kernel
theorem d_M_at_10 : decode c_M_at 10 = .ok (.iaload, 1) := by decide +kernel
theorem d_M_at_11 : decode c_M_at 11 = .ok (.if_icmp .ge 18, 3) := by decide +kernel
theorem d_M_at_14 : decode c_M_at 14 = .ok (.aload_n 0, 1) := by decide +kernel
theorem d_M_at_15 : decode c_M_at 15 = .ok (.getfield 7, 3) := by decide +kernel
theorem d_M_at_18 : decode c_M_at 18 = .ok (.sipush 2800, 3) := by decide +kernel
theorem d_M_at_21 : decode c_M_at 21 = .ok (.iload_n 1, 1) := by decide +kernel
theorem d_M_at_22 : decode c_M_at 22 = .ok (.imul, 1) := by decide +kernel
theorem d_M_at_23 : decode c_M_at 23 = .ok (.iload_n 2, 1) := by decide +kernel
theorem d_M_at_24 : decode c_M_at 24 = .ok (.iadd, 1) := by decide +kernel
theorem d_M_at_25 : decode c_M_at 25 = .ok (.iaload, 1) := by decide +kernel
theorem d_M_at_26 : decode c_M_at 26 = .ok (.goto 4, 3) := by decide +kernel
theorem d_M_at_29 : decode c_M_at 29 = .ok (.iconst 0, 1) := by decide +kernel
theorem d_M_at_30 : decode c_M_at 30 = .ok (.ireturn, 1) := by decide +kernel
theorem d_M_trim_0 : decode c_M_trim 0 = .ok (.aload_n 0, 1) := by decide +kernel
theorem d_M_trim_1 : decode c_M_trim 1 = .ok (.getfield 13, 3) := by decide +kernel
theorem d_M_trim_4 : decode c_M_trim 4 = .ok (.iload_n 1, 1) := by decide +kernel
theorem d_M_trim_5 : decode c_M_trim 5 = .ok (.iaload, 1) := by decide +kernel
theorem d_M_trim_6 : decode c_M_trim 6 = .ok (.ifCond .le 38, 3) := by decide +kernel
theorem d_M_trim_9 : decode c_M_trim 9 = .ok (.aload_n 0, 1) := by decide +kernel
theorem d_M_trim_10 : decode c_M_trim 10 = .ok (.getfield 7, 3) := by decide +kernel
theorem d_M_trim_13 : decode c_M_trim 13 = .ok (.sipush 2800, 3) := by decide +kernel
theorem d_M_trim_16 : decode c_M_trim 16 = .ok (.iload_n 1, 1) := by decide +kernel
theorem d_M_trim_17 : decode c_M_trim 17 = .ok (.imul, 1) := by decide +kernel
theorem d_M_trim_18 : decode c_M_trim 18 = .ok (.aload_n 0, 1) := by decide +kernel
theorem d_M_trim_19 : decode c_M_trim 19 = .ok (.getfield 13, 3) := by decide +kernel
theorem d_M_trim_22 : decode c_M_trim 22 = .ok (.iload_n 1, 1) := by decide +kernel
theorem d_M_trim_23 : decode c_M_trim 23 = .ok (.iaload, 1) := by decide +kernel
theorem d_M_trim_24 : decode c_M_trim 24 = .ok (.iadd, 1) := by decide +kernel
theorem d_M_trim_25 : decode c_M_trim 25 = .ok (.iconst 1, 1) := by decide +kernel
theorem d_M_trim_26 : decode c_M_trim 26 = .ok (.isub, 1) := by decide +kernel
theorem d_M_trim_27 : decode c_M_trim 27 = .ok (.iaload, 1) := by decide +kernel
theorem d_M_trim_28 : decode c_M_trim 28 = .ok (.ifCond .ne 16, 3) := by decide +kernel
theorem d_M_trim_31 : decode c_M_trim 31 = .ok (.aload_n 0, 1) := by decide +kernel
theorem d_M_trim_32 : decode c_M_trim 32 = .ok (.getfield 13, 3) := by decide +kernel
theorem d_M_trim_35 : decode c_M_trim 35 = .ok (.iload_n 1, 1) := by decide +kernel
theorem d_M_trim_36 : decode c_M_trim 36 = .ok (.dup2, 1) := by decide +kernel
theorem d_M_trim_37 : decode c_M_trim 37 = .ok (.iaload, 1) := by decide +kernel
theorem d_M_trim_38 : decode c_M_trim 38 = .ok (.iconst 1, 1) := by decide +kernel
theorem d_M_trim_39 : decode c_M_trim 39 = .ok (.isub, 1) := by decide +kernel
theorem d_M_trim_40 : decode c_M_trim 40 = .ok (.iastore, 1) := by decide +kernel
theorem d_M_trim_41 : decode c_M_trim 41 = .ok (.goto (-41), 3) := by decide +kernel
theorem d_M_trim_44 : decode c_M_trim 44 = .ok (.return_, 1) := by decide +kernel
theorem d_M_rootOf_0 : decode c_M_rootOf 0 = .ok (.aload_n 0, 1) := by decide +kernel
theorem d_M_rootOf_1 : decode c_M_rootOf 1 = .ok (.getfield 13, 3) := by decide +kernel
theorem d_M_rootOf_4 : decode c_M_rootOf 4 = .ok (.bipush 7, 2) := by decide +kernel
theorem d_M_rootOf_6 : decode c_M_rootOf 6 = .ok (.iconst 0, 1) := by decide +kernel
theorem d_M_rootOf_7 : decode c_M_rootOf 7 = .ok (.iastore, 1) := by decide +kernel
theorem d_M_rootOf_8 : decode c_M_rootOf 8 = .ok (.aload_n 0, 1) := by decide +kernel
theorem d_M_rootOf_9 : decode c_M_rootOf 9 = .ok (.getfield 13, 3) := by decide +kernel
theorem d_M_rootOf_12 : decode c_M_rootOf 12 = .ok (.iload_n 1, 1) := by decide +kernel
theorem d_M_rootOf_13 : decode c_M_rootOf 13 = .ok (.iconst 0, 1) := by decide +kernel
theorem d_M_rootOf_14 : decode c_M_rootOf 14 = .ok (.iastore, 1) := by decide +kernel
theorem d_M_rootOf_15 : decode c_M_rootOf 15 = .ok (.aload_n 0, 1) := by decide +kernel
theorem d_M_rootOf_16 : decode c_M_rootOf 16 = .ok (.getfield 13, 3) := by decide +kernel
theorem d_M_rootOf_19 : decode c_M_rootOf 19 = .ok (.iload_n 2, 1) := by decide +kernel
theorem d_M_rootOf_20 : decode c_M_rootOf 20 = .ok (.iaload, 1) := by decide +kernel
theorem d_M_rootOf_21 : decode c_M_rootOf 21 = .ok (.iconst 1, 1) := by decide +kernel
theorem d_M_rootOf_22 : decode c_M_rootOf 22 = .ok (.iadd, 1) := by decide +kernel
theorem d_M_rootOf_23 : decode c_M_rootOf 23 = .ok (.iconst 2, 1) := by decide +kernel
theorem d_M_rootOf_24 : decode c_M_rootOf 24 = .ok (.idiv, 1) := by decide +kernel
theorem d_M_rootOf_25 : decode c_M_rootOf 25 = .ok (.iconst 1, 1) := by decide +kernel
theorem d_M_rootOf_26 : decode c_M_rootOf 26 = .ok (.isub, 1) := by decide +kernel
theorem d_M_rootOf_27 : decode c_M_rootOf 27 = .ok (.istore_n 3, 1) := by decide +kernel
theorem d_M_rootOf_28 : decode c_M_rootOf 28 = .ok (.iload_n 3, 1) := by decide +kernel
theorem d_M_rootOf_29 : decode c_M_rootOf 29 = .ok (.ifCond .lt 222, 3) := by decide +kernel
theorem d_M_rootOf_32 : decode c_M_rootOf 32 = .ok (.aload_n 0, 1) := by decide +kernel
theorem d_M_rootOf_33 : decode c_M_rootOf 33 = .ok (.bipush 7, 2) := by decide +kernel
theorem d_M_rootOf_35 : decode c_M_rootOf 35 = .ok (.ldc2_w 54, 3) := by decide +kernel
theorem d_M_rootOf_38 : decode c_M_rootOf 38 = .ok (.aload_n 0, 1) := by decide +kernel
theorem d_M_rootOf_39 : decode c_M_rootOf 39 = .ok (.iload_n 2, 1) := by decide +kernel
theorem d_M_rootOf_40 : decode c_M_rootOf 40 = .ok (.iconst 2, 1) := by decide +kernel
theorem d_M_rootOf_41 : decode c_M_rootOf 41 = .ok (.iload_n 3, 1) := by decide +kernel
theorem d_M_rootOf_42 : decode c_M_rootOf 42 = .ok (.imul, 1) := by decide +kernel
theorem d_M_rootOf_43 : decode c_M_rootOf 43 = .ok (.iconst 1, 1) := by decide +kernel
theorem d_M_rootOf_44 : decode c_M_rootOf 44 = .ok (.iadd, 1) := by decide +kernel
theorem d_M_rootOf_45 : decode c_M_rootOf 45 = .ok (.invokevirtual 34, 3) := by decide +kernel
theorem d_M_rootOf_48 : decode c_M_rootOf 48 = .ok (.i2l, 1) := by decide +kernel
theorem d_M_rootOf_49 : decode c_M_rootOf 49 = .ok (.invokevirtual 60, 3) := by decide +kernel
theorem d_M_rootOf_52 : decode c_M_rootOf 52 = .ok (.aload_n 0, 1) := by decide +kernel
theorem d_M_rootOf_53 : decode c_M_rootOf 53 = .ok (.bipush 7, 2) := by decide +kernel
theorem d_M_rootOf_55 : decode c_M_rootOf 55 = .ok (.ldc2_w 54, 3) := by decide +kernel
theorem d_M_rootOf_58 : decode c_M_rootOf 58 = .ok (.aload_n 0, 1) := by decide +kernel
theorem d_M_rootOf_59 : decode c_M_rootOf 59 = .ok (.iload_n 2, 1) := by decide +kernel
theorem d_M_rootOf_60 : decode c_M_rootOf 60 = .ok (.iconst 2, 1) := by decide +kernel
theorem d_M_rootOf_61 : decode c_M_rootOf 61 = .ok (.iload_n 3, 1) := by decide +kernel
theorem d_M_rootOf_62 : decode c_M_rootOf 62 = .ok (.imul, 1) := by decide +kernel
theorem d_M_rootOf_63 : decode c_M_rootOf 63 = .ok (.invokevirtual 34, 3) := by decide +kernel
theorem d_M_rootOf_66 : decode c_M_rootOf 66 = .ok (.i2l, 1) := by decide +kernel
theorem d_M_rootOf_67 : decode c_M_rootOf 67 = .ok (.invokevirtual 60, 3) := by decide +kernel
theorem d_M_rootOf_70 : decode c_M_rootOf 70 = .ok (.aload_n 0, 1) := by decide +kernel
theorem d_M_rootOf_71 : decode c_M_rootOf 71 = .ok (.iload_n 1, 1) := by decide +kernel
theorem d_M_rootOf_72 : decode c_M_rootOf 72 = .ok (.iconst 1, 1) := by decide +kernel
theorem d_M_rootOf_73 : decode c_M_rootOf 73 = .ok (.invokevirtual 46, 3) := by decide +kernel
theorem d_M_rootOf_76 : decode c_M_rootOf 76 = .ok (.aload_n 0, 1) := by decide +kernel
theorem d_M_rootOf_77 : decode c_M_rootOf 77 = .ok (.bipush 8, 2) := by decide +kernel
theorem d_M_rootOf_79 : decode c_M_rootOf 79 = .ok (.iload_n 1, 1) := by decide +kernel
theorem d_M_rootOf_80 : decode c_M_rootOf 80 = .ok (.invokevirtual 70, 3) := by decide +kernel
theorem d_M_rootOf_83 : decode c_M_rootOf 83 = .ok (.aload_n 0, 1) := by decide +kernel
theorem d_M_rootOf_84 : decode c_M_rootOf 84 = .ok (.bipush 8, 2) := by decide +kernel
theorem d_M_rootOf_86 : decode c_M_rootOf 86 = .ok (.ldc2_w 73, 3) := by decide +kernel
theorem d_M_rootOf_89 : decode c_M_rootOf 89 = .ok (.lconst 0, 1) := by decide +kernel
theorem d_M_rootOf_90 : decode c_M_rootOf 90 = .ok (.invokevirtual 60, 3) := by decide +kernel
theorem d_M_rootOf_93 : decode c_M_rootOf 93 = .ok (.aload_n 0, 1) := by decide +kernel
theorem d_M_rootOf_94 : decode c_M_rootOf 94 = .ok (.getfield 13, 3) := by decide +kernel
theorem d_M_rootOf_97 : decode c_M_rootOf 97 = .ok (.bipush 8, 2) := by decide +kernel
theorem d_M_rootOf_99 : decode c_M_rootOf 99 = .ok (.iaload, 1) := by decide +kernel
theorem d_M_rootOf_100 : decode c_M_rootOf 100 = .ok (.ifCond .ne 9, 3) := by decide +kernel
theorem d_M_rootOf_103 : decode c_M_rootOf 103 = .ok (.ldc2_w 32, 3) := by decide +kernel
theorem d_M_rootOf_106 : decode c_M_rootOf 106 = .ok (.goto 42, 3) := by decide +kernel
theorem d_M_rootOf_109 : decode c_M_rootOf 109 = .ok (.aload_n 0, 1) := by decide +kernel
theorem d_M_rootOf_110 : decode c_M_rootOf 110 = .ok (.bipush 7, 2) := by decide +kernel
theorem d_M_rootOf_112 : decode c_M_rootOf 112 = .ok (.aload_n 0, 1) := by decide +kernel
theorem d_M_rootOf_113 : decode c_M_rootOf 113 = .ok (.getfield 13, 3) := by decide +kernel
theorem d_M_rootOf_116 : decode c_M_rootOf 116 = .ok (.bipush 8, 2) := by decide +kernel
theorem d_M_rootOf_118 : decode c_M_rootOf 118 = .ok (.iaload, 1) := by decide +kernel
theorem d_M_rootOf_119 : decode c_M_rootOf 119 = .ok (.invokevirtual 56, 3) := by decide +kernel
theorem d_M_rootOf_122 : decode c_M_rootOf 122 = .ok (.aload_n 0, 1) := by decide +kernel
theorem d_M_rootOf_123 : decode c_M_rootOf 123 = .ok (.bipush 8, 2) := by decide +kernel
theorem d_M_rootOf_125 : decode c_M_rootOf 125 = .ok (.aload_n 0, 1) := by decide +kernel
theorem d_M_rootOf_126 : decode c_M_rootOf 126 = .ok (.getfield 13, 3) := by decide +kernel
theorem d_M_rootOf_129 : decode c_M_rootOf 129 = .ok (.bipush 8, 2) := by decide +kernel
theorem d_M_rootOf_131 : decode c_M_rootOf 131 = .ok (.iaload, 1) := by decide +kernel
theorem d_M_rootOf_132 : decode c_M_rootOf 132 = .ok (.iconst 1, 1) := by decide +kernel
theorem d_M_rootOf_133 : decode c_M_rootOf 133 = .ok (.isub, 1) := by decide +kernel
theorem d_M_rootOf_134 : decode c_M_rootOf 134 = .ok (.invokevirtual 56, 3) := by decide +kernel
theorem d_M_rootOf_137 : decode c_M_rootOf 137 = .ok (.ldc2_w 54, 3) := by decide +kernel
theorem d_M_rootOf_140 : decode c_M_rootOf 140 = .ok (.ldiv, 1) := by decide +kernel
theorem d_M_rootOf_141 : decode c_M_rootOf 141 = .ok (.lconst 1, 1) := by decide +kernel
theorem d_M_rootOf_142 : decode c_M_rootOf 142 = .ok (.ladd, 1) := by decide +kernel
theorem d_M_rootOf_143 : decode c_M_rootOf 143 = .ok (.ldiv, 1) := by decide +kernel
theorem d_M_rootOf_144 : decode c_M_rootOf 144 = .ok (.ldc2_w 75, 3) := by decide +kernel
theorem d_M_rootOf_147 : decode c_M_rootOf 147 = .ok (.ladd, 1) := by decide +kernel
theorem d_M_rootOf_148 : decode c_M_rootOf 148 = .ok (.lstore 4, 2) := by decide +kernel
theorem d_M_rootOf_150 : decode c_M_rootOf 150 = .ok (.lload 4, 2) := by decide +kernel
theorem d_M_rootOf_152 : decode c_M_rootOf 152 = .ok (.ldc2_w 32, 3) := by decide +kernel
theorem d_M_rootOf_155 : decode c_M_rootOf 155 = .ok (.lcmp, 1) := by decide +kernel
theorem d_M_rootOf_156 : decode c_M_rootOf 156 = .ok (.ifCond .le 9, 3) := by decide +kernel
theorem d_M_rootOf_159 : decode c_M_rootOf 159 = .ok (.ldc2_w 32, 3) := by decide +kernel
theorem d_M_rootOf_162 : decode c_M_rootOf 162 = .ok (.goto 5, 3) := by decide +kernel
theorem d_M_rootOf_165 : decode c_M_rootOf 165 = .ok (.lload 4, 2) := by decide +kernel
theorem d_M_rootOf_167 : decode c_M_rootOf 167 = .ok (.lstore 4, 2) := by decide +kernel
theorem d_M_rootOf_169 : decode c_M_rootOf 169 = .ok (.aload_n 0, 1) := by decide +kernel
theorem d_M_rootOf_170 : decode c_M_rootOf 170 = .ok (.aload_n 0, 1) := by decide +kernel
theorem d_M_rootOf_171 : decode c_M_rootOf 171 = .ok (.getfield 13, 3) := by decide +kernel
theorem d_M_rootOf_174 : decode c_M_rootOf 174 = .ok (.bipush 8, 2) := by decide +kernel
theorem d_M_rootOf_176 : decode c_M_rootOf 176 = .ok (.iaload, 1) := by decide +kernel
theorem d_M_rootOf_177 : decode c_M_rootOf 177 = .ok (.iconst 5, 1) := by decide +kernel
theorem d_M_rootOf_178 : decode c_M_rootOf 178 = .ok (.if_icmp .lt 12, 3) := by decide +kernel
theorem d_M_rootOf_181 : decode c_M_rootOf 181 = .ok (.lload 4, 2) := by decide +kernel
theorem d_M_rootOf_183 : decode c_M_rootOf 183 = .ok (.ldc2_w 77, 3) := by decide +kernel
theorem d_M_rootOf_186 : decode c_M_rootOf 186 = .ok (.lcmp, 1) := by decide +kernel
theorem d_M_rootOf_187 : decode c_M_rootOf 187 = .ok (.ifCond .ge 7, 3) := by decide +kernel
theorem d_M_rootOf_190 : decode c_M_rootOf 190 = .ok (.lconst 0, 1) := by decide +kernel
theorem d_M_rootOf_191 : decode c_M_rootOf 191 = .ok (.goto 9, 3) := by decide +kernel
theorem d_M_rootOf_194 : decode c_M_rootOf 194 = .ok (.lload 4, 2) := by decide +kernel
theorem d_M_rootOf_196 : decode c_M_rootOf 196 = .ok (.ldc2_w 77, 3) := by decide +kernel
theorem d_M_rootOf_199 : decode c_M_rootOf 199 = .ok (.lsub, 1) := by decide +kernel
theorem d_M_rootOf_200 : decode c_M_rootOf 200 = .ok (.lload 4, 2) := by decide +kernel
theorem d_M_rootOf_202 : decode c_M_rootOf 202 = .ok (.invokevirtual 79, 3) := by decide +kernel
theorem d_M_rootOf_205 : decode c_M_rootOf 205 = .ok (.lstore 6, 2) := by decide +kernel
theorem d_M_rootOf_207 : decode c_M_rootOf 207 = .ok (.aload_n 0, 1) := by decide +kernel
theorem d_M_rootOf_208 : decode c_M_rootOf 208 = .ok (.bipush 9, 2) := by decide +kernel
theorem d_M_rootOf_210 : decode c_M_rootOf 210 = .ok (.lload 6, 2) := by decide +kernel
theorem d_M_rootOf_212 : decode c_M_rootOf 212 = .ok (.lload 6, 2) := by decide +kernel
theorem d_M_rootOf_214 : decode c_M_rootOf 214 = .ok (.lmul, 1) := by decide +kernel
theorem d_M_rootOf_215 : decode c_M_rootOf 215 = .ok (.invokevirtual 83, 3) := by decide +kernel
theorem d_M_rootOf_218 : decode c_M_rootOf 218 = .ok (.aload_n 0, 1) := by decide +kernel
theorem d_M_rootOf_219 : decode c_M_rootOf 219 = .ok (.bipush 7, 2) := by decide +kernel
theorem d_M_rootOf_221 : decode c_M_rootOf 221 = .ok (.bipush 8, 2) := by decide +kernel
theorem d_M_rootOf_223 : decode c_M_rootOf 223 = .ok (.lload 6, 2) := by decide +kernel
theorem d_M_rootOf_225 : decode c_M_rootOf 225 = .ok (.invokevirtual 64, 3) := by decide +kernel
theorem d_M_rootOf_228 : decode c_M_rootOf 228 = .ok (.aload_n 0, 1) := by decide +kernel
theorem d_M_rootOf_229 : decode c_M_rootOf 229 = .ok (.bipush 7, 2) := by decide +kernel
theorem d_M_rootOf_231 : decode c_M_rootOf 231 = .ok (.bipush 9, 2) := by decide +kernel
theorem d_M_rootOf_233 : decode c_M_rootOf 233 = .ok (.lconst 1, 1) := by decide +kernel
theorem d_M_rootOf_234 : decode c_M_rootOf 234 = .ok (.invokevirtual 64, 3) := by decide +kernel
theorem d_M_rootOf_237 : decode c_M_rootOf 237 = .ok (.aload_n 0, 1) := by decide +kernel
theorem d_M_rootOf_238 : decode c_M_rootOf 238 = .ok (.iload_n 1, 1) := by decide +kernel
theorem d_M_rootOf_239 : decode c_M_rootOf 239 = .ok (.lconst 1, 1) := by decide +kernel
theorem d_M_rootOf_240 : decode c_M_rootOf 240 = .ok (.lload 6, 2) := by decide +kernel
theorem d_M_rootOf_242 : decode c_M_rootOf 242 = .ok (.invokevirtual 60, 3) := by decide +kernel
theorem d_M_rootOf_245 : decode c_M_rootOf 245 = .ok (.iinc 3 (-1), 3) := by decide +kernel
theorem d_M_rootOf_248 : decode c_M_rootOf 248 = .ok (.goto (-220), 3) := by decide +kernel
theorem d_M_rootOf_251 : decode c_M_rootOf 251 = .ok (.return_, 1) := by decide +kernel
theorem d_M_shift_0 : decode c_M_shift 0 = .ok (.aload_n 0, 1) := by decide +kernel
theorem d_M_shift_1 : decode c_M_shift 1 = .ok (.getfield 13, 3) := by decide +kernel
theorem d_M_shift_4 : decode c_M_shift 4 = .ok (.iload_n 1, 1) := by decide +kernel
theorem d_M_shift_5 : decode c_M_shift 5 = .ok (.iaload, 1) := by decide +kernel
theorem d_M_shift_6 : decode c_M_shift 6 = .ok (.istore_n 3, 1) := by decide +kernel
theorem d_M_shift_7 : decode c_M_shift 7 = .ok (.iconst 0, 1) := by decide +kernel
theorem d_M_shift_8 : decode c_M_shift 8 = .ok (.istore 4, 2) := by decide +kernel
theorem d_M_shift_10 : decode c_M_shift 10 = .ok (.iload 4, 2) := by decide +kernel
theorem d_M_shift_12 : decode c_M_shift 12 = .ok (.iload_n 3, 1) := by decide +kernel
theorem d_M_shift_13 : decode c_M_shift 13 = .ok (.if_icmp .ge 61, 3) := by decide +kernel
theorem d_M_shift_16 : decode c_M_shift 16 = .ok (.iload_n 2, 1) := by decide +kernel
theorem d_M_shift_17 : decode c_M_shift 17 = .ok (.ifCond .le 12, 3) := by decide +kernel
theorem d_M_shift_20 : decode c_M_shift 20 = .ok (.iload_n 3, 1) := by decide +kernel
theorem d_M_shift_21 : decode c_M_shift 21 = .ok (.iconst 1, 1) := by decide +kernel
theorem d_M_shift_22 : decode c_M_shift 22 = .ok (.isub, 1) := by decide +kernel
theorem d_M_shift_23 : decode c_M_shift 23 = .ok (.iload 4, 2) := by decide +kernel
theorem d_M_shift_25 : decode c_M_shift 25 = .ok (.isub, 1) := by decide +kernel
theorem d_M_shift_26 : decode c_M_shift 26 = .ok (.goto 5, 3) := by decide +kernel
theorem d_M_shift_29 : decode c_M_shift 29 = .ok (.iload 4, 2) := by decide +kernel
theorem d_M_shift_31 : decode c_M_shift 31 = .ok (.istore 5, 2) := by decide +kernel
theorem d_M_shift_33 : decode c_M_shift 33 = .ok (.iload 5, 2) := by decide +kernel
theorem d_M_shift_35 : decode c_M_shift 35 = .ok (.iload_n 2, 1) := by decide +kernel
theorem d_M_shift_36 : decode c_M_shift 36 = .ok (.iadd, 1) := by decide +kernel
theorem d_M_shift_37 : decode c_M_shift 37 = .ok (.ifCond .lt 31, 3) := by decide +kernel
theorem d_M_shift_40 : decode c_M_shift 40 = .ok (.aload_n 0, 1) := by decide +kernel
theorem d_M_shift_41 : decode c_M_shift 41 = .ok (.getfield 7, 3) := by decide +kernel
theorem d_M_shift_44 : decode c_M_shift 44 = .ok (.sipush 2800, 3) := by decide +kernel
theorem d_M_shift_47 : decode c_M_shift 47 = .ok (.iload_n 1, 1) := by decide +kernel
theorem d_M_shift_48 : decode c_M_shift 48 = .ok (.imul, 1) := by decide +kernel
theorem d_M_shift_49 : decode c_M_shift 49 = .ok (.iload 5, 2) := by decide +kernel
theorem d_M_shift_51 : decode c_M_shift 51 = .ok (.iadd, 1) := by decide +kernel
theorem d_M_shift_52 : decode c_M_shift 52 = .ok (.iload_n 2, 1) := by decide +kernel
theorem d_M_shift_53 : decode c_M_shift 53 = .ok (.iadd, 1) := by decide +kernel
theorem d_M_shift_54 : decode c_M_shift 54 = .ok (.aload_n 0, 1) := by decide +kernel
theorem d_M_shift_55 : decode c_M_shift 55 = .ok (.getfield 7, 3) := by decide +kernel
theorem d_M_shift_58 : decode c_M_shift 58 = .ok (.sipush 2800, 3) := by decide +kernel
theorem d_M_shift_61 : decode c_M_shift 61 = .ok (.iload_n 1, 1) := by decide +kernel
theorem d_M_shift_62 : decode c_M_shift 62 = .ok (.imul, 1) := by decide +kernel
theorem d_M_shift_63 : decode c_M_shift 63 = .ok (.iload 5, 2) := by decide +kernel
theorem d_M_shift_65 : decode c_M_shift 65 = .ok (.iadd, 1) := by decide +kernel
theorem d_M_shift_66 : decode c_M_shift 66 = .ok (.iaload, 1) := by decide +kernel
theorem d_M_shift_67 : decode c_M_shift 67 = .ok (.iastore, 1) := by decide +kernel
theorem d_M_shift_68 : decode c_M_shift 68 = .ok (.iinc 4 1, 3) := by decide +kernel
theorem d_M_shift_71 : decode c_M_shift 71 = .ok (.goto (-61), 3) := by decide +kernel
theorem d_M_shift_74 : decode c_M_shift 74 = .ok (.iconst 0, 1) := by decide +kernel
theorem d_M_shift_75 : decode c_M_shift 75 = .ok (.istore 4, 2) := by decide +kernel
theorem d_M_shift_77 : decode c_M_shift 77 = .ok (.iload 4, 2) := by decide +kernel
theorem d_M_shift_79 : decode c_M_shift 79 = .ok (.iload_n 2, 1) := by decide +kernel
theorem d_M_shift_80 : decode c_M_shift 80 = .ok (.if_icmp .ge 27, 3) := by decide +kernel
theorem d_M_shift_83 : decode c_M_shift 83 = .ok (.iload_n 3, 1) := by decide +kernel
theorem d_M_shift_84 : decode c_M_shift 84 = .ok (.ifCond .le 23, 3) := by decide +kernel
theorem d_M_shift_87 : decode c_M_shift 87 = .ok (.aload_n 0, 1) := by decide +kernel
theorem d_M_shift_88 : decode c_M_shift 88 = .ok (.getfield 7, 3) := by decide +kernel
theorem d_M_shift_91 : decode c_M_shift 91 = .ok (.sipush 2800, 3) := by decide +kernel
theorem d_M_shift_94 : decode c_M_shift 94 = .ok (.iload_n 1, 1) := by decide +kernel
theorem d_M_shift_95 : decode c_M_shift 95 = .ok (.imul, 1) := by decide +kernel
theorem d_M_shift_96 : decode c_M_shift 96 = .ok (.iload 4, 2) := by decide +kernel
theorem d_M_shift_98 : decode c_M_shift 98 = .ok (.iadd, 1) := by decide +kernel
theorem d_M_shift_99 : decode c_M_shift 99 = .ok (.iconst 0, 1) := by decide +kernel
theorem d_M_shift_100 : decode c_M_shift 100 = .ok (.iastore, 1) := by decide +kernel
theorem d_M_shift_101 : decode c_M_shift 101 = .ok (.iinc 4 1, 3) := by decide +kernel
theorem d_M_shift_104 : decode c_M_shift 104 = .ok (.goto (-27), 3) := by decide +kernel
theorem d_M_shift_107 : decode c_M_shift 107 = .ok (.aload_n 0, 1) := by decide +kernel
theorem d_M_shift_108 : decode c_M_shift 108 = .ok (.getfield 13, 3) := by decide +kernel
theorem d_M_shift_111 : decode c_M_shift 111 = .ok (.iload_n 1, 1) := by decide +kernel
theorem d_M_shift_112 : decode c_M_shift 112 = .ok (.iload_n 3, 1) := by decide +kernel
theorem d_M_shift_113 : decode c_M_shift 113 = .ok (.ifCond .eq 9, 3) := by decide +kernel
theorem d_M_shift_116 : decode c_M_shift 116 = .ok (.iload_n 3, 1) := by decide +kernel
theorem d_M_shift_117 : decode c_M_shift 117 = .ok (.iload_n 2, 1) := by decide +kernel
theorem d_M_shift_118 : decode c_M_shift 118 = .ok (.iadd, 1) := by decide +kernel
theorem d_M_shift_119 : decode c_M_shift 119 = .ok (.ifCond .ge 7, 3) := by decide +kernel
theorem d_M_shift_122 : decode c_M_shift 122 = .ok (.iconst 0, 1) := by decide +kernel
theorem d_M_shift_123 : decode c_M_shift 123 = .ok (.goto 6, 3) := by decide +kernel
theorem d_M_shift_126 : decode c_M_shift 126 = .ok (.iload_n 3, 1) := by decide +kernel
theorem d_M_shift_127 : decode c_M_shift 127 = .ok (.iload_n 2, 1) := by decide +kernel
theorem d_M_shift_128 : decode c_M_shift 128 = .ok (.iadd, 1) := by decide +kernel
theorem d_M_shift_129 : decode c_M_shift 129 = .ok (.iastore, 1) := by decide +kernel
theorem d_M_shift_130 : decode c_M_shift 130 = .ok (.aload_n 0, 1) := by decide +kernel
theorem d_M_shift_131 : decode c_M_shift 131 = .ok (.iload_n 1, 1) := by decide +kernel
theorem d_M_shift_132 : decode c_M_shift 132 = .ok (.invokevirtual 38, 3) := by decide +kernel
theorem d_M_shift_135 : decode c_M_shift 135 = .ok (.return_, 1) := by decide +kernel
theorem d_M_copy_0 : decode c_M_copy 0 = .ok (.iconst 0, 1) := by decide +kernel
theorem d_M_copy_1 : decode c_M_copy 1 = .ok (.istore_n 3, 1) := by decide +kernel
theorem d_M_copy_2 : decode c_M_copy 2 = .ok (.iload_n 3, 1) := by decide +kernel
theorem d_M_copy_3 : decode c_M_copy 3 = .ok (.aload_n 0, 1) := by decide +kernel
theorem d_M_copy_4 : decode c_M_copy 4 = .ok (.getfield 13, 3) := by decide +kernel
theorem d_M_copy_7 : decode c_M_copy 7 = .ok (.iload_n 2, 1) := by decide +kernel
theorem d_M_copy_8 : decode c_M_copy 8 = .ok (.iaload, 1) := by decide +kernel
theorem d_M_copy_9 : decode c_M_copy 9 = .ok (.if_icmp .ge 33, 3) := by decide +kernel
theorem d_M_copy_12 : decode c_M_copy 12 = .ok (.aload_n 0, 1) := by decide +kernel
theorem d_M_copy_13 : decode c_M_copy 13 = .ok (.getfield 7, 3) := by decide +kernel
theorem d_M_copy_16 : decode c_M_copy 16 = .ok (.sipush 2800, 3) := by decide +kernel
theorem d_M_copy_19 : decode c_M_copy 19 = .ok (.iload_n 1, 1) := by decide +kernel
theorem d_M_copy_20 : decode c_M_copy 20 = .ok (.imul, 1) := by decide +kernel
theorem d_M_copy_21 : decode c_M_copy 21 = .ok (.iload_n 3, 1) := by decide +kernel
theorem d_M_copy_22 : decode c_M_copy 22 = .ok (.iadd, 1) := by decide +kernel
theorem d_M_copy_23 : decode c_M_copy 23 = .ok (.aload_n 0, 1) := by decide +kernel
theorem d_M_copy_24 : decode c_M_copy 24 = .ok (.getfield 7, 3) := by decide +kernel
theorem d_M_copy_27 : decode c_M_copy 27 = .ok (.sipush 2800, 3) := by decide +kernel
theorem d_M_copy_30 : decode c_M_copy 30 = .ok (.iload_n 2, 1) := by decide +kernel
theorem d_M_copy_31 : decode c_M_copy 31 = .ok (.imul, 1) := by decide +kernel
theorem d_M_copy_32 : decode c_M_copy 32 = .ok (.iload_n 3, 1) := by decide +kernel
theorem d_M_copy_33 : decode c_M_copy 33 = .ok (.iadd, 1) := by decide +kernel
theorem d_M_copy_34 : decode c_M_copy 34 = .ok (.iaload, 1) := by decide +kernel
theorem d_M_copy_35 : decode c_M_copy 35 = .ok (.iastore, 1) := by decide +kernel
theorem d_M_copy_36 : decode c_M_copy 36 = .ok (.iinc 3 1, 3) := by decide +kernel
theorem d_M_copy_39 : decode c_M_copy 39 = .ok (.goto (-37), 3) := by decide +kernel
theorem d_M_copy_42 : decode c_M_copy 42 = .ok (.aload_n 0, 1) := by decide +kernel
theorem d_M_copy_43 : decode c_M_copy 43 = .ok (.getfield 13, 3) := by decide +kernel
theorem d_M_copy_46 : decode c_M_copy 46 = .ok (.iload_n 1, 1) := by decide +kernel
theorem d_M_copy_47 : decode c_M_copy 47 = .ok (.aload_n 0, 1) := by decide +kernel
theorem d_M_copy_48 : decode c_M_copy 48 = .ok (.getfield 13, 3) := by decide +kernel
theorem d_M_copy_51 : decode c_M_copy 51 = .ok (.iload_n 2, 1) := by decide +kernel
theorem d_M_copy_52 : decode c_M_copy 52 = .ok (.iaload, 1) := by decide +kernel
theorem d_M_copy_53 : decode c_M_copy 53 = .ok (.iastore, 1) := by decide +kernel
theorem d_M_copy_54 : decode c_M_copy 54 = .ok (.return_, 1) := by decide +kernel
theorem d_M_leading_0 : decode c_M_leading 0 = .ok (.aload_n 0, 1) := by decide +kernel
theorem d_M_leading_1 : decode c_M_leading 1 = .ok (.iload_n 1, 1) := by decide +kernel
theorem d_M_leading_2 : decode c_M_leading 2 = .ok (.iload_n 2, 1) := by decide +kernel
theorem d_M_leading_3 : decode c_M_leading 3 = .ok (.invokevirtual 34, 3) := by decide +kernel
theorem d_M_leading_6 : decode c_M_leading 6 = .ok (.i2l, 1) := by decide +kernel
theorem d_M_leading_7 : decode c_M_leading 7 = .ok (.ldc2_w 54, 3) := by decide +kernel
theorem d_M_leading_10 : decode c_M_leading 10 = .ok (.lmul, 1) := by decide +kernel
theorem d_M_leading_11 : decode c_M_leading 11 = .ok (.aload_n 0, 1) := by decide +kernel
theorem d_M_leading_12 : decode c_M_leading 12 = .ok (.iload_n 1, 1) := by decide +kernel
theorem d_M_leading_13 : decode c_M_leading 13 = .ok (.iload_n 2, 1) := by decide +kernel
theorem d_M_leading_14 : decode c_M_leading 14 = .ok (.iconst 1, 1) := by decide +kernel
theorem d_M_leading_15 : decode c_M_leading 15 = .ok (.isub, 1) := by decide +kernel
theorem d_M_leading_16 : decode c_M_leading 16 = .ok (.invokevirtual 34, 3) := by decide +kernel
theorem d_M_leading_19 : decode c_M_leading 19 = .ok (.i2l, 1) := by decide +kernel
theorem d_M_leading_20 : decode c_M_leading 20 = .ok (.ladd, 1) := by decide +kernel
theorem d_M_leading_21 : decode c_M_leading 21 = .ok (.ldc2_w 54, 3) := by decide +kernel
theorem d_M_leading_24 : decode c_M_leading 24 = .ok (.lmul, 1) := by decide +kernel
theorem d_M_leading_25 : decode c_M_leading 25 = .ok (.aload_n 0, 1) := by decide +kernel
theorem d_M_leading_26 : decode c_M_leading 26 = .ok (.iload_n 1, 1) := by decide +kernel
theorem d_M_leading_27 : decode c_M_leading 27 = .ok (.iload_n 2, 1) := by decide +kernel
theorem d_M_leading_28 : decode c_M_leading 28 = .ok (.iconst 2, 1) := by decide +kernel
theorem d_M_leading_29 : decode c_M_leading 29 = .ok (.isub, 1) := by decide +kernel
theorem d_M_leading_30 : decode c_M_leading 30 = .ok (.invokevirtual 34, 3) := by decide +kernel
theorem d_M_leading_33 : decode c_M_leading 33 = .ok (.i2l, 1) := by decide +kernel
theorem d_M_leading_34 : decode c_M_leading 34 = .ok (.ladd, 1) := by decide +kernel
theorem d_M_leading_35 : decode c_M_leading 35 = .ok (.ldc2_w 54, 3) := by decide +kernel
theorem d_M_leading_38 : decode c_M_leading 38 = .ok (.lmul, 1) := by decide +kernel
theorem d_M_leading_39 : decode c_M_leading 39 = .ok (.aload_n 0, 1) := by decide +kernel
theorem d_M_leading_40 : decode c_M_leading 40 = .ok (.iload_n 1, 1) := by decide +kernel
theorem d_M_leading_41 : decode c_M_leading 41 = .ok (.iload_n 2, 1) := by decide +kernel
theorem d_M_leading_42 : decode c_M_leading 42 = .ok (.iconst 3, 1) := by decide +kernel
theorem d_M_leading_43 : decode c_M_leading 43 = .ok (.isub, 1) := by decide +kernel
theorem d_M_leading_44 : decode c_M_leading 44 = .ok (.invokevirtual 34, 3) := by decide +kernel
theorem d_M_leading_47 : decode c_M_leading 47 = .ok (.i2l, 1) := by decide +kernel
theorem d_M_leading_48 : decode c_M_leading 48 = .ok (.ladd, 1) := by decide +kernel
theorem d_M_leading_49 : decode c_M_leading 49 = .ok (.lreturn, 1) := by decide +kernel
theorem d_M_greatest_0 : decode c_M_greatest 0 = .ok (.lload_n 1, 1) := by decide +kernel
theorem d_M_greatest_1 : decode c_M_greatest 1 = .ok (.lstore 5, 2) := by decide +kernel
theorem d_M_greatest_3 : decode c_M_greatest 3 = .ok (.lload_n 3, 1) := by decide +kernel
theorem d_M_greatest_4 : decode c_M_greatest 4 = .ok (.lstore 7, 2) := by decide +kernel
theorem d_M_greatest_6 : decode c_M_greatest 6 = .ok (.lload 5, 2) := by decide +kernel
theorem d_M_greatest_8 : decode c_M_greatest 8 = .ok (.lload 7, 2) := by decide +kernel
theorem d_M_greatest_10 : decode c_M_greatest 10 = .ok (.lcmp, 1) := by decide +kernel
theorem d_M_greatest_11 : decode c_M_greatest 11 = .ok (.ifCond .ge 69, 3) := by decide +kernel
theorem d_M_greatest_14 : decode c_M_greatest 14 = .ok (.lload 5, 2) := by decide +kernel
theorem d_M_greatest_16 : decode c_M_greatest 16 = .ok (.lload 7, 2) := by decide +kernel
theorem d_M_greatest_18 : decode c_M_greatest 18 = .ok (.ladd, 1) := by decide +kernel
theorem d_M_greatest_19 : decode c_M_greatest 19 = .ok (.lconst 1, 1) := by decide +kernel
theorem d_M_greatest_20 : decode c_M_greatest 20 = .ok (.ladd, 1) := by decide +kernel
theorem d_M_greatest_21 : decode c_M_greatest 21 = .ok (.ldc2_w 73, 3) := by decide +kernel
theorem d_M_greatest_24 : decode c_M_greatest 24 = .ok (.ldiv, 1) := by decide +kernel
theorem d_M_greatest_25 : decode c_M_greatest 25 = .ok (.lstore 9, 2) := by decide +kernel
theorem d_M_greatest_27 : decode c_M_greatest 27 = .ok (.aload_n 0, 1) := by decide +kernel
theorem d_M_greatest_28 : decode c_M_greatest 28 = .ok (.bipush 9, 2) := by decide +kernel
theorem d_M_greatest_30 : decode c_M_greatest 30 = .ok (.bipush 8, 2) := by decide +kernel
theorem d_M_greatest_32 : decode c_M_greatest 32 = .ok (.invokevirtual 70, 3) := by decide +kernel
theorem d_M_greatest_35 : decode c_M_greatest 35 = .ok (.aload_n 0, 1) := by decide +kernel
theorem d_M_greatest_36 : decode c_M_greatest 36 = .ok (.bipush 9, 2) := by decide +kernel
theorem d_M_greatest_38 : decode c_M_greatest 38 = .ok (.lconst 1, 1) := by decide +kernel
theorem d_M_greatest_39 : decode c_M_greatest 39 = .ok (.lload 9, 2) := by decide +kernel
theorem d_M_greatest_41 : decode c_M_greatest 41 = .ok (.invokevirtual 60, 3) := by decide +kernel
theorem d_M_greatest_44 : decode c_M_greatest 44 = .ok (.aload_n 0, 1) := by decide +kernel
theorem d_M_greatest_45 : decode c_M_greatest 45 = .ok (.bipush 9, 2) := by decide +kernel
theorem d_M_greatest_47 : decode c_M_greatest 47 = .ok (.lload 9, 2) := by decide +kernel
theorem d_M_greatest_49 : decode c_M_greatest 49 = .ok (.lconst 0, 1) := by decide +kernel
theorem d_M_greatest_50 : decode c_M_greatest 50 = .ok (.invokevirtual 60, 3) := by decide +kernel
theorem d_M_greatest_53 : decode c_M_greatest 53 = .ok (.aload_n 0, 1) := by decide +kernel
theorem d_M_greatest_54 : decode c_M_greatest 54 = .ok (.bipush 9, 2) := by decide +kernel
theorem d_M_greatest_56 : decode c_M_greatest 56 = .ok (.bipush 7, 2) := by decide +kernel
theorem d_M_greatest_58 : decode c_M_greatest 58 = .ok (.invokevirtual 67, 3) := by decide +kernel
theorem d_M_greatest_61 : decode c_M_greatest 61 = .ok (.ifCond .gt 10, 3) := by decide +kernel
theorem d_M_greatest_64 : decode c_M_greatest 64 = .ok (.lload 9, 2) := by decide +kernel
theorem d_M_greatest_66 : decode c_M_greatest 66 = .ok (.lstore 5, 2) := by decide +kernel
theorem d_M_greatest_68 : decode c_M_greatest 68 = .ok (.goto 9, 3) := by decide +kernel
theorem d_M_greatest_71 : decode c_M_greatest 71 = .ok (.lload 9, 2) := by decide +kernel
theorem d_M_greatest_73 : decode c_M_greatest 73 = .ok (.lconst 1, 1) := by decide +kernel
theorem d_M_greatest_74 : decode c_M_greatest 74 = .ok (.lsub, 1) := by decide +kernel
theorem d_M_greatest_75 : decode c_M_greatest 75 = .ok (.lstore 7, 2) := by decide +kernel
theorem d_M_greatest_77 : decode c_M_greatest 77 = .ok (.goto (-71), 3) := by decide +kernel
theorem d_M_greatest_80 : decode c_M_greatest 80 = .ok (.lload 5, 2) := by decide +kernel
theorem d_M_greatest_82 : decode c_M_greatest 82 = .ok (.lreturn, 1) := by decide +kernel
theorem d_M_order_0 : decode c_M_order 0 = .ok (.aload_n 0, 1) := by decide +kernel
theorem d_M_order_1 : decode c_M_order 1 = .ok (.getfield 13, 3) := by decide +kernel
theorem d_M_order_4 : decode c_M_order 4 = .ok (.iload_n 1, 1) := by decide +kernel
theorem d_M_order_5 : decode c_M_order 5 = .ok (.iaload, 1) := by decide +kernel
theorem d_M_order_6 : decode c_M_order 6 = .ok (.aload_n 0, 1) := by decide +kernel
theorem d_M_order_7 : decode c_M_order 7 = .ok (.getfield 13, 3) := by decide +kernel
theorem d_M_order_10 : decode c_M_order 10 = .ok (.iload_n 2, 1) := by decide +kernel
theorem d_M_order_11 : decode c_M_order 11 = .ok (.iaload, 1) := by decide +kernel
theorem d_M_order_12 : decode c_M_order 12 = .ok (.if_icmp .eq 24, 3) := by decide +kernel
theorem d_M_order_15 : decode c_M_order 15 = .ok (.aload_n 0, 1) := by decide +kernel
theorem d_M_order_16 : decode c_M_order 16 = .ok (.getfield 13, 3) := by decide +kernel
theorem d_M_order_19 : decode c_M_order 19 = .ok (.iload_n 1, 1) := by decide +kernel
theorem d_M_order_20 : decode c_M_order 20 = .ok (.iaload, 1) := by decide +kernel
theorem d_M_order_21 : decode c_M_order 21 = .ok (.aload_n 0, 1) := by decide +kernel
theorem d_M_order_22 : decode c_M_order 22 = .ok (.getfield 13, 3) := by decide +kernel
theorem d_M_order_25 : decode c_M_order 25 = .ok (.iload_n 2, 1) := by decide +kernel
theorem d_M_order_26 : decode c_M_order 26 = .ok (.iaload, 1) := by decide +kernel
theorem d_M_order_27 : decode c_M_order 27 = .ok (.if_icmp .ge 7, 3) := by decide +kernel
theorem d_M_order_30 : decode c_M_order 30 = .ok (.iconst (-1), 1) := by decide +kernel
theorem d_M_order_31 : decode c_M_order 31 = .ok (.goto 4, 3) := by decide +kernel
theorem d_M_order_34 : decode c_M_order 34 = .ok (.iconst 1, 1) := by decide +kernel
theorem d_M_order_35 : decode c_M_order 35 = .ok (.ireturn, 1) := by decide +kernel
theorem d_M_order_36 : decode c_M_order 36 = .ok (.aload_n 0, 1) := by decide +kernel
theorem d_M_order_37 : decode c_M_order 37 = .ok (.getfield 13, 3) := by decide +kernel
theorem d_M_order_40 : decode c_M_order 40 = .ok (.iload_n 1, 1) := by decide +kernel
theorem d_M_order_41 : decode c_M_order 41 = .ok (.iaload, 1) := by decide +kernel
theorem d_M_order_42 : decode c_M_order 42 = .ok (.iconst 1, 1) := by decide +kernel
theorem d_M_order_43 : decode c_M_order 43 = .ok (.isub, 1) := by decide +kernel
theorem d_M_order_44 : decode c_M_order 44 = .ok (.istore_n 3, 1) := by decide +kernel
theorem d_M_order_45 : decode c_M_order 45 = .ok (.iload_n 3, 1) := by decide +kernel
theorem d_M_order_46 : decode c_M_order 46 = .ok (.ifCond .lt 45, 3) := by decide +kernel
theorem d_M_order_49 : decode c_M_order 49 = .ok (.aload_n 0, 1) := by decide +kernel
theorem d_M_order_50 : decode c_M_order 50 = .ok (.iload_n 1, 1) := by decide +kernel
theorem d_M_order_51 : decode c_M_order 51 = .ok (.iload_n 3, 1) := by decide +kernel
theorem d_M_order_52 : decode c_M_order 52 = .ok (.invokevirtual 34, 3) := by decide +kernel
theorem d_M_order_55 : decode c_M_order 55 = .ok (.aload_n 0, 1) := by decide +kernel
theorem d_M_order_56 : decode c_M_order 56 = .ok (.iload_n 2, 1) := by decide +kernel
theorem d_M_order_57 : decode c_M_order 57 = .ok (.iload_n 3, 1) := by decide +kernel
theorem d_M_order_58 : decode c_M_order 58 = .ok (.invokevirtual 34, 3) := by decide +kernel
theorem d_M_order_61 : decode c_M_order 61 = .ok (.if_icmp .eq 24, 3) := by decide +kernel
theorem d_M_order_64 : decode c_M_order 64 = .ok (.aload_n 0, 1) := by decide +kernel
theorem d_M_order_65 : decode c_M_order 65 = .ok (.iload_n 1, 1) := by decide +kernel
theorem d_M_order_66 : decode c_M_order 66 = .ok (.iload_n 3, 1) := by decide +kernel
theorem d_M_order_67 : decode c_M_order 67 = .ok (.invokevirtual 34, 3) := by decide +kernel
theorem d_M_order_70 : decode c_M_order 70 = .ok (.aload_n 0, 1) := by decide +kernel
theorem d_M_order_71 : decode c_M_order 71 = .ok (.iload_n 2, 1) := by decide +kernel
theorem d_M_order_72 : decode c_M_order 72 = .ok (.iload_n 3, 1) := by decide +kernel
theorem d_M_order_73 : decode c_M_order 73 = .ok (.invokevirtual 34, 3) := by decide +kernel
theorem d_M_order_76 : decode c_M_order 76 = .ok (.if_icmp .ge 7, 3) := by decide +kernel
theorem d_M_order_79 : decode c_M_order 79 = .ok (.iconst (-1), 1) := by decide +kernel
theorem d_M_order_80 : decode c_M_order 80 = .ok (.goto 4, 3) := by decide +kernel
theorem d_M_order_83 : decode c_M_order 83 = .ok (.iconst 1, 1) := by decide +kernel
theorem d_M_order_84 : decode c_M_order 84 = .ok (.ireturn, 1) := by decide +kernel
theorem d_M_order_85 : decode c_M_order 85 = .ok (.iinc 3 (-1), 3) := by decide +kernel
theorem d_M_order_88 : decode c_M_order 88 = .ok (.goto (-43), 3) := by decide +kernel
theorem d_M_order_91 : decode c_M_order 91 = .ok (.iconst 0, 1) := by decide +kernel
theorem d_M_order_92 : decode c_M_order 92 = .ok (.ireturn, 1) := by decide +kernel
theorem d_M_lessTimes_0 : decode c_M_lessTimes 0 = .ok (.lconst 0, 1) := by decide +kernel
theorem d_M_lessTimes_1 : decode c_M_lessTimes 1 = .ok (.lstore 5, 2) := by decide +kernel
theorem d_M_lessTimes_3 : decode c_M_lessTimes 3 = .ok (.iconst 0, 1) := by decide +kernel
theorem d_M_lessTimes_4 : decode c_M_lessTimes 4 = .ok (.istore 7, 2) := by decide +kernel
theorem d_M_lessTimes_6 : decode c_M_lessTimes 6 = .ok (.iload 7, 2) := by decide +kernel
theorem d_M_lessTimes_8 : decode c_M_lessTimes 8 = .ok (.aload_n 0, 1) := by decide +kernel
theorem d_M_lessTimes_9 : decode c_M_lessTimes 9 = .ok (.getfield 13, 3) := by decide +kernel
theorem d_M_lessTimes_12 : decode c_M_lessTimes 12 = .ok (.iload_n 1, 1) := by decide +kernel
theorem d_M_lessTimes_13 : decode c_M_lessTimes 13 = .ok (.iaload, 1) := by decide +kernel
theorem d_M_lessTimes_14 : decode c_M_lessTimes 14 = .ok (.if_icmp .ge 60, 3) := by decide +kernel
theorem d_M_lessTimes_17 : decode c_M_lessTimes 17 = .ok (.lload 5, 2) := by decide +kernel
theorem d_M_lessTimes_19 : decode c_M_lessTimes 19 = .ok (.aload_n 0, 1) := by decide +kernel
theorem d_M_lessTimes_20 : decode c_M_lessTimes 20 = .ok (.iload_n 1, 1) := by decide +kernel
theorem d_M_lessTimes_21 : decode c_M_lessTimes 21 = .ok (.iload 7, 2) := by decide +kernel
theorem d_M_lessTimes_23 : decode c_M_lessTimes 23 = .ok (.invokevirtual 34, 3) := by decide +kernel
theorem d_M_lessTimes_26 : decode c_M_lessTimes 26 = .ok (.i2l, 1) := by decide +kernel
theorem d_M_lessTimes_27 : decode c_M_lessTimes 27 = .ok (.lload_n 3, 1) := by decide +kernel
theorem d_M_lessTimes_28 : decode c_M_lessTimes 28 = .ok (.aload_n 0, 1) := by decide +kernel
theorem d_M_lessTimes_29 : decode c_M_lessTimes 29 = .ok (.iload_n 2, 1) := by decide +kernel
theorem d_M_lessTimes_30 : decode c_M_lessTimes 30 = .ok (.iload 7, 2) := by decide +kernel
theorem d_M_lessTimes_32 : decode c_M_lessTimes 32 = .ok (.invokevirtual 34, 3) := by decide +kernel
theorem d_M_lessTimes_35 : decode c_M_lessTimes 35 = .ok (.i2l, 1) := by decide +kernel
theorem d_M_lessTimes_36 : decode c_M_lessTimes 36 = .ok (.lmul, 1) := by decide +kernel
theorem d_M_lessTimes_37 : decode c_M_lessTimes 37 = .ok (.lsub, 1) := by decide +kernel
theorem d_M_lessTimes_38 : decode c_M_lessTimes 38 = .ok (.ladd, 1) := by decide +kernel
theorem d_M_lessTimes_39 : decode c_M_lessTimes 39 = .ok (.lstore 5, 2) := by decide +kernel
theorem d_M_lessTimes_41 : decode c_M_lessTimes 41 = .ok (.aload_n 0, 1) := by decide +kernel
theorem d_M_lessTimes_42 : decode c_M_lessTimes 42 = .ok (.getfield 7, 3) := by decide +kernel
theorem d_M_lessTimes_45 : decode c_M_lessTimes 45 = .ok (.sipush 2800, 3) := by decide +kernel
theorem d_M_lessTimes_48 : decode c_M_lessTimes 48 = .ok (.iload_n 1, 1) := by decide +kernel
theorem d_M_lessTimes_49 : decode c_M_lessTimes 49 = .ok (.imul, 1) := by decide +kernel
theorem d_M_lessTimes_50 : decode c_M_lessTimes 50 = .ok (.iload 7, 2) := by decide +kernel
theorem d_M_lessTimes_52 : decode c_M_lessTimes 52 = .ok (.iadd, 1) := by decide +kernel
theorem d_M_lessTimes_53 : decode c_M_lessTimes 53 = .ok (.lload 5, 2) := by decide +kernel
theorem d_M_lessTimes_55 : decode c_M_lessTimes 55 = .ok (.ldc2_w 32, 3) := by decide +kernel
theorem d_M_lessTimes_58 : decode c_M_lessTimes 58 = .ok (.land, 1) := by decide +kernel
theorem d_M_lessTimes_59 : decode c_M_lessTimes 59 = .ok (.l2i, 1) := by decide +kernel
theorem d_M_lessTimes_60 : decode c_M_lessTimes 60 = .ok (.iastore, 1) := by decide +kernel
theorem d_M_lessTimes_61 : decode c_M_lessTimes 61 = .ok (.lload 5, 2) := by decide +kernel
theorem d_M_lessTimes_63 : decode c_M_lessTimes 63 = .ok (.bipush 15, 2) := by decide +kernel
theorem d_M_lessTimes_65 : decode c_M_lessTimes 65 = .ok (.lshr, 1) := by decide +kernel
theorem d_M_lessTimes_66 : decode c_M_lessTimes 66 = .ok (.lstore 5, 2) := by decide +kernel
theorem d_M_lessTimes_68 : decode c_M_lessTimes 68 = .ok (.iinc 7 1, 3) := by decide +kernel
theorem d_M_lessTimes_71 : decode c_M_lessTimes 71 = .ok (.goto (-65), 3) := by decide +kernel
theorem d_M_lessTimes_74 : decode c_M_lessTimes 74 = .ok (.aload_n 0, 1) := by decide +kernel
theorem d_M_lessTimes_75 : decode c_M_lessTimes 75 = .ok (.iload_n 1, 1) := by decide +kernel
theorem d_M_lessTimes_76 : decode c_M_lessTimes 76 = .ok (.invokevirtual 38, 3) := by decide +kernel
theorem d_M_lessTimes_79 : decode c_M_lessTimes 79 = .ok (.return_, 1) := by decide +kernel
theorem d_M_addTimes_0 : decode c_M_addTimes 0 = .ok (.lconst 0, 1) := by decide +kernel
theorem d_M_addTimes_1 : decode c_M_addTimes 1 = .ok (.lstore 5, 2) := by decide +kernel
theorem d_M_addTimes_3 : decode c_M_addTimes 3 = .ok (.iconst 0, 1) := by decide +kernel
theorem d_M_addTimes_4 : decode c_M_addTimes 4 = .ok (.istore 7, 2) := by decide +kernel
theorem d_M_addTimes_6 : decode c_M_addTimes 6 = .ok (.iload 7, 2) := by decide +kernel
theorem d_M_addTimes_8 : decode c_M_addTimes 8 = .ok (.aload_n 0, 1) := by decide +kernel
theorem d_M_addTimes_9 : decode c_M_addTimes 9 = .ok (.getfield 13, 3) := by decide +kernel
theorem d_M_addTimes_12 : decode c_M_addTimes 12 = .ok (.iload_n 2, 1) := by decide +kernel
theorem d_M_addTimes_13 : decode c_M_addTimes 13 = .ok (.iaload, 1) := by decide +kernel
theorem d_M_addTimes_14 : decode c_M_addTimes 14 = .ok (.if_icmp .lt 10, 3) := by decide +kernel
theorem d_M_addTimes_17 : decode c_M_addTimes 17 = .ok (.lload 5, 2) := by decide +kernel
theorem d_M_addTimes_19 : decode c_M_addTimes 19 = .ok (.lconst 0, 1) := by decide +kernel
theorem d_M_addTimes_20 : decode c_M_addTimes 20 = .ok (.lcmp, 1) := by decide +kernel
theorem d_M_addTimes_21 : decode c_M_addTimes 21 = .ok (.ifCond .le 92, 3) := by decide +kernel
theorem d_M_addTimes_24 : decode c_M_addTimes 24 = .ok (.lload 5, 2) := by decide +kernel
theorem d_M_addTimes_26 : decode c_M_addTimes 26 = .ok (.aload_n 0, 1) := by decide +kernel
theorem d_M_addTimes_27 : decode c_M_addTimes 27 = .ok (.iload_n 1, 1) := by decide +kernel
theorem d_M_addTimes_28 : decode c_M_addTimes 28 = .ok (.iload 7, 2) := by decide +kernel
theorem d_M_addTimes_30 : decode c_M_addTimes 30 = .ok (.invokevirtual 34, 3) := by decide +kernel
theorem d_M_addTimes_33 : decode c_M_addTimes 33 = .ok (.i2l, 1) := by decide +kernel
theorem d_M_addTimes_34 : decode c_M_addTimes 34 = .ok (.lload_n 3, 1) := by decide +kernel
theorem d_M_addTimes_35 : decode c_M_addTimes 35 = .ok (.aload_n 0, 1) := by decide +kernel
theorem d_M_addTimes_36 : decode c_M_addTimes 36 = .ok (.iload_n 2, 1) := by decide +kernel
theorem d_M_addTimes_37 : decode c_M_addTimes 37 = .ok (.iload 7, 2) := by decide +kernel
theorem d_M_addTimes_39 : decode c_M_addTimes 39 = .ok (.invokevirtual 34, 3) := by decide +kernel
theorem d_M_addTimes_42 : decode c_M_addTimes 42 = .ok (.i2l, 1) := by decide +kernel
theorem d_M_addTimes_43 : decode c_M_addTimes 43 = .ok (.lmul, 1) := by decide +kernel
theorem d_M_addTimes_44 : decode c_M_addTimes 44 = .ok (.ladd, 1) := by decide +kernel
theorem d_M_addTimes_45 : decode c_M_addTimes 45 = .ok (.ladd, 1) := by decide +kernel
theorem d_M_addTimes_46 : decode c_M_addTimes 46 = .ok (.lstore 5, 2) := by decide +kernel
theorem d_M_addTimes_48 : decode c_M_addTimes 48 = .ok (.aload_n 0, 1) := by decide +kernel
theorem d_M_addTimes_49 : decode c_M_addTimes 49 = .ok (.getfield 7, 3) := by decide +kernel
theorem d_M_addTimes_52 : decode c_M_addTimes 52 = .ok (.sipush 2800, 3) := by decide +kernel
theorem d_M_addTimes_55 : decode c_M_addTimes 55 = .ok (.iload_n 1, 1) := by decide +kernel
theorem d_M_addTimes_56 : decode c_M_addTimes 56 = .ok (.imul, 1) := by decide +kernel
theorem d_M_addTimes_57 : decode c_M_addTimes 57 = .ok (.iload 7, 2) := by decide +kernel
theorem d_M_addTimes_59 : decode c_M_addTimes 59 = .ok (.iadd, 1) := by decide +kernel
theorem d_M_addTimes_60 : decode c_M_addTimes 60 = .ok (.lload 5, 2) := by decide +kernel
theorem d_M_addTimes_62 : decode c_M_addTimes 62 = .ok (.ldc2_w 32, 3) := by decide +kernel
theorem d_M_addTimes_65 : decode c_M_addTimes 65 = .ok (.land, 1) := by decide +kernel
theorem d_M_addTimes_66 : decode c_M_addTimes 66 = .ok (.l2i, 1) := by decide +kernel
theorem d_M_addTimes_67 : decode c_M_addTimes 67 = .ok (.iastore, 1) := by decide +kernel
theorem d_M_addTimes_68 : decode c_M_addTimes 68 = .ok (.aload_n 0, 1) := by decide +kernel
theorem d_M_addTimes_69 : decode c_M_addTimes 69 = .ok (.getfield 13, 3) := by decide +kernel
theorem d_M_addTimes_72 : decode c_M_addTimes 72 = .ok (.iload_n 1, 1) := by decide +kernel
theorem d_M_addTimes_73 : decode c_M_addTimes 73 = .ok (.iload 7, 2) := by decide +kernel
theorem d_M_addTimes_75 : decode c_M_addTimes 75 = .ok (.iconst 1, 1) := by decide +kernel
theorem d_M_addTimes_76 : decode c_M_addTimes 76 = .ok (.iadd, 1) := by decide +kernel
theorem d_M_addTimes_77 : decode c_M_addTimes 77 = .ok (.aload_n 0, 1) := by decide +kernel
theorem d_M_addTimes_78 : decode c_M_addTimes 78 = .ok (.getfield 13, 3) := by decide +kernel
theorem d_M_addTimes_81 : decode c_M_addTimes 81 = .ok (.iload_n 1, 1) := by decide +kernel
theorem d_M_addTimes_82 : decode c_M_addTimes 82 = .ok (.iaload, 1) := by decide +kernel
theorem d_M_addTimes_83 : decode c_M_addTimes 83 = .ok (.if_icmp .le 10, 3) := by decide +kernel
theorem d_M_addTimes_86 : decode c_M_addTimes 86 = .ok (.iload 7, 2) := by decide +kernel
theorem d_M_addTimes_88 : decode c_M_addTimes 88 = .ok (.iconst 1, 1) := by decide +kernel
theorem d_M_addTimes_89 : decode c_M_addTimes 89 = .ok (.iadd, 1) := by decide +kernel
theorem d_M_addTimes_90 : decode c_M_addTimes 90 = .ok (.goto 9, 3) := by decide +kernel
theorem d_M_addTimes_93 : decode c_M_addTimes 93 = .ok (.aload_n 0, 1) := by decide +kernel
theorem d_M_addTimes_94 : decode c_M_addTimes 94 = .ok (.getfield 13, 3) := by decide +kernel
theorem d_M_addTimes_97 : decode c_M_addTimes 97 = .ok (.iload_n 1, 1) := by decide +kernel
theorem d_M_addTimes_98 : decode c_M_addTimes 98 = .ok (.iaload, 1) := by decide +kernel
theorem d_M_addTimes_99 : decode c_M_addTimes 99 = .ok (.iastore, 1) := by decide +kernel
theorem d_M_addTimes_100 : decode c_M_addTimes 100 = .ok (.lload 5, 2) := by decide +kernel
theorem d_M_addTimes_102 : decode c_M_addTimes 102 = .ok (.bipush 15, 2) := by decide +kernel
theorem d_M_addTimes_104 : decode c_M_addTimes 104 = .ok (.lshr, 1) := by decide +kernel
theorem d_M_addTimes_105 : decode c_M_addTimes 105 = .ok (.lstore 5, 2) := by decide +kernel
theorem d_M_addTimes_107 : decode c_M_addTimes 107 = .ok (.iinc 7 1, 3) := by decide +kernel
theorem d_M_addTimes_110 : decode c_M_addTimes 110 = .ok (.goto (-104), 3) := by decide +kernel
theorem d_M_addTimes_113 : decode c_M_addTimes 113 = .ok (.aload_n 0, 1) := by decide +kernel
theorem d_M_addTimes_114 : decode c_M_addTimes 114 = .ok (.iload_n 1, 1) := by decide +kernel
theorem d_M_addTimes_115 : decode c_M_addTimes 115 = .ok (.invokevirtual 38, 3) := by decide +kernel
theorem d_M_addTimes_118 : decode c_M_addTimes 118 = .ok (.return_, 1) := by decide +kernel
theorem d_M_lower_0 : decode c_M_lower 0 = .ok (.lconst 0, 1) := by decide +kernel
theorem d_M_lower_1 : decode c_M_lower 1 = .ok (.lstore 4, 2) := by decide +kernel
theorem d_M_lower_3 : decode c_M_lower 3 = .ok (.aload_n 0, 1) := by decide +kernel
theorem d_M_lower_4 : decode c_M_lower 4 = .ok (.getfield 13, 3) := by decide +kernel
theorem d_M_lower_7 : decode c_M_lower 7 = .ok (.iload_n 1, 1) := by decide +kernel
theorem d_M_lower_8 : decode c_M_lower 8 = .ok (.iaload, 1) := by decide +kernel
theorem d_M_lower_9 : decode c_M_lower 9 = .ok (.iconst 1, 1) := by decide +kernel
theorem d_M_lower_10 : decode c_M_lower 10 = .ok (.isub, 1) := by decide +kernel
theorem d_M_lower_11 : decode c_M_lower 11 = .ok (.istore 6, 2) := by decide +kernel
theorem d_M_lower_13 : decode c_M_lower 13 = .ok (.iload 6, 2) := by decide +kernel
theorem d_M_lower_15 : decode c_M_lower 15 = .ok (.ifCond .lt 49, 3) := by decide +kernel
theorem d_M_lower_18 : decode c_M_lower 18 = .ok (.lload 4, 2) := by decide +kernel
theorem d_M_lower_20 : decode c_M_lower 20 = .ok (.bipush 15, 2) := by decide +kernel
theorem d_M_lower_22 : decode c_M_lower 22 = .ok (.lshl, 1) := by decide +kernel
theorem d_M_lower_23 : decode c_M_lower 23 = .ok (.aload_n 0, 1) := by decide +kernel
theorem d_M_lower_24 : decode c_M_lower 24 = .ok (.iload_n 1, 1) := by decide +kernel
theorem d_M_lower_25 : decode c_M_lower 25 = .ok (.iload 6, 2) := by decide +kernel
theorem d_M_lower_27 : decode c_M_lower 27 = .ok (.invokevirtual 34, 3) := by decide +kernel
theorem d_M_lower_30 : decode c_M_lower 30 = .ok (.i2l, 1) := by decide +kernel
theorem d_M_lower_31 : decode c_M_lower 31 = .ok (.ladd, 1) := by decide +kernel
theorem d_M_lower_32 : decode c_M_lower 32 = .ok (.lstore 4, 2) := by decide +kernel
theorem d_M_lower_34 : decode c_M_lower 34 = .ok (.aload_n 0, 1) := by decide +kernel
theorem d_M_lower_35 : decode c_M_lower 35 = .ok (.getfield 7, 3) := by decide +kernel
theorem d_M_lower_38 : decode c_M_lower 38 = .ok (.sipush 2800, 3) := by decide +kernel
theorem d_M_lower_41 : decode c_M_lower 41 = .ok (.iload_n 1, 1) := by decide +kernel
theorem d_M_lower_42 : decode c_M_lower 42 = .ok (.imul, 1) := by decide +kernel
theorem d_M_lower_43 : decode c_M_lower 43 = .ok (.iload 6, 2) := by decide +kernel
theorem d_M_lower_45 : decode c_M_lower 45 = .ok (.iadd, 1) := by decide +kernel
theorem d_M_lower_46 : decode c_M_lower 46 = .ok (.lload 4, 2) := by decide +kernel
theorem d_M_lower_48 : decode c_M_lower 48 = .ok (.lload_n 2, 1) := by decide +kernel
theorem d_M_lower_49 : decode c_M_lower 49 = .ok (.ldiv, 1) := by decide +kernel
theorem d_M_lower_50 : decode c_M_lower 50 = .ok (.l2i, 1) := by decide +kernel
theorem d_M_lower_51 : decode c_M_lower 51 = .ok (.iastore, 1) := by decide +kernel
theorem d_M_lower_52 : decode c_M_lower 52 = .ok (.lload 4, 2) := by decide +kernel
theorem d_M_lower_54 : decode c_M_lower 54 = .ok (.lload_n 2, 1) := by decide +kernel
theorem d_M_lower_55 : decode c_M_lower 55 = .ok (.lrem, 1) := by decide +kernel
theorem d_M_lower_56 : decode c_M_lower 56 = .ok (.lstore 4, 2) := by decide +kernel
theorem d_M_lower_58 : decode c_M_lower 58 = .ok (.iinc 6 (-1), 3) := by decide +kernel
theorem d_M_lower_61 : decode c_M_lower 61 = .ok (.goto (-48), 3) := by decide +kernel
theorem d_M_lower_64 : decode c_M_lower 64 = .ok (.aload_n 0, 1) := by decide +kernel
theorem d_M_lower_65 : decode c_M_lower 65 = .ok (.lload 4, 2) := by decide +kernel
theorem d_M_lower_67 : decode c_M_lower 67 = .ok (.putfield 42, 3) := by decide +kernel
theorem d_M_lower_70 : decode c_M_lower 70 = .ok (.aload_n 0, 1) := by decide +kernel
theorem d_M_lower_71 : decode c_M_lower 71 = .ok (.iload_n 1, 1) := by decide +kernel
theorem d_M_lower_72 : decode c_M_lower 72 = .ok (.invokevirtual 38, 3) := by decide +kernel
theorem d_M_lower_75 : decode c_M_lower 75 = .ok (.return_, 1) := by decide +kernel
theorem d_M_constant_0 : decode c_M_constant 0 = .ok (.iconst 1, 1) := by decide +kernel
theorem d_M_constant_1 : decode c_M_constant 1 = .ok (.istore 4, 2) := by decide +kernel
theorem d_M_constant_3 : decode c_M_constant 3 = .ok (.iconst 4, 1) := by decide +kernel
theorem d_M_constant_4 : decode c_M_constant 4 = .ok (.istore 5, 2) := by decide +kernel
theorem d_M_constant_6 : decode c_M_constant 6 = .ok (.iload 4, 2) := by decide +kernel
theorem d_M_constant_8 : decode c_M_constant 8 = .ok (.ifCond .eq 147, 3) := by decide +kernel
theorem d_M_constant_11 : decode c_M_constant 11 = .ok (.aload_n 0, 1) := by decide +kernel
theorem d_M_constant_12 : decode c_M_constant 12 = .ok (.iconst 2, 1) := by decide +kernel
theorem d_M_constant_13 : decode c_M_constant 13 = .ok (.iload_n 3, 1) := by decide +kernel
theorem d_M_constant_14 : decode c_M_constant 14 = .ok (.iload_n 2, 1) := by decide +kernel
theorem d_M_constant_15 : decode c_M_constant 15 = .ok (.invokevirtual 102, 3) := by decide +kernel
theorem d_M_constant_18 : decode c_M_constant 18 = .ok (.aload_n 0, 1) := by decide +kernel
theorem d_M_constant_19 : decode c_M_constant 19 = .ok (.iconst 2, 1) := by decide +kernel
theorem d_M_constant_20 : decode c_M_constant 20 = .ok (.iload 5, 2) := by decide +kernel
theorem d_M_constant_22 : decode c_M_constant 22 = .ok (.invokevirtual 46, 3) := by decide +kernel
theorem d_M_constant_25 : decode c_M_constant 25 = .ok (.aload_n 0, 1) := by decide +kernel
theorem d_M_constant_26 : decode c_M_constant 26 = .ok (.getfield 13, 3) := by decide +kernel
theorem d_M_constant_29 : decode c_M_constant 29 = .ok (.iconst 5, 1) := by decide +kernel
theorem d_M_constant_30 : decode c_M_constant 30 = .ok (.iconst 0, 1) := by decide +kernel
theorem d_M_constant_31 : decode c_M_constant 31 = .ok (.iastore, 1) := by decide +kernel
theorem d_M_constant_32 : decode c_M_constant 32 = .ok (.iload_n 1, 1) := by decide +kernel
theorem d_M_constant_33 : decode c_M_constant 33 = .ok (.ifCond .ne 10, 3) := by decide +kernel
theorem d_M_constant_36 : decode c_M_constant 36 = .ok (.aload_n 0, 1) := by decide +kernel
theorem d_M_constant_37 : decode c_M_constant 37 = .ok (.invokevirtual 106, 3) := by decide +kernel
theorem d_M_constant_40 : decode c_M_constant 40 = .ok (.goto 31, 3) := by decide +kernel
theorem d_M_constant_43 : decode c_M_constant 43 = .ok (.iload_n 1, 1) := by decide +kernel
theorem d_M_constant_44 : decode c_M_constant 44 = .ok (.iconst 1, 1) := by decide +kernel
theorem d_M_constant_45 : decode c_M_constant 45 = .ok (.if_icmp .ne 10, 3) := by decide +kernel
theorem d_M_constant_48 : decode c_M_constant 48 = .ok (.aload_n 0, 1) := by decide +kernel
theorem d_M_constant_49 : decode c_M_constant 49 = .ok (.invokevirtual 110, 3) := by decide +kernel
theorem d_M_constant_52 : decode c_M_constant 52 = .ok (.goto 19, 3) := by decide +kernel
theorem d_M_constant_55 : decode c_M_constant 55 = .ok (.iload_n 1, 1) := by decide +kernel
theorem d_M_constant_56 : decode c_M_constant 56 = .ok (.iconst 3, 1) := by decide +kernel
theorem d_M_constant_57 : decode c_M_constant 57 = .ok (.if_icmp .ne 10, 3) := by decide +kernel
theorem d_M_constant_60 : decode c_M_constant 60 = .ok (.aload_n 0, 1) := by decide +kernel
theorem d_M_constant_61 : decode c_M_constant 61 = .ok (.invokevirtual 113, 3) := by decide +kernel
theorem d_M_constant_64 : decode c_M_constant 64 = .ok (.goto 7, 3) := by decide +kernel
theorem d_M_constant_67 : decode c_M_constant 67 = .ok (.aload_n 0, 1) := by decide +kernel
theorem d_M_constant_68 : decode c_M_constant 68 = .ok (.invokevirtual 116, 3) := by decide +kernel
theorem d_M_constant_71 : decode c_M_constant 71 = .ok (.istore 6, 2) := by decide +kernel
theorem d_M_constant_73 : decode c_M_constant 73 = .ok (.ldc2_w 119, 3) := by decide +kernel
theorem d_M_constant_76 : decode c_M_constant 76 = .ok (.iload 6, 2) := by decide +kernel
theorem d_M_constant_78 : decode c_M_constant 78 = .ok (.i2l, 1) := by decide +kernel
theorem d_M_constant_79 : decode c_M_constant 79 = .ok (.ldc2_w 77, 3) := by decide +kernel
theorem d_M_constant_82 : decode c_M_constant 82 = .ok (.ladd, 1) := by decide +kernel
theorem d_M_constant_83 : decode c_M_constant 83 = .ok (.lmul, 1) := by decide +kernel
theorem d_M_constant_84 : decode c_M_constant 84 = .ok (.lstore 7, 2) := by decide +kernel
theorem d_M_constant_86 : decode c_M_constant 86 = .ok (.aload_n 0, 1) := by decide +kernel
theorem d_M_constant_87 : decode c_M_constant 87 = .ok (.bipush 6, 2) := by decide +kernel
theorem d_M_constant_89 : decode c_M_constant 89 = .ok (.iconst 5, 1) := by decide +kernel
theorem d_M_constant_90 : decode c_M_constant 90 = .ok (.invokevirtual 70, 3) := by decide +kernel
theorem d_M_constant_93 : decode c_M_constant 93 = .ok (.aload_n 0, 1) := by decide +kernel
theorem d_M_constant_94 : decode c_M_constant 94 = .ok (.iconst 4, 1) := by decide +kernel
theorem d_M_constant_95 : decode c_M_constant 95 = .ok (.lload 7, 2) := by decide +kernel
theorem d_M_constant_97 : decode c_M_constant 97 = .ok (.invokevirtual 83, 3) := by decide +kernel
theorem d_M_constant_100 : decode c_M_constant 100 = .ok (.aload_n 0, 1) := by decide +kernel
theorem d_M_constant_101 : decode c_M_constant 101 = .ok (.bipush 6, 2) := by decide +kernel
theorem d_M_constant_103 : decode c_M_constant 103 = .ok (.iconst 4, 1) := by decide +kernel
theorem d_M_constant_104 : decode c_M_constant 104 = .ok (.lconst 1, 1) := by decide +kernel
theorem d_M_constant_105 : decode c_M_constant 105 = .ok (.invokevirtual 64, 3) := by decide +kernel
theorem d_M_constant_108 : decode c_M_constant 108 = .ok (.aload_n 0, 1) := by decide +kernel
theorem d_M_constant_109 : decode c_M_constant 109 = .ok (.iconst 5, 1) := by decide +kernel
theorem d_M_constant_110 : decode c_M_constant 110 = .ok (.iconst 4, 1) := by decide +kernel
theorem d_M_constant_111 : decode c_M_constant 111 = .ok (.lconst 1, 1) := by decide +kernel
theorem d_M_constant_112 : decode c_M_constant 112 = .ok (.invokevirtual 50, 3) := by decide +kernel
theorem d_M_constant_115 : decode c_M_constant 115 = .ok (.aload_n 0, 1) := by decide +kernel
theorem d_M_constant_116 : decode c_M_constant 116 = .ok (.bipush 6, 2) := by decide +kernel
theorem d_M_constant_118 : decode c_M_constant 118 = .ok (.iload 5, 2) := by decide +kernel
theorem d_M_constant_120 : decode c_M_constant 120 = .ok (.ineg, 1) := by decide +kernel
theorem d_M_constant_121 : decode c_M_constant 121 = .ok (.invokevirtual 46, 3) := by decide +kernel
theorem d_M_constant_124 : decode c_M_constant 124 = .ok (.aload_n 0, 1) := by decide +kernel
theorem d_M_constant_125 : decode c_M_constant 125 = .ok (.iconst 5, 1) := by decide +kernel
theorem d_M_constant_126 : decode c_M_constant 126 = .ok (.iload 5, 2) := by decide +kernel
theorem d_M_constant_128 : decode c_M_constant 128 = .ok (.ineg, 1) := by decide +kernel
theorem d_M_constant_129 : decode c_M_constant 129 = .ok (.invokevirtual 46, 3) := by decide +kernel
theorem d_M_constant_132 : decode c_M_constant 132 = .ok (.aload_n 0, 1) := by decide +kernel
theorem d_M_constant_133 : decode c_M_constant 133 = .ok (.bipush 6, 2) := by decide +kernel
theorem d_M_constant_135 : decode c_M_constant 135 = .ok (.iconst 5, 1) := by decide +kernel
theorem d_M_constant_136 : decode c_M_constant 136 = .ok (.invokevirtual 67, 3) := by decide +kernel
theorem d_M_constant_139 : decode c_M_constant 139 = .ok (.ifCond .eq 7, 3) := by decide +kernel
theorem d_M_constant_142 : decode c_M_constant 142 = .ok (.iconst 1, 1) := by decide +kernel
theorem d_M_constant_143 : decode c_M_constant 143 = .ok (.goto 4, 3) := by decide +kernel
theorem d_M_constant_146 : decode c_M_constant 146 = .ok (.iconst 0, 1) := by decide +kernel
theorem d_M_constant_147 : decode c_M_constant 147 = .ok (.istore 4, 2) := by decide +kernel
theorem d_M_constant_149 : decode c_M_constant 149 = .ok (.iinc 5 4, 3) := by decide +kernel
theorem d_M_constant_152 : decode c_M_constant 152 = .ok (.goto (-146), 3) := by decide +kernel
theorem d_M_constant_155 : decode c_M_constant 155 = .ok (.aload_n 0, 1) := by decide +kernel
theorem d_M_constant_156 : decode c_M_constant 156 = .ok (.iconst 0, 1) := by decide +kernel
theorem d_M_constant_157 : decode c_M_constant 157 = .ok (.bipush 6, 2) := by decide +kernel
theorem d_M_constant_159 : decode c_M_constant 159 = .ok (.invokevirtual 70, 3) := by decide +kernel
theorem d_M_constant_162 : decode c_M_constant 162 = .ok (.return_, 1) := by decide +kernel
theorem d_M_arcs_0 : decode c_M_arcs 0 = .ok (.aload_n 0, 1) := by decide +kernel
theorem d_M_arcs_1 : decode c_M_arcs 1 = .ok (.ldc2_w 90, 3) := by decide +kernel
theorem d_M_arcs_4 : decode c_M_arcs 4 = .ok (.ldc2_w 92, 3) := by decide +kernel
theorem d_M_arcs_7 : decode c_M_arcs 7 = .ok (.iconst 0, 1) := by decide +kernel
theorem d_M_arcs_8 : decode c_M_arcs 8 = .ok (.invokevirtual 94, 3) := by decide +kernel
theorem d_M_arcs_11 : decode c_M_arcs 11 = .ok (.istore_n 1, 1) := by decide +kernel
theorem d_M_arcs_12 : decode c_M_arcs 12 = .ok (.iload_n 1, 1) := by decide +kernel
theorem d_M_arcs_13 : decode c_M_arcs 13 = .ok (.aload_n 0, 1) := by decide +kernel
theorem d_M_arcs_14 : decode c_M_arcs 14 = .ok (.ldc2_w 98, 3) := by decide +kernel
theorem d_M_arcs_17 : decode c_M_arcs 17 = .ok (.ldc2_w 100, 3) := by decide +kernel
theorem d_M_arcs_20 : decode c_M_arcs 20 = .ok (.iconst 1, 1) := by decide +kernel
theorem d_M_arcs_21 : decode c_M_arcs 21 = .ok (.invokevirtual 94, 3) := by decide +kernel
theorem d_M_arcs_24 : decode c_M_arcs 24 = .ok (.iadd, 1) := by decide +kernel
theorem d_M_arcs_25 : decode c_M_arcs 25 = .ok (.ireturn, 1) := by decide +kernel
theorem d_M_arc_0 : decode c_M_arc 0 = .ok (.aload_n 0, 1) := by decide +kernel
theorem d_M_arc_1 : decode c_M_arc 1 = .ok (.iconst 3, 1) := by decide +kernel
theorem d_M_arc_2 : decode c_M_arc 2 = .ok (.iconst 2, 1) := by decide +kernel
theorem d_M_arc_3 : decode c_M_arc 3 = .ok (.invokevirtual 70, 3) := by decide +kernel
theorem d_M_arc_6 : decode c_M_arc 6 = .ok (.aload_n 0, 1) := by decide +kernel
theorem d_M_arc_7 : decode c_M_arc 7 = .ok (.iconst 3, 1) := by decide +kernel
theorem d_M_arc_8 : decode c_M_arc 8 = .ok (.lload_n 1, 1) := by decide +kernel
theorem d_M_arc_9 : decode c_M_arc 9 = .ok (.invokevirtual 87, 3) := by decide +kernel
theorem d_M_arc_12 : decode c_M_arc 12 = .ok (.iconst 0, 1) := by decide +kernel
theorem d_M_arc_13 : decode c_M_arc 13 = .ok (.istore 6, 2) := by decide +kernel
theorem d_M_arc_15 : decode c_M_arc 15 = .ok (.aload_n 0, 1) := by decide +kernel
theorem d_M_arc_16 : decode c_M_arc 16 = .ok (.getfield 13, 3) := by decide +kernel
theorem d_M_arc_19 : decode c_M_arc 19 = .ok (.iconst 3, 1) := by decide +kernel
theorem d_M_arc_20 : decode c_M_arc 20 = .ok (.iaload, 1) := by decide +kernel
theorem d_M_arc_21 : decode c_M_arc 21 = .ok (.ifCond .le 72, 3) := by decide +kernel
theorem d_M_arc_24 : decode c_M_arc 24 = .ok (.aload_n 0, 1) := by decide +kernel
theorem d_M_arc_25 : decode c_M_arc 25 = .ok (.iconst 4, 1) := by decide +kernel
theorem d_M_arc_26 : decode c_M_arc 26 = .ok (.iconst 3, 1) := by decide +kernel
theorem d_M_arc_27 : decode c_M_arc 27 = .ok (.invokevirtual 70, 3) := by decide +kernel
theorem d_M_arc_30 : decode c_M_arc 30 = .ok (.aload_n 0, 1) := by decide +kernel
theorem d_M_arc_31 : decode c_M_arc 31 = .ok (.iconst 4, 1) := by decide +kernel
theorem d_M_arc_32 : decode c_M_arc 32 = .ok (.ldc2_w 73, 3) := by decide +kernel
theorem d_M_arc_35 : decode c_M_arc 35 = .ok (.iload 6, 2) := by decide +kernel
theorem d_M_arc_37 : decode c_M_arc 37 = .ok (.i2l, 1) := by decide +kernel
theorem d_M_arc_38 : decode c_M_arc 38 = .ok (.lmul, 1) := by decide +kernel
theorem d_M_arc_39 : decode c_M_arc 39 = .ok (.lconst 1, 1) := by decide +kernel
theorem d_M_arc_40 : decode c_M_arc 40 = .ok (.ladd, 1) := by decide +kernel
theorem d_M_arc_41 : decode c_M_arc 41 = .ok (.invokevirtual 87, 3) := by decide +kernel
theorem d_M_arc_44 : decode c_M_arc 44 = .ok (.iload 5, 2) := by decide +kernel
theorem d_M_arc_46 : decode c_M_arc 46 = .ok (.iload 6, 2) := by decide +kernel
theorem d_M_arc_48 : decode c_M_arc 48 = .ok (.iconst 2, 1) := by decide +kernel
theorem d_M_arc_49 : decode c_M_arc 49 = .ok (.irem, 1) := by decide +kernel
theorem d_M_arc_50 : decode c_M_arc 50 = .ok (.iconst 1, 1) := by decide +kernel
theorem d_M_arc_51 : decode c_M_arc 51 = .ok (.if_icmp .ne 7, 3) := by decide +kernel
theorem d_M_arc_54 : decode c_M_arc 54 = .ok (.iconst 1, 1) := by decide +kernel
theorem d_M_arc_55 : decode c_M_arc 55 = .ok (.goto 4, 3) := by decide +kernel
theorem d_M_arc_58 : decode c_M_arc 58 = .ok (.iconst 0, 1) := by decide +kernel
theorem d_M_arc_59 : decode c_M_arc 59 = .ok (.if_icmp .ne 13, 3) := by decide +kernel
theorem d_M_arc_62 : decode c_M_arc 62 = .ok (.aload_n 0, 1) := by decide +kernel
theorem d_M_arc_63 : decode c_M_arc 63 = .ok (.iconst 5, 1) := by decide +kernel
theorem d_M_arc_64 : decode c_M_arc 64 = .ok (.iconst 4, 1) := by decide +kernel
theorem d_M_arc_65 : decode c_M_arc 65 = .ok (.lload_n 3, 1) := by decide +kernel
theorem d_M_arc_66 : decode c_M_arc 66 = .ok (.invokevirtual 50, 3) := by decide +kernel
theorem d_M_arc_69 : decode c_M_arc 69 = .ok (.goto 10, 3) := by decide +kernel
theorem d_M_arc_72 : decode c_M_arc 72 = .ok (.aload_n 0, 1) := by decide +kernel
theorem d_M_arc_73 : decode c_M_arc 73 = .ok (.iconst 5, 1) := by decide +kernel
theorem d_M_arc_74 : decode c_M_arc 74 = .ok (.iconst 4, 1) := by decide +kernel
theorem d_M_arc_75 : decode c_M_arc 75 = .ok (.lload_n 3, 1) := by decide +kernel
theorem d_M_arc_76 : decode c_M_arc 76 = .ok (.invokevirtual 64, 3) := by decide +kernel
theorem d_M_arc_79 : decode c_M_arc 79 = .ok (.aload_n 0, 1) := by decide +kernel
theorem d_M_arc_80 : decode c_M_arc 80 = .ok (.iconst 3, 1) := by decide +kernel
theorem d_M_arc_81 : decode c_M_arc 81 = .ok (.lload_n 1, 1) := by decide +kernel
theorem d_M_arc_82 : decode c_M_arc 82 = .ok (.lload_n 1, 1) := by decide +kernel
theorem d_M_arc_83 : decode c_M_arc 83 = .ok (.lmul, 1) := by decide +kernel
theorem d_M_arc_84 : decode c_M_arc 84 = .ok (.invokevirtual 87, 3) := by decide +kernel
theorem d_M_arc_87 : decode c_M_arc 87 = .ok (.iinc 6 1, 3) := by decide +kernel
theorem d_M_arc_90 : decode c_M_arc 90 = .ok (.goto (-75), 3) := by decide +kernel
theorem d_M_arc_93 : decode c_M_arc 93 = .ok (.iload 6, 2) := by decide +kernel
theorem d_M_arc_95 : decode c_M_arc 95 = .ok (.ireturn, 1) := by decide +kernel
theorem d_M_factorials_0 : decode c_M_factorials 0 = .ok (.aload_n 0, 1) := by decide +kernel
theorem d_M_factorials_1 : decode c_M_factorials 1 = .ok (.iconst 3, 1) := by decide +kernel
theorem d_M_factorials_2 : decode c_M_factorials 2 = .ok (.iconst 2, 1) := by decide +kernel
theorem d_M_factorials_3 : decode c_M_factorials 3 = .ok (.invokevirtual 70, 3) := by decide +kernel
theorem d_M_factorials_6 : decode c_M_factorials 6 = .ok (.iconst 0, 1) := by decide +kernel
theorem d_M_factorials_7 : decode c_M_factorials 7 = .ok (.istore_n 1, 1) := by decide +kernel
theorem d_M_factorials_8 : decode c_M_factorials 8 = .ok (.aload_n 0, 1) := by decide +kernel
theorem d_M_factorials_9 : decode c_M_factorials 9 = .ok (.getfield 13, 3) := by decide +kernel
theorem d_M_factorials_12 : decode c_M_factorials 12 = .ok (.iconst 3, 1) := by decide +kernel
theorem d_M_factorials_13 : decode c_M_factorials 13 = .ok (.iaload, 1) := by decide +kernel
theorem d_M_factorials_14 : decode c_M_factorials 14 = .ok (.ifCond .le 23, 3) := by decide +kernel
theorem d_M_factorials_17 : decode c_M_factorials 17 = .ok (.aload_n 0, 1) := by decide +kernel
theorem d_M_factorials_18 : decode c_M_factorials 18 = .ok (.iconst 5, 1) := by decide +kernel
theorem d_M_factorials_19 : decode c_M_factorials 19 = .ok (.iconst 3, 1) := by decide +kernel
theorem d_M_factorials_20 : decode c_M_factorials 20 = .ok (.lconst 1, 1) := by decide +kernel
theorem d_M_factorials_21 : decode c_M_factorials 21 = .ok (.invokevirtual 50, 3) := by decide +kernel
theorem d_M_factorials_24 : decode c_M_factorials 24 = .ok (.iinc 1 1, 3) := by decide +kernel
theorem d_M_factorials_27 : decode c_M_factorials 27 = .ok (.aload_n 0, 1) := by decide +kernel
theorem d_M_factorials_28 : decode c_M_factorials 28 = .ok (.iconst 3, 1) := by decide +kernel
theorem d_M_factorials_29 : decode c_M_factorials 29 = .ok (.iload_n 1, 1) := by decide +kernel
theorem d_M_factorials_30 : decode c_M_factorials 30 = .ok (.i2l, 1) := by decide +kernel
theorem d_M_factorials_31 : decode c_M_factorials 31 = .ok (.invokevirtual 87, 3) := by decide +kernel
theorem d_M_factorials_34 : decode c_M_factorials 34 = .ok (.goto (-26), 3) := by decide +kernel
theorem d_M_factorials_37 : decode c_M_factorials 37 = .ok (.iload_n 1, 1) := by decide +kernel
theorem d_M_factorials_38 : decode c_M_factorials 38 = .ok (.ireturn, 1) := by decide +kernel
theorem d_M_halves_0 : decode c_M_halves 0 = .ok (.aload_n 0, 1) := by decide +kernel
theorem d_M_halves_1 : decode c_M_halves 1 = .ok (.iconst 3, 1) := by decide +kernel
theorem d_M_halves_2 : decode c_M_halves 2 = .ok (.iconst 2, 1) := by decide +kernel
theorem d_M_halves_3 : decode c_M_halves 3 = .ok (.invokevirtual 70, 3) := by decide +kernel
theorem d_M_halves_6 : decode c_M_halves 6 = .ok (.iconst 0, 1) := by decide +kernel
theorem d_M_halves_7 : decode c_M_halves 7 = .ok (.istore_n 1, 1) := by decide +kernel
theorem d_M_halves_8 : decode c_M_halves 8 = .ok (.aload_n 0, 1) := by decide +kernel
theorem d_M_halves_9 : decode c_M_halves 9 = .ok (.getfield 13, 3) := by decide +kernel
theorem d_M_halves_12 : decode c_M_halves 12 = .ok (.iconst 3, 1) := by decide +kernel
theorem d_M_halves_13 : decode c_M_halves 13 = .ok (.iaload, 1) := by decide +kernel
theorem d_M_halves_14 : decode c_M_halves 14 = .ok (.ifCond .le 37, 3) := by decide +kernel
theorem d_M_halves_17 : decode c_M_halves 17 = .ok (.iinc 1 1, 3) := by decide +kernel
theorem d_M_halves_20 : decode c_M_halves 20 = .ok (.aload_n 0, 1) := by decide +kernel
theorem d_M_halves_21 : decode c_M_halves 21 = .ok (.iconst 3, 1) := by decide +kernel
theorem d_M_halves_22 : decode c_M_halves 22 = .ok (.ldc2_w 73, 3) := by decide +kernel
theorem d_M_halves_25 : decode c_M_halves 25 = .ok (.invokevirtual 87, 3) := by decide +kernel
theorem d_M_halves_28 : decode c_M_halves 28 = .ok (.aload_n 0, 1) := by decide +kernel
theorem d_M_halves_29 : decode c_M_halves 29 = .ok (.iconst 4, 1) := by decide +kernel
theorem d_M_halves_30 : decode c_M_halves 30 = .ok (.iconst 3, 1) := by decide +kernel
theorem d_M_halves_31 : decode c_M_halves 31 = .ok (.invokevirtual 70, 3) := by decide +kernel
theorem d_M_halves_34 : decode c_M_halves 34 = .ok (.aload_n 0, 1) := by decide +kernel
theorem d_M_halves_35 : decode c_M_halves 35 = .ok (.iconst 4, 1) := by decide +kernel
theorem d_M_halves_36 : decode c_M_halves 36 = .ok (.iload_n 1, 1) := by decide +kernel
theorem d_M_halves_37 : decode c_M_halves 37 = .ok (.i2l, 1) := by decide +kernel
theorem d_M_halves_38 : decode c_M_halves 38 = .ok (.invokevirtual 87, 3) := by decide +kernel
theorem d_M_halves_41 : decode c_M_halves 41 = .ok (.aload_n 0, 1) := by decide +kernel
theorem d_M_halves_42 : decode c_M_halves 42 = .ok (.iconst 5, 1) := by decide +kernel
theorem d_M_halves_43 : decode c_M_halves 43 = .ok (.iconst 4, 1) := by decide +kernel
theorem d_M_halves_44 : decode c_M_halves 44 = .ok (.lconst 1, 1) := by decide +kernel
theorem d_M_halves_45 : decode c_M_halves 45 = .ok (.invokevirtual 50, 3) := by decide +kernel
theorem d_M_halves_48 : decode c_M_halves 48 = .ok (.goto (-40), 3) := by decide +kernel
theorem d_M_halves_51 : decode c_M_halves 51 = .ok (.iload_n 1, 1) := by decide +kernel
theorem d_M_halves_52 : decode c_M_halves 52 = .ok (.ireturn, 1) := by decide +kernel
theorem d_M_cubes_0 : decode c_M_cubes 0 = .ok (.aload_n 0, 1) := by decide +kernel
theorem d_M_cubes_1 : decode c_M_cubes 1 = .ok (.iconst 3, 1) := by decide +kernel
theorem d_M_cubes_2 : decode c_M_cubes 2 = .ok (.iconst 2, 1) := by decide +kernel
theorem d_M_cubes_3 : decode c_M_cubes 3 = .ok (.invokevirtual 70, 3) := by decide +kernel
theorem d_M_cubes_6 : decode c_M_cubes 6 = .ok (.aload_n 0, 1) := by decide +kernel
theorem d_M_cubes_7 : decode c_M_cubes 7 = .ok (.iconst 3, 1) := by decide +kernel
theorem d_M_cubes_8 : decode c_M_cubes 8 = .ok (.ldc2_w 73, 3) := by decide +kernel
theorem d_M_cubes_11 : decode c_M_cubes 11 = .ok (.invokevirtual 87, 3) := by decide +kernel
theorem d_M_cubes_14 : decode c_M_cubes 14 = .ok (.iconst 1, 1) := by decide +kernel
theorem d_M_cubes_15 : decode c_M_cubes 15 = .ok (.istore_n 1, 1) := by decide +kernel
theorem d_M_cubes_16 : decode c_M_cubes 16 = .ok (.aload_n 0, 1) := by decide +kernel
theorem d_M_cubes_17 : decode c_M_cubes 17 = .ok (.getfield 13, 3) := by decide +kernel
theorem d_M_cubes_20 : decode c_M_cubes 20 = .ok (.iconst 3, 1) := by decide +kernel
theorem d_M_cubes_21 : decode c_M_cubes 21 = .ok (.iaload, 1) := by decide +kernel
theorem d_M_cubes_22 : decode c_M_cubes 22 = .ok (.ifCond .le 81, 3) := by decide +kernel
theorem d_M_cubes_25 : decode c_M_cubes 25 = .ok (.aload_n 0, 1) := by decide +kernel
theorem d_M_cubes_26 : decode c_M_cubes 26 = .ok (.iconst 4, 1) := by decide +kernel
theorem d_M_cubes_27 : decode c_M_cubes 27 = .ok (.iconst 3, 1) := by decide +kernel
theorem d_M_cubes_28 : decode c_M_cubes 28 = .ok (.invokevirtual 70, 3) := by decide +kernel
theorem d_M_cubes_31 : decode c_M_cubes 31 = .ok (.aload_n 0, 1) := by decide +kernel
theorem d_M_cubes_32 : decode c_M_cubes 32 = .ok (.iconst 4, 1) := by decide +kernel
theorem d_M_cubes_33 : decode c_M_cubes 33 = .ok (.iload_n 1, 1) := by decide +kernel
theorem d_M_cubes_34 : decode c_M_cubes 34 = .ok (.i2l, 1) := by decide +kernel
theorem d_M_cubes_35 : decode c_M_cubes 35 = .ok (.iload_n 1, 1) := by decide +kernel
theorem d_M_cubes_36 : decode c_M_cubes 36 = .ok (.i2l, 1) := by decide +kernel
theorem d_M_cubes_37 : decode c_M_cubes 37 = .ok (.lmul, 1) := by decide +kernel
theorem d_M_cubes_38 : decode c_M_cubes 38 = .ok (.iload_n 1, 1) := by decide +kernel
theorem d_M_cubes_39 : decode c_M_cubes 39 = .ok (.i2l, 1) := by decide +kernel
theorem d_M_cubes_40 : decode c_M_cubes 40 = .ok (.lmul, 1) := by decide +kernel
theorem d_M_cubes_41 : decode c_M_cubes 41 = .ok (.invokevirtual 87, 3) := by decide +kernel
theorem d_M_cubes_44 : decode c_M_cubes 44 = .ok (.iload_n 1, 1) := by decide +kernel
theorem d_M_cubes_45 : decode c_M_cubes 45 = .ok (.iconst 2, 1) := by decide +kernel
theorem d_M_cubes_46 : decode c_M_cubes 46 = .ok (.irem, 1) := by decide +kernel
theorem d_M_cubes_47 : decode c_M_cubes 47 = .ok (.iconst 1, 1) := by decide +kernel
theorem d_M_cubes_48 : decode c_M_cubes 48 = .ok (.if_icmp .ne 15, 3) := by decide +kernel
theorem d_M_cubes_51 : decode c_M_cubes 51 = .ok (.aload_n 0, 1) := by decide +kernel
theorem d_M_cubes_52 : decode c_M_cubes 52 = .ok (.iconst 5, 1) := by decide +kernel
theorem d_M_cubes_53 : decode c_M_cubes 53 = .ok (.iconst 4, 1) := by decide +kernel
theorem d_M_cubes_54 : decode c_M_cubes 54 = .ok (.ldc2_w 90, 3) := by decide +kernel
theorem d_M_cubes_57 : decode c_M_cubes 57 = .ok (.invokevirtual 50, 3) := by decide +kernel
theorem d_M_cubes_60 : decode c_M_cubes 60 = .ok (.goto 12, 3) := by decide +kernel
theorem d_M_cubes_63 : decode c_M_cubes 63 = .ok (.aload_n 0, 1) := by decide +kernel
theorem d_M_cubes_64 : decode c_M_cubes 64 = .ok (.iconst 5, 1) := by decide +kernel
theorem d_M_cubes_65 : decode c_M_cubes 65 = .ok (.iconst 4, 1) := by decide +kernel
theorem d_M_cubes_66 : decode c_M_cubes 66 = .ok (.ldc2_w 90, 3) := by decide +kernel
theorem d_M_cubes_69 : decode c_M_cubes 69 = .ok (.invokevirtual 64, 3) := by decide +kernel
theorem d_M_cubes_72 : decode c_M_cubes 72 = .ok (.aload_n 0, 1) := by decide +kernel
theorem d_M_cubes_73 : decode c_M_cubes 73 = .ok (.iconst 3, 1) := by decide +kernel
theorem d_M_cubes_74 : decode c_M_cubes 74 = .ok (.iload_n 1, 1) := by decide +kernel
theorem d_M_cubes_75 : decode c_M_cubes 75 = .ok (.i2l, 1) := by decide +kernel
theorem d_M_cubes_76 : decode c_M_cubes 76 = .ok (.lconst 1, 1) := by decide +kernel
theorem d_M_cubes_77 : decode c_M_cubes 77 = .ok (.ladd, 1) := by decide +kernel
theorem d_M_cubes_78 : decode c_M_cubes 78 = .ok (.lconst 0, 1) := by decide +kernel
theorem d_M_cubes_79 : decode c_M_cubes 79 = .ok (.invokevirtual 60, 3) := by decide +kernel
theorem d_M_cubes_82 : decode c_M_cubes 82 = .ok (.aload_n 0, 1) := by decide +kernel
theorem d_M_cubes_83 : decode c_M_cubes 83 = .ok (.iconst 3, 1) := by decide +kernel
theorem d_M_cubes_84 : decode c_M_cubes 84 = .ok (.ldc2_w 100, 3) := by decide +kernel
theorem d_M_cubes_87 : decode c_M_cubes 87 = .ok (.iload_n 1, 1) := by decide +kernel
theorem d_M_cubes_88 : decode c_M_cubes 88 = .ok (.i2l, 1) := by decide +kernel
theorem d_M_cubes_89 : decode c_M_cubes 89 = .ok (.lmul, 1) := by decide +kernel
theorem d_M_cubes_90 : decode c_M_cubes 90 = .ok (.ldc2_w 73, 3) := by decide +kernel
theorem d_M_cubes_93 : decode c_M_cubes 93 = .ok (.ladd, 1) := by decide +kernel
theorem d_M_cubes_94 : decode c_M_cubes 94 = .ok (.invokevirtual 87, 3) := by decide +kernel
theorem d_M_cubes_97 : decode c_M_cubes 97 = .ok (.iinc 1 1, 3) := by decide +kernel
theorem d_M_cubes_100 : decode c_M_cubes 100 = .ok (.goto (-84), 3) := by decide +kernel
theorem d_M_cubes_103 : decode c_M_cubes 103 = .ok (.aload_n 0, 1) := by decide +kernel
theorem d_M_cubes_104 : decode c_M_cubes 104 = .ok (.iconst 5, 1) := by decide +kernel
theorem d_M_cubes_105 : decode c_M_cubes 105 = .ok (.ldc2_w 73, 3) := by decide +kernel
theorem d_M_cubes_108 : decode c_M_cubes 108 = .ok (.invokevirtual 87, 3) := by decide +kernel
theorem d_M_cubes_111 : decode c_M_cubes 111 = .ok (.iload_n 1, 1) := by decide +kernel
theorem d_M_cubes_112 : decode c_M_cubes 112 = .ok (.ireturn, 1) := by decide +kernel
theorem d_M_told_0 : decode c_M_told 0 = .ok (.aload_n 0, 1) := by decide +kernel
theorem d_M_told_1 : decode c_M_told 1 = .ok (.iload_n 1, 1) := by decide +kernel
theorem d_M_told_2 : decode c_M_told 2 = .ok (.putfield 16, 3) := by decide +kernel
theorem d_M_told_5 : decode c_M_told 5 = .ok (.aload_n 0, 1) := by decide +kernel
theorem d_M_told_6 : decode c_M_told 6 = .ok (.iconst 0, 1) := by decide +kernel
theorem d_M_told_7 : decode c_M_told 7 = .ok (.putfield 136, 3) := by decide +kernel
theorem d_M_told_10 : decode c_M_told 10 = .ok (.aload_n 0, 1) := by decide +kernel
theorem d_M_told_11 : decode c_M_told 11 = .ok (.invokevirtual 140, 3) := by decide +kernel
theorem d_M_told_14 : decode c_M_told 14 = .ok (.ireturn, 1) := by decide +kernel
theorem d_M_howMany_0 : decode c_M_howMany 0 = .ok (.aload_n 0, 1) := by decide +kernel
theorem d_M_howMany_1 : decode c_M_howMany 1 = .ok (.getfield 136, 3) := by decide +kernel
theorem d_M_howMany_4 : decode c_M_howMany 4 = .ok (.ifCond .ne 7, 3) := by decide +kernel
theorem d_M_howMany_7 : decode c_M_howMany 7 = .ok (.aload_n 0, 1) := by decide +kernel
theorem d_M_howMany_8 : decode c_M_howMany 8 = .ok (.invokevirtual 143, 3) := by decide +kernel
theorem d_M_howMany_11 : decode c_M_howMany 11 = .ok (.aload_n 0, 1) := by decide +kernel
theorem d_M_howMany_12 : decode c_M_howMany 12 = .ok (.getfield 146, 3) := by decide +kernel
theorem d_M_howMany_15 : decode c_M_howMany 15 = .ok (.ireturn, 1) := by decide +kernel
theorem d_M_tell_0 : decode c_M_tell 0 = .ok (.aload_n 0, 1) := by decide +kernel
theorem d_M_tell_1 : decode c_M_tell 1 = .ok (.getfield 16, 3) := by decide +kernel
theorem d_M_tell_4 : decode c_M_tell 4 = .ok (.istore_n 1, 1) := by decide +kernel
theorem d_M_tell_5 : decode c_M_tell 5 = .ok (.iconst 1, 1) := by decide +kernel
theorem d_M_tell_6 : decode c_M_tell 6 = .ok (.istore_n 2, 1) := by decide +kernel
theorem d_M_tell_7 : decode c_M_tell 7 = .ok (.iload_n 1, 1) := by decide +kernel
theorem d_M_tell_8 : decode c_M_tell 8 = .ok (.aload_n 0, 1) := by decide +kernel
theorem d_M_tell_9 : decode c_M_tell 9 = .ok (.getfield 16, 3) := by decide +kernel
theorem d_M_tell_12 : decode c_M_tell 12 = .ok (.imul, 1) := by decide +kernel
theorem d_M_tell_13 : decode c_M_tell 13 = .ok (.ldc 149, 2) := by decide +kernel
theorem d_M_tell_15 : decode c_M_tell 15 = .ok (.if_icmp .gt 16, 3) := by decide +kernel
theorem d_M_tell_18 : decode c_M_tell 18 = .ok (.iload_n 1, 1) := by decide +kernel
theorem d_M_tell_19 : decode c_M_tell 19 = .ok (.aload_n 0, 1) := by decide +kernel
theorem d_M_tell_20 : decode c_M_tell 20 = .ok (.getfield 16, 3) := by decide +kernel
theorem d_M_tell_23 : decode c_M_tell 23 = .ok (.imul, 1) := by decide +kernel
theorem d_M_tell_24 : decode c_M_tell 24 = .ok (.istore_n 1, 1) := by decide +kernel
theorem d_M_tell_25 : decode c_M_tell 25 = .ok (.iinc 2 1, 3) := by decide +kernel
theorem d_M_tell_28 : decode c_M_tell 28 = .ok (.goto (-21), 3) := by decide +kernel
theorem d_M_tell_31 : decode c_M_tell 31 = .ok (.aload_n 0, 1) := by decide +kernel
theorem d_M_tell_32 : decode c_M_tell 32 = .ok (.iconst 3, 1) := by decide +kernel
theorem d_M_tell_33 : decode c_M_tell 33 = .ok (.iconst 0, 1) := by decide +kernel
theorem d_M_tell_34 : decode c_M_tell 34 = .ok (.invokevirtual 70, 3) := by decide +kernel
theorem d_M_tell_37 : decode c_M_tell 37 = .ok (.aload_n 0, 1) := by decide +kernel
theorem d_M_tell_38 : decode c_M_tell 38 = .ok (.iconst 0, 1) := by decide +kernel
theorem d_M_tell_39 : decode c_M_tell 39 = .ok (.putfield 146, 3) := by decide +kernel
theorem d_M_tell_42 : decode c_M_tell 42 = .ok (.aload_n 0, 1) := by decide +kernel
theorem d_M_tell_43 : decode c_M_tell 43 = .ok (.getfield 13, 3) := by decide +kernel
theorem d_M_tell_46 : decode c_M_tell 46 = .ok (.iconst 3, 1) := by decide +kernel
theorem d_M_tell_47 : decode c_M_tell 47 = .ok (.iaload, 1) := by decide +kernel
theorem d_M_tell_48 : decode c_M_tell 48 = .ok (.ifCond .le 91, 3) := by decide +kernel
theorem d_M_tell_51 : decode c_M_tell 51 = .ok (.aload_n 0, 1) := by decide +kernel
theorem d_M_tell_52 : decode c_M_tell 52 = .ok (.iconst 3, 1) := by decide +kernel
theorem d_M_tell_53 : decode c_M_tell 53 = .ok (.iload_n 1, 1) := by decide +kernel
theorem d_M_tell_54 : decode c_M_tell 54 = .ok (.i2l, 1) := by decide +kernel
theorem d_M_tell_55 : decode c_M_tell 55 = .ok (.invokevirtual 87, 3) := by decide +kernel
theorem d_M_tell_58 : decode c_M_tell 58 = .ok (.iconst 0, 1) := by decide +kernel
theorem d_M_tell_59 : decode c_M_tell 59 = .ok (.istore_n 3, 1) := by decide +kernel
theorem d_M_tell_60 : decode c_M_tell 60 = .ok (.iload_n 3, 1) := by decide +kernel
theorem d_M_tell_61 : decode c_M_tell 61 = .ok (.iload_n 2, 1) := by decide +kernel
theorem d_M_tell_62 : decode c_M_tell 62 = .ok (.if_icmp .ge 74, 3) := by decide +kernel
theorem d_M_tell_65 : decode c_M_tell 65 = .ok (.aload_n 0, 1) := by decide +kernel
theorem d_M_tell_66 : decode c_M_tell 66 = .ok (.getfield 23, 3) := by decide +kernel
theorem d_M_tell_69 : decode c_M_tell 69 = .ok (.aload_n 0, 1) := by decide +kernel
theorem d_M_tell_70 : decode c_M_tell 70 = .ok (.getfield 146, 3) := by decide +kernel
theorem d_M_tell_73 : decode c_M_tell 73 = .ok (.aload_n 0, 1) := by decide +kernel
theorem d_M_tell_74 : decode c_M_tell 74 = .ok (.getfield 42, 3) := by decide +kernel
theorem d_M_tell_77 : decode c_M_tell 77 = .ok (.aload_n 0, 1) := by decide +kernel
theorem d_M_tell_78 : decode c_M_tell 78 = .ok (.getfield 16, 3) := by decide +kernel
theorem d_M_tell_81 : decode c_M_tell 81 = .ok (.i2l, 1) := by decide +kernel
theorem d_M_tell_82 : decode c_M_tell 82 = .ok (.lrem, 1) := by decide +kernel
theorem d_M_tell_83 : decode c_M_tell 83 = .ok (.l2i, 1) := by decide +kernel
theorem d_M_tell_84 : decode c_M_tell 84 = .ok (.iastore, 1) := by decide +kernel
theorem d_M_tell_85 : decode c_M_tell 85 = .ok (.aload_n 0, 1) := by decide +kernel
theorem d_M_tell_86 : decode c_M_tell 86 = .ok (.aload_n 0, 1) := by decide +kernel
theorem d_M_tell_87 : decode c_M_tell 87 = .ok (.getfield 42, 3) := by decide +kernel
theorem d_M_tell_90 : decode c_M_tell 90 = .ok (.aload_n 0, 1) := by decide +kernel
theorem d_M_tell_91 : decode c_M_tell 91 = .ok (.getfield 16, 3) := by decide +kernel
theorem d_M_tell_94 : decode c_M_tell 94 = .ok (.i2l, 1) := by decide +kernel
theorem d_M_tell_95 : decode c_M_tell 95 = .ok (.ldiv, 1) := by decide +kernel
theorem d_M_tell_96 : decode c_M_tell 96 = .ok (.putfield 42, 3) := by decide +kernel
theorem d_M_tell_99 : decode c_M_tell 99 = .ok (.aload_n 0, 1) := by decide +kernel
theorem d_M_tell_100 : decode c_M_tell 100 = .ok (.dup, 1) := by decide +kernel
theorem d_M_tell_101 : decode c_M_tell 101 = .ok (.getfield 146, 3) := by decide +kernel
theorem d_M_tell_104 : decode c_M_tell 104 = .ok (.iconst 1, 1) := by decide +kernel
theorem d_M_tell_105 : decode c_M_tell 105 = .ok (.iadd, 1) := by decide +kernel
theorem d_M_tell_106 : decode c_M_tell 106 = .ok (.putfield 146, 3) := by decide +kernel
theorem d_M_tell_109 : decode c_M_tell 109 = .ok (.aload_n 0, 1) := by decide +kernel
theorem d_M_tell_110 : decode c_M_tell 110 = .ok (.getfield 13, 3) := by decide +kernel
theorem d_M_tell_113 : decode c_M_tell 113 = .ok (.iconst 3, 1) := by decide +kernel
theorem d_M_tell_114 : decode c_M_tell 114 = .ok (.iaload, 1) := by decide +kernel
theorem d_M_tell_115 : decode c_M_tell 115 = .ok (.ifCond .ne 15, 3) := by decide +kernel
theorem d_M_tell_118 : decode c_M_tell 118 = .ok (.aload_n 0, 1) := by decide +kernel
theorem d_M_tell_119 : decode c_M_tell 119 = .ok (.getfield 42, 3) := by decide +kernel
theorem d_M_tell_122 : decode c_M_tell 122 = .ok (.lconst 0, 1) := by decide +kernel
theorem d_M_tell_123 : decode c_M_tell 123 = .ok (.lcmp, 1) := by decide +kernel
theorem d_M_tell_124 : decode c_M_tell 124 = .ok (.ifCond .ne 6, 3) := by decide +kernel
theorem d_M_tell_127 : decode c_M_tell 127 = .ok (.goto 9, 3) := by decide +kernel
theorem d_M_tell_130 : decode c_M_tell 130 = .ok (.iinc 3 1, 3) := by decide +kernel
theorem d_M_tell_133 : decode c_M_tell 133 = .ok (.goto (-73), 3) := by decide +kernel
theorem d_M_tell_136 : decode c_M_tell 136 = .ok (.goto (-94), 3) := by decide +kernel
theorem d_M_tell_139 : decode c_M_tell 139 = .ok (.aload_n 0, 1) := by decide +kernel
theorem d_M_tell_140 : decode c_M_tell 140 = .ok (.getfield 146, 3) := by decide +kernel
theorem d_M_tell_143 : decode c_M_tell 143 = .ok (.ifCond .ne 15, 3) := by decide +kernel
theorem d_M_tell_146 : decode c_M_tell 146 = .ok (.aload_n 0, 1) := by decide +kernel
theorem d_M_tell_147 : decode c_M_tell 147 = .ok (.getfield 23, 3) := by decide +kernel
theorem d_M_tell_150 : decode c_M_tell 150 = .ok (.iconst 0, 1) := by decide +kernel
theorem d_M_tell_151 : decode c_M_tell 151 = .ok (.iconst 0, 1) := by decide +kernel
theorem d_M_tell_152 : decode c_M_tell 152 = .ok (.iastore, 1) := by decide +kernel
theorem d_M_tell_153 : decode c_M_tell 153 = .ok (.aload_n 0, 1) := by decide +kernel
theorem d_M_tell_154 : decode c_M_tell 154 = .ok (.iconst 1, 1) := by decide +kernel
theorem d_M_tell_155 : decode c_M_tell 155 = .ok (.putfield 146, 3) := by decide +kernel
theorem d_M_tell_158 : decode c_M_tell 158 = .ok (.iconst 0, 1) := by decide +kernel
theorem d_M_tell_159 : decode c_M_tell 159 = .ok (.istore_n 3, 1) := by decide +kernel
theorem d_M_tell_160 : decode c_M_tell 160 = .ok (.iload_n 3, 1) := by decide +kernel
theorem d_M_tell_161 : decode c_M_tell 161 = .ok (.aload_n 0, 1) := by decide +kernel
theorem d_M_tell_162 : decode c_M_tell 162 = .ok (.getfield 146, 3) := by decide +kernel
theorem d_M_tell_165 : decode c_M_tell 165 = .ok (.iconst 2, 1) := by decide +kernel
theorem d_M_tell_166 : decode c_M_tell 166 = .ok (.idiv, 1) := by decide +kernel
theorem d_M_tell_167 : decode c_M_tell 167 = .ok (.if_icmp .ge 51, 3) := by decide +kernel
theorem d_M_tell_170 : decode c_M_tell 170 = .ok (.aload_n 0, 1) := by decide +kernel
theorem d_M_tell_171 : decode c_M_tell 171 = .ok (.getfield 23, 3) := by decide +kernel
theorem d_M_tell_174 : decode c_M_tell 174 = .ok (.iload_n 3, 1) := by decide +kernel
theorem d_M_tell_175 : decode c_M_tell 175 = .ok (.iaload, 1) := by decide +kernel
theorem d_M_tell_176 : decode c_M_tell 176 = .ok (.istore 4, 2) := by decide +kernel
theorem d_M_tell_178 : decode c_M_tell 178 = .ok (.aload_n 0, 1) := by decide +kernel
theorem d_M_tell_179 : decode c_M_tell 179 = .ok (.getfield 23, 3) := by decide +kernel
theorem d_M_tell_182 : decode c_M_tell 182 = .ok (.iload_n 3, 1) := by decide +kernel
theorem d_M_tell_183 : decode c_M_tell 183 = .ok (.aload_n 0, 1) := by decide +kernel
theorem d_M_tell_184 : decode c_M_tell 184 = .ok (.getfield 23, 3) := by decide +kernel
theorem d_M_tell_187 : decode c_M_tell 187 = .ok (.aload_n 0, 1) := by decide +kernel
theorem d_M_tell_188 : decode c_M_tell 188 = .ok (.getfield 146, 3) := by decide +kernel
theorem d_M_tell_191 : decode c_M_tell 191 = .ok (.iconst 1, 1) := by decide +kernel
theorem d_M_tell_192 : decode c_M_tell 192 = .ok (.isub, 1) := by decide +kernel
theorem d_M_tell_193 : decode c_M_tell 193 = .ok (.iload_n 3, 1) := by decide +kernel
theorem d_M_tell_194 : decode c_M_tell 194 = .ok (.isub, 1) := by decide +kernel
theorem d_M_tell_195 : decode c_M_tell 195 = .ok (.iaload, 1) := by decide +kernel
theorem d_M_tell_196 : decode c_M_tell 196 = .ok (.iastore, 1) := by decide +kernel
theorem d_M_tell_197 : decode c_M_tell 197 = .ok (.aload_n 0, 1) := by decide +kernel
theorem d_M_tell_198 : decode c_M_tell 198 = .ok (.getfield 23, 3) := by decide +kernel
theorem d_M_tell_201 : decode c_M_tell 201 = .ok (.aload_n 0, 1) := by decide +kernel
theorem d_M_tell_202 : decode c_M_tell 202 = .ok (.getfield 146, 3) := by decide +kernel
theorem d_M_tell_205 : decode c_M_tell 205 = .ok (.iconst 1, 1) := by decide +kernel
theorem d_M_tell_206 : decode c_M_tell 206 = .ok (.isub, 1) := by decide +kernel
theorem d_M_tell_207 : decode c_M_tell 207 = .ok (.iload_n 3, 1) := by decide +kernel
theorem d_M_tell_208 : decode c_M_tell 208 = .ok (.isub, 1) := by decide +kernel
theorem d_M_tell_209 : decode c_M_tell 209 = .ok (.iload 4, 2) := by decide +kernel
theorem d_M_tell_211 : decode c_M_tell 211 = .ok (.iastore, 1) := by decide +kernel
theorem d_M_tell_212 : decode c_M_tell 212 = .ok (.iinc 3 1, 3) := by decide +kernel
theorem d_M_tell_215 : decode c_M_tell 215 = .ok (.goto (-55), 3) := by decide +kernel
theorem d_M_tell_218 : decode c_M_tell 218 = .ok (.aload_n 0, 1) := by decide +kernel
theorem d_M_tell_219 : decode c_M_tell 219 = .ok (.iconst 1, 1) := by decide +kernel
theorem d_M_tell_220 : decode c_M_tell 220 = .ok (.putfield 136, 3) := by decide +kernel
theorem d_M_tell_223 : decode c_M_tell 223 = .ok (.return_, 1) := by decide +kernel
theorem d_M_root_0 : decode c_M_root 0 = .ok (.aload_n 0, 1) := by decide +kernel
theorem d_M_root_1 : decode c_M_root 1 = .ok (.lload_n 1, 1) := by decide +kernel
theorem d_M_root_2 : decode c_M_root 2 = .ok (.lconst 0, 1) := by decide +kernel
theorem d_M_root_3 : decode c_M_root 3 = .ok (.lcmp, 1) := by decide +kernel
theorem d_M_root_4 : decode c_M_root 4 = .ok (.ifCond .ge 7, 3) := by decide +kernel
theorem d_M_root_7 : decode c_M_root 7 = .ok (.iconst 1, 1) := by decide +kernel
theorem d_M_root_8 : decode c_M_root 8 = .ok (.goto 4, 3) := by decide +kernel
theorem d_M_root_11 : decode c_M_root 11 = .ok (.iconst 0, 1) := by decide +kernel
theorem d_M_root_12 : decode c_M_root 12 = .ok (.iload_n 3, 1) := by decide +kernel
theorem d_M_root_13 : decode c_M_root 13 = .ok (.iload 4, 2) := by decide +kernel
theorem d_M_root_15 : decode c_M_root 15 = .ok (.invokevirtual 150, 3) := by decide +kernel
theorem d_M_root_18 : decode c_M_root 18 = .ok (.ifCond .eq 5, 3) := by decide +kernel
theorem d_M_root_21 : decode c_M_root 21 = .ok (.iconst 0, 1) := by decide +kernel
theorem d_M_root_22 : decode c_M_root 22 = .ok (.ireturn, 1) := by decide +kernel
theorem d_M_root_23 : decode c_M_root 23 = .ok (.aload_n 0, 1) := by decide +kernel
theorem d_M_root_24 : decode c_M_root 24 = .ok (.iconst 2, 1) := by decide +kernel
theorem d_M_root_25 : decode c_M_root 25 = .ok (.iload 4, 2) := by decide +kernel
theorem d_M_root_27 : decode c_M_root 27 = .ok (.iconst 2, 1) := by decide +kernel
theorem d_M_root_28 : decode c_M_root 28 = .ok (.iload_n 3, 1) := by decide +kernel
theorem d_M_root_29 : decode c_M_root 29 = .ok (.imul, 1) := by decide +kernel
theorem d_M_root_30 : decode c_M_root 30 = .ok (.invokevirtual 102, 3) := by decide +kernel
theorem d_M_root_33 : decode c_M_root 33 = .ok (.aload_n 0, 1) := by decide +kernel
theorem d_M_root_34 : decode c_M_root 34 = .ok (.iconst 3, 1) := by decide +kernel
theorem d_M_root_35 : decode c_M_root 35 = .ok (.lload_n 1, 1) := by decide +kernel
theorem d_M_root_36 : decode c_M_root 36 = .ok (.invokevirtual 83, 3) := by decide +kernel
theorem d_M_root_39 : decode c_M_root 39 = .ok (.aload_n 0, 1) := by decide +kernel
theorem d_M_root_40 : decode c_M_root 40 = .ok (.iconst 5, 1) := by decide +kernel
theorem d_M_root_41 : decode c_M_root 41 = .ok (.iconst 3, 1) := by decide +kernel
theorem d_M_root_42 : decode c_M_root 42 = .ok (.iconst 2, 1) := by decide +kernel
theorem d_M_root_43 : decode c_M_root 43 = .ok (.invokevirtual 163, 3) := by decide +kernel
theorem d_M_root_46 : decode c_M_root 46 = .ok (.aload_n 0, 1) := by decide +kernel
theorem d_M_root_47 : decode c_M_root 47 = .ok (.bipush 6, 2) := by decide +kernel
theorem d_M_root_49 : decode c_M_root 49 = .ok (.iconst 5, 1) := by decide +kernel
theorem d_M_root_50 : decode c_M_root 50 = .ok (.invokevirtual 121, 3) := by decide +kernel
theorem d_M_root_53 : decode c_M_root 53 = .ok (.aload_n 0, 1) := by decide +kernel
theorem d_M_root_54 : decode c_M_root 54 = .ok (.iconst 0, 1) := by decide +kernel
theorem d_M_root_55 : decode c_M_root 55 = .ok (.bipush 6, 2) := by decide +kernel
theorem d_M_root_57 : decode c_M_root 57 = .ok (.invokevirtual 70, 3) := by decide +kernel
theorem d_M_root_60 : decode c_M_root 60 = .ok (.aload_n 0, 1) := by decide +kernel
theorem d_M_root_61 : decode c_M_root 61 = .ok (.iload 4, 2) := by decide +kernel
theorem d_M_root_63 : decode c_M_root 63 = .ok (.invokevirtual 160, 3) := by decide +kernel
theorem d_M_root_66 : decode c_M_root 66 = .ok (.ireturn, 1) := by decide +kernel
theorem d_M_product_0 : decode c_M_product 0 = .ok (.aload_n 0, 1) := by decide +kernel
theorem d_M_product_1 : decode c_M_product 1 = .ok (.getfield 13, 3) := by decide +kernel
theorem d_M_product_4 : decode c_M_product 4 = .ok (.iload_n 1, 1) := by decide +kernel
theorem d_M_product_5 : decode c_M_product 5 = .ok (.iconst 0, 1) := by decide +kernel
theorem d_M_product_6 : decode c_M_product 6 = .ok (.iastore, 1) := by decide +kernel
theorem d_M_product_7 : decode c_M_product 7 = .ok (.aload_n 0, 1) := by decide +kernel
theorem d_M_product_8 : decode c_M_product 8 = .ok (.getfield 13, 3) := by decide +kernel
theorem d_M_product_11 : decode c_M_product 11 = .ok (.iload_n 2, 1) := by decide +kernel
theorem d_M_product_12 : decode c_M_product 12 = .ok (.iaload, 1) := by decide +kernel
theorem d_M_product_13 : decode c_M_product 13 = .ok (.iconst 1, 1) := by decide +kernel
theorem d_M_product_14 : decode c_M_product 14 = .ok (.isub, 1) := by decide +kernel
theorem d_M_product_15 : decode c_M_product 15 = .ok (.istore 4, 2) := by decide +kernel
theorem d_M_product_17 : decode c_M_product 17 = .ok (.iload 4, 2) := by decide +kernel
theorem d_M_product_19 : decode c_M_product 19 = .ok (.ifCond .lt 29, 3) := by decide +kernel
theorem d_M_product_22 : decode c_M_product 22 = .ok (.aload_n 0, 1) := by decide +kernel
theorem d_M_product_23 : decode c_M_product 23 = .ok (.iload_n 1, 1) := by decide +kernel
theorem d_M_product_24 : decode c_M_product 24 = .ok (.iconst 1, 1) := by decide +kernel
theorem d_M_product_25 : decode c_M_product 25 = .ok (.invokevirtual 46, 3) := by decide +kernel
theorem d_M_product_28 : decode c_M_product 28 = .ok (.aload_n 0, 1) := by decide +kernel
theorem d_M_product_29 : decode c_M_product 29 = .ok (.iload_n 1, 1) := by decide +kernel
theorem d_M_product_30 : decode c_M_product 30 = .ok (.iload_n 3, 1) := by decide +kernel
theorem d_M_product_31 : decode c_M_product 31 = .ok (.aload_n 0, 1) := by decide +kernel
theorem d_M_product_32 : decode c_M_product 32 = .ok (.iload_n 2, 1) := by decide +kernel
theorem d_M_product_33 : decode c_M_product 33 = .ok (.iload 4, 2) := by decide +kernel
theorem d_M_product_35 : decode c_M_product 35 = .ok (.invokevirtual 34, 3) := by decide +kernel
theorem d_M_product_38 : decode c_M_product 38 = .ok (.i2l, 1) := by decide +kernel
theorem d_M_product_39 : decode c_M_product 39 = .ok (.invokevirtual 50, 3) := by decide +kernel
theorem d_M_product_42 : decode c_M_product 42 = .ok (.iinc 4 (-1), 3) := by decide +kernel
theorem d_M_product_45 : decode c_M_product 45 = .ok (.goto (-28), 3) := by decide +kernel
theorem d_M_product_48 : decode c_M_product 48 = .ok (.return_, 1) := by decide +kernel
theorem d_M_over_0 : decode c_M_over 0 = .ok (.aload_n 0, 1) := by decide +kernel
theorem d_M_over_1 : decode c_M_over 1 = .ok (.lload_n 1, 1) := by decide +kernel
theorem d_M_over_2 : decode c_M_over 2 = .ok (.lconst 0, 1) := by decide +kernel
theorem d_M_over_3 : decode c_M_over 3 = .ok (.lcmp, 1) := by decide +kernel
theorem d_M_over_4 : decode c_M_over 4 = .ok (.ifCond .lt 9, 3) := by decide +kernel
theorem d_M_over_7 : decode c_M_over 7 = .ok (.lload_n 3, 1) := by decide +kernel
theorem d_M_over_8 : decode c_M_over 8 = .ok (.lconst 1, 1) := by decide +kernel
theorem d_M_over_9 : decode c_M_over 9 = .ok (.lcmp, 1) := by decide +kernel
theorem d_M_over_10 : decode c_M_over 10 = .ok (.ifCond .ge 7, 3) := by decide +kernel
theorem d_M_over_13 : decode c_M_over 13 = .ok (.iconst 1, 1) := by decide +kernel
theorem d_M_over_14 : decode c_M_over 14 = .ok (.goto 4, 3) := by decide +kernel
theorem d_M_over_17 : decode c_M_over 17 = .ok (.iconst 0, 1) := by decide +kernel
theorem d_M_over_18 : decode c_M_over 18 = .ok (.iload 5, 2) := by decide +kernel
theorem d_M_over_20 : decode c_M_over 20 = .ok (.iload 6, 2) := by decide +kernel
theorem d_M_over_22 : decode c_M_over 22 = .ok (.invokevirtual 150, 3) := by decide +kernel
theorem d_M_over_25 : decode c_M_over 25 = .ok (.ifCond .eq 5, 3) := by decide +kernel
theorem d_M_over_28 : decode c_M_over 28 = .ok (.iconst 0, 1) := by decide +kernel
theorem d_M_over_29 : decode c_M_over 29 = .ok (.ireturn, 1) := by decide +kernel
theorem d_M_over_30 : decode c_M_over 30 = .ok (.aload_n 0, 1) := by decide +kernel
theorem d_M_over_31 : decode c_M_over 31 = .ok (.iconst 2, 1) := by decide +kernel
theorem d_M_over_32 : decode c_M_over 32 = .ok (.iload 6, 2) := by decide +kernel
theorem d_M_over_34 : decode c_M_over 34 = .ok (.iload 5, 2) := by decide +kernel
theorem d_M_over_36 : decode c_M_over 36 = .ok (.invokevirtual 102, 3) := by decide +kernel
theorem d_M_over_39 : decode c_M_over 39 = .ok (.aload_n 0, 1) := by decide +kernel
theorem d_M_over_40 : decode c_M_over 40 = .ok (.iconst 3, 1) := by decide +kernel
theorem d_M_over_41 : decode c_M_over 41 = .ok (.lload_n 1, 1) := by decide +kernel
theorem d_M_over_42 : decode c_M_over 42 = .ok (.invokevirtual 83, 3) := by decide +kernel
theorem d_M_over_45 : decode c_M_over 45 = .ok (.aload_n 0, 1) := by decide +kernel
theorem d_M_over_46 : decode c_M_over 46 = .ok (.iconst 5, 1) := by decide +kernel
theorem d_M_over_47 : decode c_M_over 47 = .ok (.iconst 3, 1) := by decide +kernel
theorem d_M_over_48 : decode c_M_over 48 = .ok (.iconst 2, 1) := by decide +kernel
theorem d_M_over_49 : decode c_M_over 49 = .ok (.invokevirtual 163, 3) := by decide +kernel
theorem d_M_over_52 : decode c_M_over 52 = .ok (.aload_n 0, 1) := by decide +kernel
theorem d_M_over_53 : decode c_M_over 53 = .ok (.iconst 3, 1) := by decide +kernel
theorem d_M_over_54 : decode c_M_over 54 = .ok (.lload_n 3, 1) := by decide +kernel
theorem d_M_over_55 : decode c_M_over 55 = .ok (.invokevirtual 83, 3) := by decide +kernel
theorem d_M_over_58 : decode c_M_over 58 = .ok (.aload_n 0, 1) := by decide +kernel
theorem d_M_over_59 : decode c_M_over 59 = .ok (.bipush 6, 2) := by decide +kernel
theorem d_M_over_61 : decode c_M_over 61 = .ok (.iconst 5, 1) := by decide +kernel
theorem d_M_over_62 : decode c_M_over 62 = .ok (.iconst 3, 1) := by decide +kernel
theorem d_M_over_63 : decode c_M_over 63 = .ok (.invokevirtual 166, 3) := by decide +kernel
theorem d_M_over_66 : decode c_M_over 66 = .ok (.aload_n 0, 1) := by decide +kernel
theorem d_M_over_67 : decode c_M_over 67 = .ok (.iconst 0, 1) := by decide +kernel
theorem d_M_over_68 : decode c_M_over 68 = .ok (.bipush 6, 2) := by decide +kernel
theorem d_M_over_70 : decode c_M_over 70 = .ok (.invokevirtual 70, 3) := by decide +kernel
theorem d_M_over_73 : decode c_M_over 73 = .ok (.aload_n 0, 1) := by decide +kernel
theorem d_M_over_74 : decode c_M_over 74 = .ok (.iload 6, 2) := by decide +kernel
theorem d_M_over_76 : decode c_M_over 76 = .ok (.invokevirtual 160, 3) := by decide +kernel
theorem d_M_over_79 : decode c_M_over 79 = .ok (.ireturn, 1) := by decide +kernel
theorem d_M_quotient_0 : decode c_M_quotient 0 = .ok (.aload_n 0, 1) := by decide +kernel
theorem d_M_quotient_1 : decode c_M_quotient 1 = .ok (.getfield 13, 3) := by decide +kernel
theorem d_M_quotient_4 : decode c_M_quotient 4 = .ok (.bipush 7, 2) := by decide +kernel
theorem d_M_quotient_6 : decode c_M_quotient 6 = .ok (.iconst 0, 1) := by decide +kernel
theorem d_M_quotient_7 : decode c_M_quotient 7 = .ok (.iastore, 1) := by decide +kernel
theorem d_M_quotient_8 : decode c_M_quotient 8 = .ok (.aload_n 0, 1) := by decide +kernel
theorem d_M_quotient_9 : decode c_M_quotient 9 = .ok (.getfield 13, 3) := by decide +kernel
theorem d_M_quotient_12 : decode c_M_quotient 12 = .ok (.iload_n 1, 1) := by decide +kernel
theorem d_M_quotient_13 : decode c_M_quotient 13 = .ok (.aload_n 0, 1) := by decide +kernel
theorem d_M_quotient_14 : decode c_M_quotient 14 = .ok (.getfield 13, 3) := by decide +kernel
theorem d_M_quotient_17 : decode c_M_quotient 17 = .ok (.iload_n 2, 1) := by decide +kernel
theorem d_M_quotient_18 : decode c_M_quotient 18 = .ok (.iaload, 1) := by decide +kernel
theorem d_M_quotient_19 : decode c_M_quotient 19 = .ok (.iastore, 1) := by decide +kernel
theorem d_M_quotient_20 : decode c_M_quotient 20 = .ok (.aload_n 0, 1) := by decide +kernel
theorem d_M_quotient_21 : decode c_M_quotient 21 = .ok (.getfield 13, 3) := by decide +kernel
theorem d_M_quotient_24 : decode c_M_quotient 24 = .ok (.iload_n 3, 1) := by decide +kernel
theorem d_M_quotient_25 : decode c_M_quotient 25 = .ok (.iaload, 1) := by decide +kernel
theorem d_M_quotient_26 : decode c_M_quotient 26 = .ok (.iconst 1, 1) := by decide +kernel
theorem d_M_quotient_27 : decode c_M_quotient 27 = .ok (.isub, 1) := by decide +kernel
theorem d_M_quotient_28 : decode c_M_quotient 28 = .ok (.istore 4, 2) := by decide +kernel
theorem d_M_quotient_30 : decode c_M_quotient 30 = .ok (.aload_n 0, 1) := by decide +kernel
theorem d_M_quotient_31 : decode c_M_quotient 31 = .ok (.iload_n 3, 1) := by decide +kernel
theorem d_M_quotient_32 : decode c_M_quotient 32 = .ok (.iload 4, 2) := by decide +kernel
theorem d_M_quotient_34 : decode c_M_quotient 34 = .ok (.invokevirtual 56, 3) := by decide +kernel
theorem d_M_quotient_37 : decode c_M_quotient 37 = .ok (.ldc2_w 54, 3) := by decide +kernel
theorem d_M_quotient_40 : decode c_M_quotient 40 = .ok (.ldiv, 1) := by decide +kernel
theorem d_M_quotient_41 : decode c_M_quotient 41 = .ok (.lconst 1, 1) := by decide +kernel
theorem d_M_quotient_42 : decode c_M_quotient 42 = .ok (.ladd, 1) := by decide +kernel
theorem d_M_quotient_43 : decode c_M_quotient 43 = .ok (.lstore 5, 2) := by decide +kernel
theorem d_M_quotient_45 : decode c_M_quotient 45 = .ok (.aload_n 0, 1) := by decide +kernel
theorem d_M_quotient_46 : decode c_M_quotient 46 = .ok (.getfield 13, 3) := by decide +kernel
theorem d_M_quotient_49 : decode c_M_quotient 49 = .ok (.iload_n 2, 1) := by decide +kernel
theorem d_M_quotient_50 : decode c_M_quotient 50 = .ok (.iaload, 1) := by decide +kernel
theorem d_M_quotient_51 : decode c_M_quotient 51 = .ok (.iconst 1, 1) := by decide +kernel
theorem d_M_quotient_52 : decode c_M_quotient 52 = .ok (.isub, 1) := by decide +kernel
theorem d_M_quotient_53 : decode c_M_quotient 53 = .ok (.istore 7, 2) := by decide +kernel
theorem d_M_quotient_55 : decode c_M_quotient 55 = .ok (.iload 7, 2) := by decide +kernel
theorem d_M_quotient_57 : decode c_M_quotient 57 = .ok (.ifCond .lt 112, 3) := by decide +kernel
theorem d_M_quotient_60 : decode c_M_quotient 60 = .ok (.aload_n 0, 1) := by decide +kernel
theorem d_M_quotient_61 : decode c_M_quotient 61 = .ok (.bipush 7, 2) := by decide +kernel
theorem d_M_quotient_63 : decode c_M_quotient 63 = .ok (.ldc2_w 54, 3) := by decide +kernel
theorem d_M_quotient_66 : decode c_M_quotient 66 = .ok (.aload_n 0, 1) := by decide +kernel
theorem d_M_quotient_67 : decode c_M_quotient 67 = .ok (.iload_n 2, 1) := by decide +kernel
theorem d_M_quotient_68 : decode c_M_quotient 68 = .ok (.iload 7, 2) := by decide +kernel
theorem d_M_quotient_70 : decode c_M_quotient 70 = .ok (.invokevirtual 34, 3) := by decide +kernel
theorem d_M_quotient_73 : decode c_M_quotient 73 = .ok (.i2l, 1) := by decide +kernel
theorem d_M_quotient_74 : decode c_M_quotient 74 = .ok (.invokevirtual 60, 3) := by decide +kernel
theorem d_M_quotient_77 : decode c_M_quotient 77 = .ok (.aload_n 0, 1) := by decide +kernel
theorem d_M_quotient_78 : decode c_M_quotient 78 = .ok (.bipush 7, 2) := by decide +kernel
theorem d_M_quotient_80 : decode c_M_quotient 80 = .ok (.iload 4, 2) := by decide +kernel
theorem d_M_quotient_82 : decode c_M_quotient 82 = .ok (.iconst 1, 1) := by decide +kernel
theorem d_M_quotient_83 : decode c_M_quotient 83 = .ok (.iadd, 1) := by decide +kernel
theorem d_M_quotient_84 : decode c_M_quotient 84 = .ok (.invokevirtual 56, 3) := by decide +kernel
theorem d_M_quotient_87 : decode c_M_quotient 87 = .ok (.lload 5, 2) := by decide +kernel
theorem d_M_quotient_89 : decode c_M_quotient 89 = .ok (.ldiv, 1) := by decide +kernel
theorem d_M_quotient_90 : decode c_M_quotient 90 = .ok (.lstore 8, 2) := by decide +kernel
theorem d_M_quotient_92 : decode c_M_quotient 92 = .ok (.lload 8, 2) := by decide +kernel
theorem d_M_quotient_94 : decode c_M_quotient 94 = .ok (.ldc2_w 32, 3) := by decide +kernel
theorem d_M_quotient_97 : decode c_M_quotient 97 = .ok (.lcmp, 1) := by decide +kernel
theorem d_M_quotient_98 : decode c_M_quotient 98 = .ok (.ifCond .le 9, 3) := by decide +kernel
theorem d_M_quotient_101 : decode c_M_quotient 101 = .ok (.ldc2_w 32, 3) := by decide +kernel
theorem d_M_quotient_104 : decode c_M_quotient 104 = .ok (.goto 5, 3) := by decide +kernel
theorem d_M_quotient_107 : decode c_M_quotient 107 = .ok (.lload 8, 2) := by decide +kernel
theorem d_M_quotient_109 : decode c_M_quotient 109 = .ok (.lstore 8, 2) := by decide +kernel
theorem d_M_quotient_111 : decode c_M_quotient 111 = .ok (.aload_n 0, 1) := by decide +kernel
theorem d_M_quotient_112 : decode c_M_quotient 112 = .ok (.bipush 7, 2) := by decide +kernel
theorem d_M_quotient_114 : decode c_M_quotient 114 = .ok (.iload_n 3, 1) := by decide +kernel
theorem d_M_quotient_115 : decode c_M_quotient 115 = .ok (.lload 8, 2) := by decide +kernel
theorem d_M_quotient_117 : decode c_M_quotient 117 = .ok (.invokevirtual 64, 3) := by decide +kernel
theorem d_M_quotient_120 : decode c_M_quotient 120 = .ok (.aload_n 0, 1) := by decide +kernel
theorem d_M_quotient_121 : decode c_M_quotient 121 = .ok (.bipush 7, 2) := by decide +kernel
theorem d_M_quotient_123 : decode c_M_quotient 123 = .ok (.iload_n 3, 1) := by decide +kernel
theorem d_M_quotient_124 : decode c_M_quotient 124 = .ok (.invokevirtual 67, 3) := by decide +kernel
theorem d_M_quotient_127 : decode c_M_quotient 127 = .ok (.ifCond .lt 20, 3) := by decide +kernel
theorem d_M_quotient_130 : decode c_M_quotient 130 = .ok (.aload_n 0, 1) := by decide +kernel
theorem d_M_quotient_131 : decode c_M_quotient 131 = .ok (.bipush 7, 2) := by decide +kernel
theorem d_M_quotient_133 : decode c_M_quotient 133 = .ok (.iload_n 3, 1) := by decide +kernel
theorem d_M_quotient_134 : decode c_M_quotient 134 = .ok (.lconst 1, 1) := by decide +kernel
theorem d_M_quotient_135 : decode c_M_quotient 135 = .ok (.invokevirtual 64, 3) := by decide +kernel
theorem d_M_quotient_138 : decode c_M_quotient 138 = .ok (.lload 8, 2) := by decide +kernel
theorem d_M_quotient_140 : decode c_M_quotient 140 = .ok (.lconst 1, 1) := by decide +kernel
theorem d_M_quotient_141 : decode c_M_quotient 141 = .ok (.ladd, 1) := by decide +kernel
theorem d_M_quotient_142 : decode c_M_quotient 142 = .ok (.lstore 8, 2) := by decide +kernel
theorem d_M_quotient_144 : decode c_M_quotient 144 = .ok (.goto (-24), 3) := by decide +kernel
theorem d_M_quotient_147 : decode c_M_quotient 147 = .ok (.aload_n 0, 1) := by decide +kernel
theorem d_M_quotient_148 : decode c_M_quotient 148 = .ok (.getfield 7, 3) := by decide +kernel
theorem d_M_quotient_151 : decode c_M_quotient 151 = .ok (.sipush 2800, 3) := by decide +kernel
theorem d_M_quotient_154 : decode c_M_quotient 154 = .ok (.iload_n 1, 1) := by decide +kernel
theorem d_M_quotient_155 : decode c_M_quotient 155 = .ok (.imul, 1) := by decide +kernel
theorem d_M_quotient_156 : decode c_M_quotient 156 = .ok (.iload 7, 2) := by decide +kernel
theorem d_M_quotient_158 : decode c_M_quotient 158 = .ok (.iadd, 1) := by decide +kernel
theorem d_M_quotient_159 : decode c_M_quotient 159 = .ok (.lload 8, 2) := by decide +kernel
theorem d_M_quotient_161 : decode c_M_quotient 161 = .ok (.l2i, 1) := by decide +kernel
theorem d_M_quotient_162 : decode c_M_quotient 162 = .ok (.iastore, 1) := by decide +kernel
theorem d_M_quotient_163 : decode c_M_quotient 163 = .ok (.iinc 7 (-1), 3) := by decide +kernel
theorem d_M_quotient_166 : decode c_M_quotient 166 = .ok (.goto (-111), 3) := by decide +kernel
theorem d_M_quotient_169 : decode c_M_quotient 169 = .ok (.aload_n 0, 1) := by decide +kernel
theorem d_M_quotient_170 : decode c_M_quotient 170 = .ok (.iload_n 1, 1) := by decide +kernel
theorem d_M_quotient_171 : decode c_M_quotient 171 = .ok (.invokevirtual 38, 3) := by decide +kernel
theorem d_M_quotient_174 : decode c_M_quotient 174 = .ok (.return_, 1) := by decide +kernel
theorem d_M_number_0 : decode c_M_number 0 = .ok (.aload_n 0, 1) := by decide +kernel
theorem d_M_number_1 : decode c_M_number 1 = .ok (.lload_n 1, 1) := by decide +kernel
theorem d_M_number_2 : decode c_M_number 2 = .ok (.lconst 0, 1) := by decide +kernel
theorem d_M_number_3 : decode c_M_number 3 = .ok (.lcmp, 1) := by decide +kernel
theorem d_M_number_4 : decode c_M_number 4 = .ok (.ifCond .lt 10, 3) := by decide +kernel
theorem d_M_number_7 : decode c_M_number 7 = .ok (.iload_n 3, 1) := by decide +kernel
theorem d_M_number_8 : decode c_M_number 8 = .ok (.invokestatic 124, 3) := by decide +kernel
theorem d_M_number_11 : decode c_M_number 11 = .ok (.ifCond .ne 7, 3) := by decide +kernel
theorem d_M_number_14 : decode c_M_number 14 = .ok (.iconst 1, 1) := by decide +kernel
theorem d_M_number_15 : decode c_M_number 15 = .ok (.goto 4, 3) := by decide +kernel
theorem d_M_number_18 : decode c_M_number 18 = .ok (.iconst 0, 1) := by decide +kernel
theorem d_M_number_19 : decode c_M_number 19 = .ok (.iconst 1, 1) := by decide +kernel
theorem d_M_number_20 : decode c_M_number 20 = .ok (.invokevirtual 128, 3) := by decide +kernel
theorem d_M_number_23 : decode c_M_number 23 = .ok (.ifCond .eq 5, 3) := by decide +kernel
theorem d_M_number_26 : decode c_M_number 26 = .ok (.iconst 0, 1) := by decide +kernel
theorem d_M_number_27 : decode c_M_number 27 = .ok (.ireturn, 1) := by decide +kernel
theorem d_M_number_28 : decode c_M_number 28 = .ok (.aload_n 0, 1) := by decide +kernel
theorem d_M_number_29 : decode c_M_number 29 = .ok (.iconst 0, 1) := by decide +kernel
theorem d_M_number_30 : decode c_M_number 30 = .ok (.lload_n 1, 1) := by decide +kernel
theorem d_M_number_31 : decode c_M_number 31 = .ok (.invokevirtual 83, 3) := by decide +kernel
theorem d_M_number_34 : decode c_M_number 34 = .ok (.aload_n 0, 1) := by decide +kernel
theorem d_M_number_35 : decode c_M_number 35 = .ok (.iload_n 3, 1) := by decide +kernel
theorem d_M_number_36 : decode c_M_number 36 = .ok (.invokevirtual 160, 3) := by decide +kernel
theorem d_M_number_39 : decode c_M_number 39 = .ok (.ireturn, 1) := by decide +kernel
theorem d_M_push_0 : decode c_M_push 0 = .ok (.aload_n 0, 1) := by decide +kernel
theorem d_M_push_1 : decode c_M_push 1 = .ok (.iload_n 1, 1) := by decide +kernel
theorem d_M_push_2 : decode c_M_push 2 = .ok (.ifCond .lt 11, 3) := by decide +kernel
theorem d_M_push_5 : decode c_M_push 5 = .ok (.iload_n 1, 1) := by decide +kernel
theorem d_M_push_6 : decode c_M_push 6 = .ok (.aload_n 0, 1) := by decide +kernel
theorem d_M_push_7 : decode c_M_push 7 = .ok (.getfield 16, 3) := by decide +kernel
theorem d_M_push_10 : decode c_M_push 10 = .ok (.if_icmp .lt 7, 3) := by decide +kernel
theorem d_M_push_13 : decode c_M_push 13 = .ok (.iconst 1, 1) := by decide +kernel
theorem d_M_push_14 : decode c_M_push 14 = .ok (.goto 4, 3) := by decide +kernel
theorem d_M_push_17 : decode c_M_push 17 = .ok (.iconst 0, 1) := by decide +kernel
theorem d_M_push_18 : decode c_M_push 18 = .ok (.iconst 1, 1) := by decide +kernel
theorem d_M_push_19 : decode c_M_push 19 = .ok (.invokevirtual 128, 3) := by decide +kernel
theorem d_M_push_22 : decode c_M_push 22 = .ok (.ifCond .eq 5, 3) := by decide +kernel
theorem d_M_push_25 : decode c_M_push 25 = .ok (.iconst 0, 1) := by decide +kernel
theorem d_M_push_26 : decode c_M_push 26 = .ok (.ireturn, 1) := by decide +kernel
theorem d_M_push_27 : decode c_M_push 27 = .ok (.aload_n 0, 1) := by decide +kernel
theorem d_M_push_28 : decode c_M_push 28 = .ok (.iconst 5, 1) := by decide +kernel
theorem d_M_push_29 : decode c_M_push 29 = .ok (.iconst 0, 1) := by decide +kernel
theorem d_M_push_30 : decode c_M_push 30 = .ok (.invokevirtual 70, 3) := by decide +kernel
theorem d_M_push_33 : decode c_M_push 33 = .ok (.aload_n 0, 1) := by decide +kernel
theorem d_M_push_34 : decode c_M_push 34 = .ok (.iconst 5, 1) := by decide +kernel
theorem d_M_push_35 : decode c_M_push 35 = .ok (.aload_n 0, 1) := by decide +kernel
theorem d_M_push_36 : decode c_M_push 36 = .ok (.getfield 16, 3) := by decide +kernel
theorem d_M_push_39 : decode c_M_push 39 = .ok (.i2l, 1) := by decide +kernel
theorem d_M_push_40 : decode c_M_push 40 = .ok (.iload_n 1, 1) := by decide +kernel
theorem d_M_push_41 : decode c_M_push 41 = .ok (.i2l, 1) := by decide +kernel
theorem d_M_push_42 : decode c_M_push 42 = .ok (.invokevirtual 60, 3) := by decide +kernel
theorem d_M_push_45 : decode c_M_push 45 = .ok (.aload_n 0, 1) := by decide +kernel
theorem d_M_push_46 : decode c_M_push 46 = .ok (.iconst 5, 1) := by decide +kernel
theorem d_M_push_47 : decode c_M_push 47 = .ok (.iconst 2, 1) := by decide +kernel
theorem d_M_push_48 : decode c_M_push 48 = .ok (.invokevirtual 172, 3) := by decide +kernel
theorem d_M_push_51 : decode c_M_push 51 = .ok (.ireturn, 1) := by decide +kernel
theorem d_M_become_0 : decode c_M_become 0 = .ok (.aload_n 0, 1) := by decide +kernel
theorem d_M_become_1 : decode c_M_become 1 = .ok (.aload_n 0, 1) := by decide +kernel
theorem d_M_become_2 : decode c_M_become 2 = .ok (.iload_n 1, 1) := by decide +kernel
theorem d_M_become_3 : decode c_M_become 3 = .ok (.invokevirtual 169, 3) := by decide +kernel
theorem d_M_become_6 : decode c_M_become 6 = .ok (.sipush 24000, 3) := by decide +kernel
theorem d_M_become_9 : decode c_M_become 9 = .ok (.if_icmp .le 7, 3) := by decide +kernel
theorem d_M_become_12 : decode c_M_become 12 = .ok (.iconst 1, 1) := by decide +kernel
theorem d_M_become_13 : decode c_M_become 13 = .ok (.goto 4, 3) := by decide +kernel
theorem d_M_become_16 : decode c_M_become 16 = .ok (.iconst 0, 1) := by decide +kernel
theorem d_M_become_17 : decode c_M_become 17 = .ok (.iload_n 2, 1) := by decide +kernel
theorem d_M_become_18 : decode c_M_become 18 = .ok (.invokevirtual 128, 3) := by decide +kernel
theorem d_M_become_21 : decode c_M_become 21 = .ok (.ifCond .eq 5, 3) := by decide +kernel
theorem d_M_become_24 : decode c_M_become 24 = .ok (.iconst 0, 1) := by decide +kernel
theorem d_M_become_25 : decode c_M_become 25 = .ok (.ireturn, 1) := by decide +kernel
theorem d_M_become_26 : decode c_M_become 26 = .ok (.aload_n 0, 1) := by decide +kernel
theorem d_M_become_27 : decode c_M_become 27 = .ok (.iconst 0, 1) := by decide +kernel
theorem d_M_become_28 : decode c_M_become 28 = .ok (.iload_n 1, 1) := by decide +kernel
theorem d_M_become_29 : decode c_M_become 29 = .ok (.invokevirtual 70, 3) := by decide +kernel
theorem d_M_become_32 : decode c_M_become 32 = .ok (.aload_n 0, 1) := by decide +kernel
theorem d_M_become_33 : decode c_M_become 33 = .ok (.aload_n 0, 1) := by decide +kernel
theorem d_M_become_34 : decode c_M_become 34 = .ok (.getfield 16, 3) := by decide +kernel
theorem d_M_become_37 : decode c_M_become 37 = .ok (.invokevirtual 160, 3) := by decide +kernel
theorem d_M_become_40 : decode c_M_become 40 = .ok (.ireturn, 1) := by decide +kernel
theorem d_M_length_0 : decode c_M_length 0 = .ok (.aload_n 0, 1) := by decide +kernel
theorem d_M_length_1 : decode c_M_length 1 = .ok (.getfield 13, 3) := by decide +kernel
theorem d_M_length_4 : decode c_M_length 4 = .ok (.iload_n 1, 1) := by decide +kernel
theorem d_M_length_5 : decode c_M_length 5 = .ok (.iaload, 1) := by decide +kernel
theorem d_M_length_6 : decode c_M_length 6 = .ok (.ifCond .ne 5, 3) := by decide +kernel
theorem d_M_length_9 : decode c_M_length 9 = .ok (.iconst 0, 1) := by decide +kernel
theorem d_M_length_10 : decode c_M_length 10 = .ok (.ireturn, 1) := by decide +kernel
theorem d_M_length_11 : decode c_M_length 11 = .ok (.iconst 0, 1) := by decide +kernel
theorem d_M_length_12 : decode c_M_length 12 = .ok (.istore_n 2, 1) := by decide +kernel
theorem d_M_length_13 : decode c_M_length 13 = .ok (.aload_n 0, 1) := by decide +kernel
theorem d_M_length_14 : decode c_M_length 14 = .ok (.iload_n 1, 1) := by decide +kernel
theorem d_M_length_15 : decode c_M_length 15 = .ok (.aload_n 0, 1) := by decide +kernel
theorem d_M_length_16 : decode c_M_length 16 = .ok (.getfield 13, 3) := by decide +kernel
theorem d_M_length_19 : decode c_M_length 19 = .ok (.iload_n 1, 1) := by decide +kernel
theorem d_M_length_20 : decode c_M_length 20 = .ok (.iaload, 1) := by decide +kernel
theorem d_M_length_21 : decode c_M_length 21 = .ok (.iconst 1, 1) := by decide +kernel
theorem d_M_length_22 : decode c_M_length 22 = .ok (.isub, 1) := by decide +kernel
theorem d_M_length_23 : decode c_M_length 23 = .ok (.invokevirtual 34, 3) := by decide +kernel
theorem d_M_length_26 : decode c_M_length 26 = .ok (.iload_n 2, 1) := by decide +kernel
theorem d_M_length_27 : decode c_M_length 27 = .ok (.ishr, 1) := by decide +kernel
theorem d_M_length_28 : decode c_M_length 28 = .ok (.ifCond .le 9, 3) := by decide +kernel
theorem d_M_length_31 : decode c_M_length 31 = .ok (.iinc 2 1, 3) := by decide +kernel
theorem d_M_length_34 : decode c_M_length 34 = .ok (.goto (-21), 3) := by decide +kernel
theorem d_M_length_37 : decode c_M_length 37 = .ok (.bipush 15, 2) := by decide +kernel
theorem d_M_length_39 : decode c_M_length 39 = .ok (.aload_n 0, 1) := by decide +kernel
theorem d_M_length_40 : decode c_M_length 40 = .ok (.getfield 13, 3) := by decide +kernel
theorem d_M_length_43 : decode c_M_length 43 = .ok (.iload_n 1, 1) := by decide +kernel
theorem d_M_length_44 : decode c_M_length 44 = .ok (.iaload, 1) := by decide +kernel
theorem d_M_length_45 : decode c_M_length 45 = .ok (.iconst 1, 1) := by decide +kernel
theorem d_M_length_46 : decode c_M_length 46 = .ok (.isub, 1) := by decide +kernel
theorem d_M_length_47 : decode c_M_length 47 = .ok (.imul, 1) := by decide +kernel
theorem d_M_length_48 : decode c_M_length 48 = .ok (.iload_n 2, 1) := by decide +kernel
theorem d_M_length_49 : decode c_M_length 49 = .ok (.iadd, 1) := by decide +kernel
theorem d_M_length_50 : decode c_M_length 50 = .ok (.ireturn, 1) := by decide +kernel
theorem d_M_keep_0 : decode c_M_keep 0 = .ok (.aload_n 0, 1) := by decide +kernel
theorem d_M_keep_1 : decode c_M_keep 1 = .ok (.iconst 0, 1) := by decide +kernel
theorem d_M_keep_2 : decode c_M_keep 2 = .ok (.putfield 29, 3) := by decide +kernel
theorem d_M_keep_5 : decode c_M_keep 5 = .ok (.aload_n 0, 1) := by decide +kernel
theorem d_M_keep_6 : decode c_M_keep 6 = .ok (.iconst 1, 1) := by decide +kernel
theorem d_M_keep_7 : decode c_M_keep 7 = .ok (.iconst 0, 1) := by decide +kernel
theorem d_M_keep_8 : decode c_M_keep 8 = .ok (.invokevirtual 70, 3) := by decide +kernel
theorem d_M_keep_11 : decode c_M_keep 11 = .ok (.aload_n 0, 1) := by decide +kernel
theorem d_M_keep_12 : decode c_M_keep 12 = .ok (.aload_n 0, 1) := by decide +kernel
theorem d_M_keep_13 : decode c_M_keep 13 = .ok (.getfield 16, 3) := by decide +kernel
theorem d_M_keep_16 : decode c_M_keep 16 = .ok (.putfield 20, 3) := by decide +kernel
theorem d_M_keep_19 : decode c_M_keep 19 = .ok (.return_, 1) := by decide +kernel
theorem d_M_swap_0 : decode c_M_swap 0 = .ok (.aload_n 0, 1) := by decide +kernel
theorem d_M_swap_1 : decode c_M_swap 1 = .ok (.iconst 0, 1) := by decide +kernel
theorem d_M_swap_2 : decode c_M_swap 2 = .ok (.putfield 29, 3) := by decide +kernel
theorem d_M_swap_5 : decode c_M_swap 5 = .ok (.aload_n 0, 1) := by decide +kernel
theorem d_M_swap_6 : decode c_M_swap 6 = .ok (.iconst 5, 1) := by decide +kernel
theorem d_M_swap_7 : decode c_M_swap 7 = .ok (.iconst 0, 1) := by decide +kernel
theorem d_M_swap_8 : decode c_M_swap 8 = .ok (.invokevirtual 70, 3) := by decide +kernel
theorem d_M_swap_11 : decode c_M_swap 11 = .ok (.aload_n 0, 1) := by decide +kernel
theorem d_M_swap_12 : decode c_M_swap 12 = .ok (.iconst 0, 1) := by decide +kernel
theorem d_M_swap_13 : decode c_M_swap 13 = .ok (.iconst 1, 1) := by decide +kernel
theorem d_M_swap_14 : decode c_M_swap 14 = .ok (.invokevirtual 70, 3) := by decide +kernel
theorem d_M_swap_17 : decode c_M_swap 17 = .ok (.aload_n 0, 1) := by decide +kernel
theorem d_M_swap_18 : decode c_M_swap 18 = .ok (.iconst 1, 1) := by decide +kernel
theorem d_M_swap_19 : decode c_M_swap 19 = .ok (.iconst 5, 1) := by decide +kernel
theorem d_M_swap_20 : decode c_M_swap 20 = .ok (.invokevirtual 70, 3) := by decide +kernel
theorem d_M_swap_23 : decode c_M_swap 23 = .ok (.aload_n 0, 1) := by decide +kernel
theorem d_M_swap_24 : decode c_M_swap 24 = .ok (.getfield 16, 3) := by decide +kernel
theorem d_M_swap_27 : decode c_M_swap 27 = .ok (.istore_n 1, 1) := by decide +kernel
theorem d_M_swap_28 : decode c_M_swap 28 = .ok (.aload_n 0, 1) := by decide +kernel
theorem d_M_swap_29 : decode c_M_swap 29 = .ok (.aload_n 0, 1) := by decide +kernel
theorem d_M_swap_30 : decode c_M_swap 30 = .ok (.getfield 20, 3) := by decide +kernel
theorem d_M_swap_33 : decode c_M_swap 33 = .ok (.putfield 16, 3) := by decide +kernel
theorem d_M_swap_36 : decode c_M_swap 36 = .ok (.aload_n 0, 1) := by decide +kernel
theorem d_M_swap_37 : decode c_M_swap 37 = .ok (.iload_n 1, 1) := by decide +kernel
theorem d_M_swap_38 : decode c_M_swap 38 = .ok (.putfield 20, 3) := by decide +kernel
theorem d_M_swap_41 : decode c_M_swap 41 = .ok (.aload_n 0, 1) := by decide +kernel
theorem d_M_swap_42 : decode c_M_swap 42 = .ok (.aload_n 0, 1) := by decide +kernel
theorem d_M_swap_43 : decode c_M_swap 43 = .ok (.getfield 16, 3) := by decide +kernel
theorem d_M_swap_46 : decode c_M_swap 46 = .ok (.invokevirtual 160, 3) := by decide +kernel
theorem d_M_swap_49 : decode c_M_swap 49 = .ok (.ireturn, 1) := by decide +kernel
theorem d_M_add_0 : decode c_M_add 0 = .ok (.aload_n 0, 1) := by decide +kernel
theorem d_M_add_1 : decode c_M_add 1 = .ok (.iconst 5, 1) := by decide +kernel
theorem d_M_add_2 : decode c_M_add 2 = .ok (.iconst 0, 1) := by decide +kernel
theorem d_M_add_3 : decode c_M_add 3 = .ok (.invokevirtual 70, 3) := by decide +kernel
theorem d_M_add_6 : decode c_M_add 6 = .ok (.aload_n 0, 1) := by decide +kernel
theorem d_M_add_7 : decode c_M_add 7 = .ok (.iconst 5, 1) := by decide +kernel
theorem d_M_add_8 : decode c_M_add 8 = .ok (.iconst 1, 1) := by decide +kernel
theorem d_M_add_9 : decode c_M_add 9 = .ok (.lconst 1, 1) := by decide +kernel
theorem d_M_add_10 : decode c_M_add 10 = .ok (.invokevirtual 50, 3) := by decide +kernel
theorem d_M_add_13 : decode c_M_add 13 = .ok (.aload_n 0, 1) := by decide +kernel
theorem d_M_add_14 : decode c_M_add 14 = .ok (.iconst 5, 1) := by decide +kernel
theorem d_M_add_15 : decode c_M_add 15 = .ok (.iconst 1, 1) := by decide +kernel
theorem d_M_add_16 : decode c_M_add 16 = .ok (.invokevirtual 172, 3) := by decide +kernel
theorem d_M_add_19 : decode c_M_add 19 = .ok (.ireturn, 1) := by decide +kernel
theorem d_M_subtract_0 : decode c_M_subtract 0 = .ok (.aload_n 0, 1) := by decide +kernel
theorem d_M_subtract_1 : decode c_M_subtract 1 = .ok (.aload_n 0, 1) := by decide +kernel
theorem d_M_subtract_2 : decode c_M_subtract 2 = .ok (.iconst 0, 1) := by decide +kernel
theorem d_M_subtract_3 : decode c_M_subtract 3 = .ok (.iconst 1, 1) := by decide +kernel
theorem d_M_subtract_4 : decode c_M_subtract 4 = .ok (.invokevirtual 67, 3) := by decide +kernel
theorem d_M_subtract_7 : decode c_M_subtract 7 = .ok (.ifCond .ge 7, 3) := by decide +kernel
theorem d_M_subtract_10 : decode c_M_subtract 10 = .ok (.iconst 1, 1) := by decide +kernel
theorem d_M_subtract_11 : decode c_M_subtract 11 = .ok (.goto 4, 3) := by decide +kernel
theorem d_M_subtract_14 : decode c_M_subtract 14 = .ok (.iconst 0, 1) := by decide +kernel
theorem d_M_subtract_15 : decode c_M_subtract 15 = .ok (.iconst 1, 1) := by decide +kernel
theorem d_M_subtract_16 : decode c_M_subtract 16 = .ok (.invokevirtual 128, 3) := by decide +kernel
theorem d_M_subtract_19 : decode c_M_subtract 19 = .ok (.ifCond .eq 5, 3) := by decide +kernel
theorem d_M_subtract_22 : decode c_M_subtract 22 = .ok (.iconst 0, 1) := by decide +kernel
theorem d_M_subtract_23 : decode c_M_subtract 23 = .ok (.ireturn, 1) := by decide +kernel
theorem d_M_subtract_24 : decode c_M_subtract 24 = .ok (.aload_n 0, 1) := by decide +kernel
theorem d_M_subtract_25 : decode c_M_subtract 25 = .ok (.iconst 0, 1) := by decide +kernel
theorem d_M_subtract_26 : decode c_M_subtract 26 = .ok (.iconst 1, 1) := by decide +kernel
theorem d_M_subtract_27 : decode c_M_subtract 27 = .ok (.lconst 1, 1) := by decide +kernel
theorem d_M_subtract_28 : decode c_M_subtract 28 = .ok (.invokevirtual 64, 3) := by decide +kernel
theorem d_M_subtract_31 : decode c_M_subtract 31 = .ok (.aload_n 0, 1) := by decide +kernel
theorem d_M_subtract_32 : decode c_M_subtract 32 = .ok (.aload_n 0, 1) := by decide +kernel
theorem d_M_subtract_33 : decode c_M_subtract 33 = .ok (.getfield 16, 3) := by decide +kernel
theorem d_M_subtract_36 : decode c_M_subtract 36 = .ok (.invokevirtual 160, 3) := by decide +kernel
theorem d_M_subtract_39 : decode c_M_subtract 39 = .ok (.ireturn, 1) := by decide +kernel
theorem d_M_times_0 : decode c_M_times 0 = .ok (.aload_n 0, 1) := by decide +kernel
theorem d_M_times_1 : decode c_M_times 1 = .ok (.aload_n 0, 1) := by decide +kernel
theorem d_M_times_2 : decode c_M_times 2 = .ok (.iconst 0, 1) := by decide +kernel
theorem d_M_times_3 : decode c_M_times 3 = .ok (.invokevirtual 169, 3) := by decide +kernel
theorem d_M_times_6 : decode c_M_times 6 = .ok (.aload_n 0, 1) := by decide +kernel
theorem d_M_times_7 : decode c_M_times 7 = .ok (.iconst 1, 1) := by decide +kernel
theorem d_M_times_8 : decode c_M_times 8 = .ok (.invokevirtual 169, 3) := by decide +kernel
theorem d_M_times_11 : decode c_M_times 11 = .ok (.iadd, 1) := by decide +kernel
theorem d_M_times_12 : decode c_M_times 12 = .ok (.iconst 1, 1) := by decide +kernel
theorem d_M_times_13 : decode c_M_times 13 = .ok (.isub, 1) := by decide +kernel
theorem d_M_times_14 : decode c_M_times 14 = .ok (.sipush 24000, 3) := by decide +kernel
theorem d_M_times_17 : decode c_M_times 17 = .ok (.if_icmp .le 7, 3) := by decide +kernel
theorem d_M_times_20 : decode c_M_times 20 = .ok (.iconst 1, 1) := by decide +kernel
theorem d_M_times_21 : decode c_M_times 21 = .ok (.goto 4, 3) := by decide +kernel
theorem d_M_times_24 : decode c_M_times 24 = .ok (.iconst 0, 1) := by decide +kernel
theorem d_M_times_25 : decode c_M_times 25 = .ok (.iconst 1, 1) := by decide +kernel
theorem d_M_times_26 : decode c_M_times 26 = .ok (.invokevirtual 128, 3) := by decide +kernel
theorem d_M_times_29 : decode c_M_times 29 = .ok (.ifCond .eq 5, 3) := by decide +kernel
theorem d_M_times_32 : decode c_M_times 32 = .ok (.iconst 0, 1) := by decide +kernel
theorem d_M_times_33 : decode c_M_times 33 = .ok (.ireturn, 1) := by decide +kernel
theorem d_M_times_34 : decode c_M_times 34 = .ok (.aload_n 0, 1) := by decide +kernel
theorem d_M_times_35 : decode c_M_times 35 = .ok (.iconst 5, 1) := by decide +kernel
theorem d_M_times_36 : decode c_M_times 36 = .ok (.iconst 0, 1) := by decide +kernel
theorem d_M_times_37 : decode c_M_times 37 = .ok (.iconst 1, 1) := by decide +kernel
theorem d_M_times_38 : decode c_M_times 38 = .ok (.invokevirtual 163, 3) := by decide +kernel
theorem d_M_times_41 : decode c_M_times 41 = .ok (.aload_n 0, 1) := by decide +kernel
theorem d_M_times_42 : decode c_M_times 42 = .ok (.iconst 5, 1) := by decide +kernel
theorem d_M_times_43 : decode c_M_times 43 = .ok (.iconst 1, 1) := by decide +kernel
theorem d_M_times_44 : decode c_M_times 44 = .ok (.invokevirtual 172, 3) := by decide +kernel
theorem d_M_times_47 : decode c_M_times 47 = .ok (.ireturn, 1) := by decide +kernel
theorem d_M_divide_0 : decode c_M_divide 0 = .ok (.aload_n 0, 1) := by decide +kernel
theorem d_M_divide_1 : decode c_M_divide 1 = .ok (.aload_n 0, 1) := by decide +kernel
theorem d_M_divide_2 : decode c_M_divide 2 = .ok (.getfield 13, 3) := by decide +kernel
theorem d_M_divide_5 : decode c_M_divide 5 = .ok (.iconst 1, 1) := by decide +kernel
theorem d_M_divide_6 : decode c_M_divide 6 = .ok (.iaload, 1) := by decide +kernel
theorem d_M_divide_7 : decode c_M_divide 7 = .ok (.ifCond .ne 7, 3) := by decide +kernel
theorem d_M_divide_10 : decode c_M_divide 10 = .ok (.iconst 1, 1) := by decide +kernel
theorem d_M_divide_11 : decode c_M_divide 11 = .ok (.goto 4, 3) := by decide +kernel
theorem d_M_divide_14 : decode c_M_divide 14 = .ok (.iconst 0, 1) := by decide +kernel
theorem d_M_divide_15 : decode c_M_divide 15 = .ok (.iconst 1, 1) := by decide +kernel
theorem d_M_divide_16 : decode c_M_divide 16 = .ok (.invokevirtual 128, 3) := by decide +kernel
theorem d_M_divide_19 : decode c_M_divide 19 = .ok (.ifCond .eq 5, 3) := by decide +kernel
theorem d_M_divide_22 : decode c_M_divide 22 = .ok (.iconst 0, 1) := by decide +kernel
theorem d_M_divide_23 : decode c_M_divide 23 = .ok (.ireturn, 1) := by decide +kernel
theorem d_M_divide_24 : decode c_M_divide 24 = .ok (.aload_n 0, 1) := by decide +kernel
theorem d_M_divide_25 : decode c_M_divide 25 = .ok (.iconst 5, 1) := by decide +kernel
theorem d_M_divide_26 : decode c_M_divide 26 = .ok (.iconst 0, 1) := by decide +kernel
theorem d_M_divide_27 : decode c_M_divide 27 = .ok (.iconst 1, 1) := by decide +kernel
theorem d_M_divide_28 : decode c_M_divide 28 = .ok (.invokevirtual 166, 3) := by decide +kernel
theorem d_M_divide_31 : decode c_M_divide 31 = .ok (.aload_n 0, 1) := by decide +kernel
theorem d_M_divide_32 : decode c_M_divide 32 = .ok (.iconst 0, 1) := by decide +kernel
theorem d_M_divide_33 : decode c_M_divide 33 = .ok (.iconst 5, 1) := by decide +kernel
theorem d_M_divide_34 : decode c_M_divide 34 = .ok (.invokevirtual 70, 3) := by decide +kernel
theorem d_M_divide_37 : decode c_M_divide 37 = .ok (.aload_n 0, 1) := by decide +kernel
theorem d_M_divide_38 : decode c_M_divide 38 = .ok (.iconst 1, 1) := by decide +kernel
theorem d_M_divide_39 : decode c_M_divide 39 = .ok (.bipush 7, 2) := by decide +kernel
theorem d_M_divide_41 : decode c_M_divide 41 = .ok (.invokevirtual 70, 3) := by decide +kernel
theorem d_M_divide_44 : decode c_M_divide 44 = .ok (.aload_n 0, 1) := by decide +kernel
theorem d_M_divide_45 : decode c_M_divide 45 = .ok (.aload_n 0, 1) := by decide +kernel
theorem d_M_divide_46 : decode c_M_divide 46 = .ok (.getfield 16, 3) := by decide +kernel
theorem d_M_divide_49 : decode c_M_divide 49 = .ok (.invokevirtual 160, 3) := by decide +kernel
theorem d_M_divide_52 : decode c_M_divide 52 = .ok (.ireturn, 1) := by decide +kernel
theorem d_M_rooted_0 : decode c_M_rooted 0 = .ok (.aload_n 0, 1) := by decide +kernel
theorem d_M_rooted_1 : decode c_M_rooted 1 = .ok (.iconst 0, 1) := by decide +kernel
theorem d_M_rooted_2 : decode c_M_rooted 2 = .ok (.putfield 29, 3) := by decide +kernel
theorem d_M_rooted_5 : decode c_M_rooted 5 = .ok (.aload_n 0, 1) := by decide +kernel
theorem d_M_rooted_6 : decode c_M_rooted 6 = .ok (.iconst 5, 1) := by decide +kernel
theorem d_M_rooted_7 : decode c_M_rooted 7 = .ok (.iconst 0, 1) := by decide +kernel
theorem d_M_rooted_8 : decode c_M_rooted 8 = .ok (.invokevirtual 121, 3) := by decide +kernel
theorem d_M_rooted_11 : decode c_M_rooted 11 = .ok (.aload_n 0, 1) := by decide +kernel
theorem d_M_rooted_12 : decode c_M_rooted 12 = .ok (.iconst 0, 1) := by decide +kernel
theorem d_M_rooted_13 : decode c_M_rooted 13 = .ok (.iconst 5, 1) := by decide +kernel
theorem d_M_rooted_14 : decode c_M_rooted 14 = .ok (.invokevirtual 70, 3) := by decide +kernel
theorem d_M_rooted_17 : decode c_M_rooted 17 = .ok (.aload_n 0, 1) := by decide +kernel
theorem d_M_rooted_18 : decode c_M_rooted 18 = .ok (.aload_n 0, 1) := by decide +kernel
theorem d_M_rooted_19 : decode c_M_rooted 19 = .ok (.getfield 16, 3) := by decide +kernel
theorem d_M_rooted_22 : decode c_M_rooted 22 = .ok (.invokevirtual 160, 3) := by decide +kernel
theorem d_M_rooted_25 : decode c_M_rooted 25 = .ok (.ireturn, 1) := by decide +kernel
theorem d_M_convert_0 : decode c_M_convert 0 = .ok (.aload_n 0, 1) := by decide +kernel
theorem d_M_convert_1 : decode c_M_convert 1 = .ok (.iload_n 1, 1) := by decide +kernel
theorem d_M_convert_2 : decode c_M_convert 2 = .ok (.invokestatic 124, 3) := by decide +kernel
theorem d_M_convert_5 : decode c_M_convert 5 = .ok (.ifCond .ne 7, 3) := by decide +kernel
theorem d_M_convert_8 : decode c_M_convert 8 = .ok (.iconst 1, 1) := by decide +kernel
theorem d_M_convert_9 : decode c_M_convert 9 = .ok (.goto 4, 3) := by decide +kernel
theorem d_M_convert_12 : decode c_M_convert 12 = .ok (.iconst 0, 1) := by decide +kernel
theorem d_M_convert_13 : decode c_M_convert 13 = .ok (.iconst 1, 1) := by decide +kernel
theorem d_M_convert_14 : decode c_M_convert 14 = .ok (.invokevirtual 128, 3) := by decide +kernel
theorem d_M_convert_17 : decode c_M_convert 17 = .ok (.ifCond .eq 5, 3) := by decide +kernel
theorem d_M_convert_20 : decode c_M_convert 20 = .ok (.iconst 0, 1) := by decide +kernel
theorem d_M_convert_21 : decode c_M_convert 21 = .ok (.ireturn, 1) := by decide +kernel
theorem d_M_convert_22 : decode c_M_convert 22 = .ok (.aload_n 0, 1) := by decide +kernel
theorem d_M_convert_23 : decode c_M_convert 23 = .ok (.iload_n 1, 1) := by decide +kernel
theorem d_M_convert_24 : decode c_M_convert 24 = .ok (.invokevirtual 160, 3) := by decide +kernel
theorem d_M_convert_27 : decode c_M_convert 27 = .ok (.ireturn, 1) := by decide +kernel
theorem d_M_digit_0 : decode c_M_digit 0 = .ok (.aload_n 0, 1) := by decide +kernel
theorem d_M_digit_1 : decode c_M_digit 1 = .ok (.iload_n 1, 1) := by decide +kernel
theorem d_M_digit_2 : decode c_M_digit 2 = .ok (.ifCond .lt 11, 3) := by decide +kernel
theorem d_M_digit_5 : decode c_M_digit 5 = .ok (.iload_n 1, 1) := by decide +kernel
theorem d_M_digit_6 : decode c_M_digit 6 = .ok (.aload_n 0, 1) := by decide +kernel
theorem d_M_digit_7 : decode c_M_digit 7 = .ok (.invokevirtual 140, 3) := by decide +kernel
theorem d_M_digit_10 : decode c_M_digit 10 = .ok (.if_icmp .lt 7, 3) := by decide +kernel
theorem d_M_digit_13 : decode c_M_digit 13 = .ok (.iconst 1, 1) := by decide +kernel
theorem d_M_digit_14 : decode c_M_digit 14 = .ok (.goto 4, 3) := by decide +kernel
theorem d_M_digit_17 : decode c_M_digit 17 = .ok (.iconst 0, 1) := by decide +kernel
theorem d_M_digit_18 : decode c_M_digit 18 = .ok (.iconst 1, 1) := by decide +kernel
theorem d_M_digit_19 : decode c_M_digit 19 = .ok (.invokevirtual 128, 3) := by decide +kernel
theorem d_M_digit_22 : decode c_M_digit 22 = .ok (.ifCond .eq 5, 3) := by decide +kernel
theorem d_M_digit_25 : decode c_M_digit 25 = .ok (.iconst 0, 1) := by decide +kernel
theorem d_M_digit_26 : decode c_M_digit 26 = .ok (.ireturn, 1) := by decide +kernel
theorem d_M_digit_27 : decode c_M_digit 27 = .ok (.aload_n 0, 1) := by decide +kernel
theorem d_M_digit_28 : decode c_M_digit 28 = .ok (.getfield 23, 3) := by decide +kernel
theorem d_M_digit_31 : decode c_M_digit 31 = .ok (.iload_n 1, 1) := by decide +kernel
theorem d_M_digit_32 : decode c_M_digit 32 = .ok (.iaload, 1) := by decide +kernel
theorem d_M_digit_33 : decode c_M_digit 33 = .ok (.ireturn, 1) := by decide +kernel
theorem d_M_about_0 : decode c_M_about 0 = .ok (.aload_n 0, 1) := by decide +kernel
theorem d_M_about_1 : decode c_M_about 1 = .ok (.iload_n 1, 1) := by decide +kernel
theorem d_M_about_2 : decode c_M_about 2 = .ok (.ifCond .lt 8, 3) := by decide +kernel
theorem d_M_about_5 : decode c_M_about 5 = .ok (.iload_n 1, 1) := by decide +kernel
theorem d_M_about_6 : decode c_M_about 6 = .ok (.iconst 3, 1) := by decide +kernel
theorem d_M_about_7 : decode c_M_about 7 = .ok (.if_icmp .le 7, 3) := by decide +kernel
theorem d_M_about_10 : decode c_M_about 10 = .ok (.iconst 1, 1) := by decide +kernel
theorem d_M_about_11 : decode c_M_about 11 = .ok (.goto 4, 3) := by decide +kernel
theorem d_M_about_14 : decode c_M_about 14 = .ok (.iconst 0, 1) := by decide +kernel
theorem d_M_about_15 : decode c_M_about 15 = .ok (.iconst 1, 1) := by decide +kernel
theorem d_M_about_16 : decode c_M_about 16 = .ok (.invokevirtual 128, 3) := by decide +kernel
theorem d_M_about_19 : decode c_M_about 19 = .ok (.ifCond .eq 5, 3) := by decide +kernel
theorem d_M_about_22 : decode c_M_about 22 = .ok (.iconst 0, 1) := by decide +kernel
theorem d_M_about_23 : decode c_M_about 23 = .ok (.ireturn, 1) := by decide +kernel
theorem d_M_about_24 : decode c_M_about 24 = .ok (.iload_n 1, 1) := by decide +kernel
theorem d_M_about_25 : decode c_M_about 25 = .ok (.iconst 1, 1) := by decide +kernel
theorem d_M_about_26 : decode c_M_about 26 = .ok (.if_icmp .ne 9, 3) := by decide +kernel
theorem d_M_about_29 : decode c_M_about 29 = .ok (.aload_n 0, 1) := by decide +kernel
theorem d_M_about_30 : decode c_M_about 30 = .ok (.iconst 0, 1) := by decide +kernel
theorem d_M_about_31 : decode c_M_about 31 = .ok (.invokevirtual 169, 3) := by decide +kernel
theorem d_M_about_34 : decode c_M_about 34 = .ok (.ireturn, 1) := by decide +kernel
theorem d_M_about_35 : decode c_M_about 35 = .ok (.iload_n 1, 1) := by decide +kernel
theorem d_M_about_36 : decode c_M_about 36 = .ok (.iconst 2, 1) := by decide +kernel
theorem d_M_about_37 : decode c_M_about 37 = .ok (.if_icmp .ne 8, 3) := by decide +kernel
theorem d_M_about_40 : decode c_M_about 40 = .ok (.aload_n 0, 1) := by decide +kernel
theorem d_M_about_41 : decode c_M_about 41 = .ok (.getfield 16, 3) := by decide +kernel
theorem d_M_about_44 : decode c_M_about 44 = .ok (.ireturn, 1) := by decide +kernel
theorem d_M_about_45 : decode c_M_about 45 = .ok (.iconst 0, 1) := by decide +kernel
theorem d_M_about_46 : decode c_M_about 46 = .ok (.istore_n 2, 1) := by decide +kernel
theorem d_M_about_47 : decode c_M_about 47 = .ok (.iconst 0, 1) := by decide +kernel
theorem d_M_about_48 : decode c_M_about 48 = .ok (.istore_n 3, 1) := by decide +kernel
theorem d_M_about_49 : decode c_M_about 49 = .ok (.iload_n 3, 1) := by decide +kernel
theorem d_M_about_50 : decode c_M_about 50 = .ok (.aload_n 0, 1) := by decide +kernel
theorem d_M_about_51 : decode c_M_about 51 = .ok (.invokevirtual 140, 3) := by decide +kernel
theorem d_M_about_54 : decode c_M_about 54 = .ok (.if_icmp .ge 18, 3) := by decide +kernel
theorem d_M_about_57 : decode c_M_about 57 = .ok (.iload_n 2, 1) := by decide +kernel
theorem d_M_about_58 : decode c_M_about 58 = .ok (.aload_n 0, 1) := by decide +kernel
theorem d_M_about_59 : decode c_M_about 59 = .ok (.getfield 23, 3) := by decide +kernel
theorem d_M_about_62 : decode c_M_about 62 = .ok (.iload_n 3, 1) := by decide +kernel
theorem d_M_about_63 : decode c_M_about 63 = .ok (.iaload, 1) := by decide +kernel
theorem d_M_about_64 : decode c_M_about 64 = .ok (.iadd, 1) := by decide +kernel
theorem d_M_about_65 : decode c_M_about 65 = .ok (.istore_n 2, 1) := by decide +kernel
theorem d_M_about_66 : decode c_M_about 66 = .ok (.iinc 3 1, 3) := by decide +kernel
theorem d_M_about_69 : decode c_M_about 69 = .ok (.goto (-20), 3) := by decide +kernel
theorem d_M_about_72 : decode c_M_about 72 = .ok (.iload_n 1, 1) := by decide +kernel
theorem d_M_about_73 : decode c_M_about 73 = .ok (.ifCond .ne 10, 3) := by decide +kernel
theorem d_M_about_76 : decode c_M_about 76 = .ok (.aload_n 0, 1) := by decide +kernel
theorem d_M_about_77 : decode c_M_about 77 = .ok (.getfield 146, 3) := by decide +kernel
theorem d_M_about_80 : decode c_M_about 80 = .ok (.goto 4, 3) := by decide +kernel
theorem d_M_about_83 : decode c_M_about 83 = .ok (.iload_n 2, 1) := by decide +kernel
theorem d_M_about_84 : decode c_M_about 84 = .ok (.ireturn, 1) := by decide +kernel
theorem d_M_count_0 : decode c_M_count 0 = .ok (.aload_n 0, 1) := by decide +kernel
theorem d_M_count_1 : decode c_M_count 1 = .ok (.iload_n 2, 1) := by decide +kernel
theorem d_M_count_2 : decode c_M_count 2 = .ok (.ifCond .lt 11, 3) := by decide +kernel
theorem d_M_count_5 : decode c_M_count 5 = .ok (.iload_n 3, 1) := by decide +kernel
theorem d_M_count_6 : decode c_M_count 6 = .ok (.aload_n 0, 1) := by decide +kernel
theorem d_M_count_7 : decode c_M_count 7 = .ok (.invokevirtual 140, 3) := by decide +kernel
theorem d_M_count_10 : decode c_M_count 10 = .ok (.if_icmp .lt 7, 3) := by decide +kernel
theorem d_M_count_13 : decode c_M_count 13 = .ok (.iconst 1, 1) := by decide +kernel
theorem d_M_count_14 : decode c_M_count 14 = .ok (.goto 4, 3) := by decide +kernel
theorem d_M_count_17 : decode c_M_count 17 = .ok (.iconst 0, 1) := by decide +kernel
theorem d_M_count_18 : decode c_M_count 18 = .ok (.iconst 1, 1) := by decide +kernel
theorem d_M_count_19 : decode c_M_count 19 = .ok (.invokevirtual 128, 3) := by decide +kernel
theorem d_M_count_22 : decode c_M_count 22 = .ok (.ifCond .eq 5, 3) := by decide +kernel
theorem d_M_count_25 : decode c_M_count 25 = .ok (.iconst 0, 1) := by decide +kernel
theorem d_M_count_26 : decode c_M_count 26 = .ok (.ireturn, 1) := by decide +kernel
theorem d_M_count_27 : decode c_M_count 27 = .ok (.iconst 0, 1) := by decide +kernel
theorem d_M_count_28 : decode c_M_count 28 = .ok (.istore 4, 2) := by decide +kernel
theorem d_M_count_30 : decode c_M_count 30 = .ok (.iload_n 2, 1) := by decide +kernel
theorem d_M_count_31 : decode c_M_count 31 = .ok (.istore 5, 2) := by decide +kernel
theorem d_M_count_33 : decode c_M_count 33 = .ok (.iload 5, 2) := by decide +kernel
theorem d_M_count_35 : decode c_M_count 35 = .ok (.iload_n 3, 1) := by decide +kernel
theorem d_M_count_36 : decode c_M_count 36 = .ok (.if_icmp .gt 30, 3) := by decide +kernel
theorem d_M_count_39 : decode c_M_count 39 = .ok (.iload 4, 2) := by decide +kernel
theorem d_M_count_41 : decode c_M_count 41 = .ok (.aload_n 0, 1) := by decide +kernel
theorem d_M_count_42 : decode c_M_count 42 = .ok (.getfield 23, 3) := by decide +kernel
theorem d_M_count_45 : decode c_M_count 45 = .ok (.iload 5, 2) := by decide +kernel
theorem d_M_count_47 : decode c_M_count 47 = .ok (.iaload, 1) := by decide +kernel
theorem d_M_count_48 : decode c_M_count 48 = .ok (.iload_n 1, 1) := by decide +kernel
theorem d_M_count_49 : decode c_M_count 49 = .ok (.if_icmp .ne 7, 3) := by decide +kernel
theorem d_M_count_52 : decode c_M_count 52 = .ok (.iconst 1, 1) := by decide +kernel
theorem d_M_count_53 : decode c_M_count 53 = .ok (.goto 4, 3) := by decide +kernel
theorem d_M_count_56 : decode c_M_count 56 = .ok (.iconst 0, 1) := by decide +kernel
theorem d_M_count_57 : decode c_M_count 57 = .ok (.iadd, 1) := by decide +kernel
theorem d_M_count_58 : decode c_M_count 58 = .ok (.istore 4, 2) := by decide +kernel
theorem d_M_count_60 : decode c_M_count 60 = .ok (.iinc 5 1, 3) := by decide +kernel
theorem d_M_count_63 : decode c_M_count 63 = .ok (.goto (-30), 3) := by decide +kernel
theorem d_M_count_66 : decode c_M_count 66 = .ok (.iload 4, 2) := by decide +kernel
theorem d_M_count_68 : decode c_M_count 68 = .ok (.ireturn, 1) := by decide +kernel
theorem d_M_find_0 : decode c_M_find 0 = .ok (.iload_n 3, 1) := by decide +kernel
theorem d_M_find_1 : decode c_M_find 1 = .ok (.iconst 1, 1) := by decide +kernel
theorem d_M_find_2 : decode c_M_find 2 = .ok (.if_icmp .lt 20, 3) := by decide +kernel
theorem d_M_find_5 : decode c_M_find 5 = .ok (.iload_n 3, 1) := by decide +kernel
theorem d_M_find_6 : decode c_M_find 6 = .ok (.bipush 12, 2) := by decide +kernel
theorem d_M_find_8 : decode c_M_find 8 = .ok (.if_icmp .gt 14, 3) := by decide +kernel
theorem d_M_find_11 : decode c_M_find 11 = .ok (.lload_n 1, 1) := by decide +kernel
theorem d_M_find_12 : decode c_M_find 12 = .ok (.lconst 0, 1) := by decide +kernel
theorem d_M_find_13 : decode c_M_find 13 = .ok (.lcmp, 1) := by decide +kernel
theorem d_M_find_14 : decode c_M_find 14 = .ok (.ifCond .lt 8, 3) := by decide +kernel
theorem d_M_find_17 : decode c_M_find 17 = .ok (.iload 4, 2) := by decide +kernel
theorem d_M_find_19 : decode c_M_find 19 = .ok (.ifCond .ge 7, 3) := by decide +kernel
theorem d_M_find_22 : decode c_M_find 22 = .ok (.iconst 1, 1) := by decide +kernel
theorem d_M_find_23 : decode c_M_find 23 = .ok (.goto 4, 3) := by decide +kernel
theorem d_M_find_26 : decode c_M_find 26 = .ok (.iconst 0, 1) := by decide +kernel
theorem d_M_find_27 : decode c_M_find 27 = .ok (.istore 5, 2) := by decide +kernel
theorem d_M_find_29 : decode c_M_find 29 = .ok (.iload 5, 2) := by decide +kernel
theorem d_M_find_31 : decode c_M_find 31 = .ok (.ifCond .eq 7, 3) := by decide +kernel
theorem d_M_find_34 : decode c_M_find 34 = .ok (.lconst 0, 1) := by decide +kernel
theorem d_M_find_35 : decode c_M_find 35 = .ok (.goto 4, 3) := by decide +kernel
theorem d_M_find_38 : decode c_M_find 38 = .ok (.lload_n 1, 1) := by decide +kernel
theorem d_M_find_39 : decode c_M_find 39 = .ok (.lstore 6, 2) := by decide +kernel
theorem d_M_find_41 : decode c_M_find 41 = .ok (.iconst 0, 1) := by decide +kernel
theorem d_M_find_42 : decode c_M_find 42 = .ok (.istore 8, 2) := by decide +kernel
theorem d_M_find_44 : decode c_M_find 44 = .ok (.iload 8, 2) := by decide +kernel
theorem d_M_find_46 : decode c_M_find 46 = .ok (.iload_n 3, 1) := by decide +kernel
theorem d_M_find_47 : decode c_M_find 47 = .ok (.if_icmp .ge 44, 3) := by decide +kernel
theorem d_M_find_50 : decode c_M_find 50 = .ok (.iload 5, 2) := by decide +kernel
theorem d_M_find_52 : decode c_M_find 52 = .ok (.ifCond .ne 39, 3) := by decide +kernel
theorem d_M_find_55 : decode c_M_find 55 = .ok (.aload_n 0, 1) := by decide +kernel
theorem d_M_find_56 : decode c_M_find 56 = .ok (.getfield 26, 3) := by decide +kernel
theorem d_M_find_59 : decode c_M_find 59 = .ok (.iload_n 3, 1) := by decide +kernel
theorem d_M_find_60 : decode c_M_find 60 = .ok (.iconst 1, 1) := by decide +kernel
theorem d_M_find_61 : decode c_M_find 61 = .ok (.isub, 1) := by decide +kernel
theorem d_M_find_62 : decode c_M_find 62 = .ok (.iload 8, 2) := by decide +kernel
theorem d_M_find_64 : decode c_M_find 64 = .ok (.isub, 1) := by decide +kernel
theorem d_M_find_65 : decode c_M_find 65 = .ok (.lload 6, 2) := by decide +kernel
theorem d_M_find_67 : decode c_M_find 67 = .ok (.aload_n 0, 1) := by decide +kernel
theorem d_M_find_68 : decode c_M_find 68 = .ok (.getfield 16, 3) := by decide +kernel
theorem d_M_find_71 : decode c_M_find 71 = .ok (.i2l, 1) := by decide +kernel
theorem d_M_find_72 : decode c_M_find 72 = .ok (.lrem, 1) := by decide +kernel
theorem d_M_find_73 : decode c_M_find 73 = .ok (.l2i, 1) := by decide +kernel
theorem d_M_find_74 : decode c_M_find 74 = .ok (.iastore, 1) := by decide +kernel
theorem d_M_find_75 : decode c_M_find 75 = .ok (.lload 6, 2) := by decide +kernel
theorem d_M_find_77 : decode c_M_find 77 = .ok (.aload_n 0, 1) := by decide +kernel
theorem d_M_find_78 : decode c_M_find 78 = .ok (.getfield 16, 3) := by decide +kernel
theorem d_M_find_81 : decode c_M_find 81 = .ok (.i2l, 1) := by decide +kernel
theorem d_M_find_82 : decode c_M_find 82 = .ok (.ldiv, 1) := by decide +kernel
theorem d_M_find_83 : decode c_M_find 83 = .ok (.lstore 6, 2) := by decide +kernel
theorem d_M_find_85 : decode c_M_find 85 = .ok (.iinc 8 1, 3) := by decide +kernel
theorem d_M_find_88 : decode c_M_find 88 = .ok (.goto (-44), 3) := by decide +kernel
theorem d_M_find_91 : decode c_M_find 91 = .ok (.aload_n 0, 1) := by decide +kernel
theorem d_M_find_92 : decode c_M_find 92 = .ok (.iload 5, 2) := by decide +kernel
theorem d_M_find_94 : decode c_M_find 94 = .ok (.ifCond .ne 10, 3) := by decide +kernel
theorem d_M_find_97 : decode c_M_find 97 = .ok (.lload 6, 2) := by decide +kernel
theorem d_M_find_99 : decode c_M_find 99 = .ok (.lconst 0, 1) := by decide +kernel
theorem d_M_find_100 : decode c_M_find 100 = .ok (.lcmp, 1) := by decide +kernel
theorem d_M_find_101 : decode c_M_find 101 = .ok (.ifCond .le 7, 3) := by decide +kernel
theorem d_M_find_104 : decode c_M_find 104 = .ok (.iconst 1, 1) := by decide +kernel
theorem d_M_find_105 : decode c_M_find 105 = .ok (.goto 4, 3) := by decide +kernel
theorem d_M_find_108 : decode c_M_find 108 = .ok (.iconst 0, 1) := by decide +kernel
theorem d_M_find_109 : decode c_M_find 109 = .ok (.iconst 1, 1) := by decide +kernel
theorem d_M_find_110 : decode c_M_find 110 = .ok (.invokevirtual 128, 3) := by decide +kernel
theorem d_M_find_113 : decode c_M_find 113 = .ok (.ifCond .eq 5, 3) := by decide +kernel
theorem d_M_find_116 : decode c_M_find 116 = .ok (.iconst 0, 1) := by decide +kernel
theorem d_M_find_117 : decode c_M_find 117 = .ok (.ireturn, 1) := by decide +kernel
theorem d_M_find_118 : decode c_M_find 118 = .ok (.aload_n 0, 1) := by decide +kernel
theorem d_M_find_119 : decode c_M_find 119 = .ok (.invokevirtual 140, 3) := by decide +kernel
theorem d_M_find_122 : decode c_M_find 122 = .ok (.istore 8, 2) := by decide +kernel
theorem d_M_find_124 : decode c_M_find 124 = .ok (.iload 4, 2) := by decide +kernel
theorem d_M_find_126 : decode c_M_find 126 = .ok (.istore 9, 2) := by decide +kernel
theorem d_M_find_128 : decode c_M_find 128 = .ok (.iload 9, 2) := by decide +kernel
theorem d_M_find_130 : decode c_M_find 130 = .ok (.iload 8, 2) := by decide +kernel
theorem d_M_find_132 : decode c_M_find 132 = .ok (.iload_n 3, 1) := by decide +kernel
theorem d_M_find_133 : decode c_M_find 133 = .ok (.isub, 1) := by decide +kernel
theorem d_M_find_134 : decode c_M_find 134 = .ok (.if_icmp .gt 53, 3) := by decide +kernel
theorem d_M_find_137 : decode c_M_find 137 = .ok (.iconst 0, 1) := by decide +kernel
theorem d_M_find_138 : decode c_M_find 138 = .ok (.istore 10, 2) := by decide +kernel
theorem d_M_find_140 : decode c_M_find 140 = .ok (.iload 10, 2) := by decide +kernel
theorem d_M_find_142 : decode c_M_find 142 = .ok (.iload_n 3, 1) := by decide +kernel
theorem d_M_find_143 : decode c_M_find 143 = .ok (.if_icmp .ge 29, 3) := by decide +kernel
theorem d_M_find_146 : decode c_M_find 146 = .ok (.aload_n 0, 1) := by decide +kernel
theorem d_M_find_147 : decode c_M_find 147 = .ok (.getfield 23, 3) := by decide +kernel
theorem d_M_find_150 : decode c_M_find 150 = .ok (.iload 9, 2) := by decide +kernel
theorem d_M_find_152 : decode c_M_find 152 = .ok (.iload 10, 2) := by decide +kernel
theorem d_M_find_154 : decode c_M_find 154 = .ok (.iadd, 1) := by decide +kernel
theorem d_M_find_155 : decode c_M_find 155 = .ok (.iaload, 1) := by decide +kernel
theorem d_M_find_156 : decode c_M_find 156 = .ok (.aload_n 0, 1) := by decide +kernel
theorem d_M_find_157 : decode c_M_find 157 = .ok (.getfield 26, 3) := by decide +kernel
theorem d_M_find_160 : decode c_M_find 160 = .ok (.iload 10, 2) := by decide +kernel
theorem d_M_find_162 : decode c_M_find 162 = .ok (.iaload, 1) := by decide +kernel
theorem d_M_find_163 : decode c_M_find 163 = .ok (.if_icmp .ne 9, 3) := by decide +kernel
theorem d_M_find_166 : decode c_M_find 166 = .ok (.iinc 10 1, 3) := by decide +kernel
theorem d_M_find_169 : decode c_M_find 169 = .ok (.goto (-29), 3) := by decide +kernel
theorem d_M_find_172 : decode c_M_find 172 = .ok (.iload 10, 2) := by decide +kernel
theorem d_M_find_174 : decode c_M_find 174 = .ok (.iload_n 3, 1) := by decide +kernel
theorem d_M_find_175 : decode c_M_find 175 = .ok (.if_icmp .ne 6, 3) := by decide +kernel
theorem d_M_find_178 : decode c_M_find 178 = .ok (.iload 9, 2) := by decide +kernel
theorem d_M_find_180 : decode c_M_find 180 = .ok (.ireturn, 1) := by decide +kernel
theorem d_M_find_181 : decode c_M_find 181 = .ok (.iinc 9 1, 3) := by decide +kernel
theorem d_M_find_184 : decode c_M_find 184 = .ok (.goto (-56), 3) := by decide +kernel
theorem d_M_find_187 : decode c_M_find 187 = .ok (.iconst (-1), 1) := by decide +kernel
theorem d_M_find_188 : decode c_M_find 188 = .ok (.ireturn, 1) := by decide +kernel
theorem d_M_compare_0 : decode c_M_compare 0 = .ok (.aload_n 0, 1) := by decide +kernel
theorem d_M_compare_1 : decode c_M_compare 1 = .ok (.iconst 0, 1) := by decide +kernel
theorem d_M_compare_2 : decode c_M_compare 2 = .ok (.putfield 29, 3) := by decide +kernel
theorem d_M_compare_5 : decode c_M_compare 5 = .ok (.aload_n 0, 1) := by decide +kernel
theorem d_M_compare_6 : decode c_M_compare 6 = .ok (.iconst 0, 1) := by decide +kernel
theorem d_M_compare_7 : decode c_M_compare 7 = .ok (.iconst 1, 1) := by decide +kernel
theorem d_M_compare_8 : decode c_M_compare 8 = .ok (.invokevirtual 67, 3) := by decide +kernel
theorem d_M_compare_11 : decode c_M_compare 11 = .ok (.ireturn, 1) := by decide +kernel
end
section
theorem d_S_init_0 : decode c_S_init 0 = .ok (.aload_n 0, 1) := by decide +kernel
theorem d_S_init_1 : decode c_S_init 1 = .ok (.invokespecial 3, 3) := by decide +kernel
theorem d_S_init_4 : decode c_S_init 4 = .ok (.aload_n 0, 1) := by decide +kernel
theorem d_S_init_5 : decode c_S_init 5 = .ok (.iconst 5, 1) := by decide +kernel
theorem d_S_init_6 : decode c_S_init 6 = .ok (.sipush 705, 3) := by decide +kernel
theorem d_S_init_9 : decode c_S_init 9 = .ok (.multianewarray 9 2, 4) := by decide +kernel
theorem d_S_init_13 : decode c_S_init 13 = .ok (.putfield 11, 3) := by decide +kernel
theorem d_S_init_16 : decode c_S_init 16 = .ok (.aload_n 0, 1) := by decide +kernel
theorem d_S_init_17 : decode c_S_init 17 = .ok (.iconst 5, 1) := by decide +kernel
theorem d_S_init_18 : decode c_S_init 18 = .ok (.newarray .int, 2) := by decide +kernel
theorem d_S_init_20 : decode c_S_init 20 = .ok (.putfield 16, 3) := by decide +kernel
theorem d_S_init_23 : decode c_S_init 23 = .ok (.aload_n 0, 1) := by decide +kernel
theorem d_S_init_24 : decode c_S_init 24 = .ok (.sipush 705, 3) := by decide +kernel
theorem d_S_init_27 : decode c_S_init 27 = .ok (.newarray .long, 2) := by decide +kernel
theorem d_S_init_29 : decode c_S_init 29 = .ok (.putfield 20, 3) := by decide +kernel
theorem d_S_init_32 : decode c_S_init 32 = .ok (.aload_n 0, 1) := by decide +kernel
theorem d_S_init_33 : decode c_S_init 33 = .ok (.sipush 705, 3) := by decide +kernel
theorem d_S_init_36 : decode c_S_init 36 = .ok (.newarray .long, 2) := by decide +kernel
theorem d_S_init_38 : decode c_S_init 38 = .ok (.putfield 24, 3) := by decide +kernel
theorem d_S_init_41 : decode c_S_init 41 = .ok (.return_, 1) := by decide +kernel
theorem d_S_reach_0 : decode c_S_reach 0 = .ok (.aload_n 0, 1) := by decide +kernel
theorem d_S_reach_1 : decode c_S_reach 1 = .ok (.getfield 16, 3) := by decide +kernel
theorem d_S_reach_4 : decode c_S_reach 4 = .ok (.iload_n 1, 1) := by decide +kernel
theorem d_S_reach_5 : decode c_S_reach 5 = .ok (.iaload, 1) := by decide +kernel
theorem d_S_reach_6 : decode c_S_reach 6 = .ok (.istore_n 3, 1) := by decide +kernel
theorem d_S_reach_7 : decode c_S_reach 7 = .ok (.iload_n 3, 1) := by decide +kernel
theorem d_S_reach_8 : decode c_S_reach 8 = .ok (.iload_n 2, 1) := by decide +kernel
theorem d_S_reach_9 : decode c_S_reach 9 = .ok (.if_icmp .ge 40, 3) := by decide +kernel
theorem d_S_reach_12 : decode c_S_reach 12 = .ok (.aload_n 0, 1) := by decide +kernel
theorem d_S_reach_13 : decode c_S_reach 13 = .ok (.sipush 704, 3) := by decide +kernel
theorem d_S_reach_16 : decode c_S_reach 16 = .ok (.iload_n 2, 1) := by decide +kernel
theorem d_S_reach_17 : decode c_S_reach 17 = .ok (.iload_n 3, 1) := by decide +kernel
theorem d_S_reach_18 : decode c_S_reach 18 = .ok (.iload_n 3, 1) := by decide +kernel
theorem d_S_reach_19 : decode c_S_reach 19 = .ok (.iconst 2, 1) := by decide +kernel
theorem d_S_reach_20 : decode c_S_reach 20 = .ok (.idiv, 1) := by decide +kernel
theorem d_S_reach_21 : decode c_S_reach 21 = .ok (.iadd, 1) := by decide +kernel
theorem d_S_reach_22 : decode c_S_reach 22 = .ok (.invokestatic 27, 3) := by decide +kernel
theorem d_S_reach_25 : decode c_S_reach 25 = .ok (.invokestatic 33, 3) := by decide +kernel
theorem d_S_reach_28 : decode c_S_reach 28 = .ok (.putfield 36, 3) := by decide +kernel
theorem d_S_reach_31 : decode c_S_reach 31 = .ok (.aload_n 0, 1) := by decide +kernel
theorem d_S_reach_32 : decode c_S_reach 32 = .ok (.getfield 24, 3) := by decide +kernel
theorem d_S_reach_35 : decode c_S_reach 35 = .ok (.lconst 0, 1) := by decide +kernel
theorem d_S_reach_36 : decode c_S_reach 36 = .ok (.invokestatic 40, 3) := by decide +kernel
theorem d_S_reach_39 : decode c_S_reach 39 = .ok (.aload_n 0, 1) := by decide +kernel
theorem d_S_reach_40 : decode c_S_reach 40 = .ok (.iload_n 1, 1) := by decide +kernel
theorem d_S_reach_41 : decode c_S_reach 41 = .ok (.invokevirtual 46, 3) := by decide +kernel
theorem d_S_reach_44 : decode c_S_reach 44 = .ok (.aload_n 0, 1) := by decide +kernel
theorem d_S_reach_45 : decode c_S_reach 45 = .ok (.iload_n 1, 1) := by decide +kernel
theorem d_S_reach_46 : decode c_S_reach 46 = .ok (.invokevirtual 50, 3) := by decide +kernel
theorem d_S_reach_49 : decode c_S_reach 49 = .ok (.aload_n 0, 1) := by decide +kernel
theorem d_S_reach_50 : decode c_S_reach 50 = .ok (.getfield 16, 3) := by decide +kernel
theorem d_S_reach_53 : decode c_S_reach 53 = .ok (.iload_n 1, 1) := by decide +kernel
theorem d_S_reach_54 : decode c_S_reach 54 = .ok (.iaload, 1) := by decide +kernel
theorem d_S_reach_55 : decode c_S_reach 55 = .ok (.ireturn, 1) := by decide +kernel
theorem d_S_sumUp_0 : decode c_S_sumUp 0 = .ok (.iload_n 1, 1) := by decide +kernel
theorem d_S_sumUp_1 : decode c_S_sumUp 1 = .ok (.tableswitch 63 0 4 #[35, 42, 63, 49, 56], 35) := by decide +kernel
theorem d_S_sumUp_36 : decode c_S_sumUp 36 = .ok (.aload_n 0, 1) := by decide +kernel
theorem d_S_sumUp_37 : decode c_S_sumUp 37 = .ok (.invokevirtual 53, 3) := by decide +kernel
theorem d_S_sumUp_40 : decode c_S_sumUp 40 = .ok (.goto 24, 3) := by decide +kernel
theorem d_S_sumUp_43 : decode c_S_sumUp 43 = .ok (.aload_n 0, 1) := by decide +kernel
theorem d_S_sumUp_44 : decode c_S_sumUp 44 = .ok (.invokevirtual 56, 3) := by decide +kernel
theorem d_S_sumUp_47 : decode c_S_sumUp 47 = .ok (.goto 17, 3) := by decide +kernel
theorem d_S_sumUp_50 : decode c_S_sumUp 50 = .ok (.aload_n 0, 1) := by decide +kernel
theorem d_S_sumUp_51 : decode c_S_sumUp 51 = .ok (.invokevirtual 59, 3) := by decide +kernel
theorem d_S_sumUp_54 : decode c_S_sumUp 54 = .ok (.goto 10, 3) := by decide +kernel
theorem d_S_sumUp_57 : decode c_S_sumUp 57 = .ok (.aload_n 0, 1) := by decide +kernel
theorem d_S_sumUp_58 : decode c_S_sumUp 58 = .ok (.invokevirtual 62, 3) := by decide +kernel
theorem d_S_sumUp_61 : decode c_S_sumUp 61 = .ok (.goto 3, 3) := by decide +kernel
theorem d_S_sumUp_64 : decode c_S_sumUp 64 = .ok (.return_, 1) := by decide +kernel
theorem d_S_sumPi_0 : decode c_S_sumPi 0 = .ok (.aload_n 0, 1) := by decide +kernel
theorem d_S_sumPi_1 : decode c_S_sumPi 1 = .ok (.bipush 26, 2) := by decide +kernel
theorem d_S_sumPi_3 : decode c_S_sumPi 3 = .ok (.bipush 47, 2) := by decide +kernel
theorem d_S_sumPi_5 : decode c_S_sumPi 5 = .ok (.invokevirtual 65, 3) := by decide +kernel
theorem d_S_sumPi_8 : decode c_S_sumPi 8 = .ok (.aload_n 0, 1) := by decide +kernel
theorem d_S_sumPi_9 : decode c_S_sumPi 9 = .ok (.bipush 40, 2) := by decide +kernel
theorem d_S_sumPi_11 : decode c_S_sumPi 11 = .ok (.bipush 13, 2) := by decide +kernel
theorem d_S_sumPi_13 : decode c_S_sumPi 13 = .ok (.iconst 0, 1) := by decide +kernel
theorem d_S_sumPi_14 : decode c_S_sumPi 14 = .ok (.invokevirtual 69, 3) := by decide +kernel
theorem d_S_sumPi_17 : decode c_S_sumPi 17 = .ok (.aload_n 0, 1) := by decide +kernel
theorem d_S_sumPi_18 : decode c_S_sumPi 18 = .ok (.invokevirtual 73, 3) := by decide +kernel
theorem d_S_sumPi_21 : decode c_S_sumPi 21 = .ok (.aload_n 0, 1) := by decide +kernel
theorem d_S_sumPi_22 : decode c_S_sumPi 22 = .ok (.ldc 76, 2) := by decide +kernel
theorem d_S_sumPi_24 : decode c_S_sumPi 24 = .ok (.sipush 158, 3) := by decide +kernel
theorem d_S_sumPi_27 : decode c_S_sumPi 27 = .ok (.invokevirtual 65, 3) := by decide +kernel
theorem d_S_sumPi_30 : decode c_S_sumPi 30 = .ok (.aload_n 0, 1) := by decide +kernel
theorem d_S_sumPi_31 : decode c_S_sumPi 31 = .ok (.sipush (-478), 3) := by decide +kernel
theorem d_S_sumPi_34 : decode c_S_sumPi 34 = .ok (.sipush 28561, 3) := by decide +kernel
theorem d_S_sumPi_37 : decode c_S_sumPi 37 = .ok (.iconst 0, 1) := by decide +kernel
theorem d_S_sumPi_38 : decode c_S_sumPi 38 = .ok (.invokevirtual 69, 3) := by decide +kernel
theorem d_S_sumPi_41 : decode c_S_sumPi 41 = .ok (.aload_n 0, 1) := by decide +kernel
theorem d_S_sumPi_42 : decode c_S_sumPi 42 = .ok (.invokevirtual 73, 3) := by decide +kernel
theorem d_S_sumPi_45 : decode c_S_sumPi 45 = .ok (.return_, 1) := by decide +kernel
theorem d_S_foldArctan_0 : decode c_S_foldArctan 0 = .ok (.aload_n 0, 1) := by decide +kernel
theorem d_S_foldArctan_1 : decode c_S_foldArctan 1 = .ok (.invokevirtual 77, 3) := by decide +kernel
theorem d_S_foldArctan_4 : decode c_S_foldArctan 4 = .ok (.aload_n 0, 1) := by decide +kernel
theorem d_S_foldArctan_5 : decode c_S_foldArctan 5 = .ok (.invokevirtual 80, 3) := by decide +kernel
theorem d_S_foldArctan_8 : decode c_S_foldArctan 8 = .ok (.bipush 10, 2) := by decide +kernel
theorem d_S_foldArctan_10 : decode c_S_foldArctan 10 = .ok (.imul, 1) := by decide +kernel
theorem d_S_foldArctan_11 : decode c_S_foldArctan 11 = .ok (.iload_n 2, 1) := by decide +kernel
theorem d_S_foldArctan_12 : decode c_S_foldArctan 12 = .ok (.idiv, 1) := by decide +kernel
theorem d_S_foldArctan_13 : decode c_S_foldArctan 13 = .ok (.iconst 1, 1) := by decide +kernel
theorem d_S_foldArctan_14 : decode c_S_foldArctan 14 = .ok (.iadd, 1) := by decide +kernel
theorem d_S_foldArctan_15 : decode c_S_foldArctan 15 = .ok (.istore_n 3, 1) := by decide +kernel
theorem d_S_foldArctan_16 : decode c_S_foldArctan 16 = .ok (.iload_n 3, 1) := by decide +kernel
theorem d_S_foldArctan_17 : decode c_S_foldArctan 17 = .ok (.iconst 1, 1) := by decide +kernel
theorem d_S_foldArctan_18 : decode c_S_foldArctan 18 = .ok (.if_icmp .lt 46, 3) := by decide +kernel
theorem d_S_foldArctan_21 : decode c_S_foldArctan 21 = .ok (.aload_n 0, 1) := by decide +kernel
theorem d_S_foldArctan_22 : decode c_S_foldArctan 22 = .ok (.getfield 20, 3) := by decide +kernel
theorem d_S_foldArctan_25 : decode c_S_foldArctan 25 = .ok (.aload_n 0, 1) := by decide +kernel
theorem d_S_foldArctan_26 : decode c_S_foldArctan 26 = .ok (.getfield 36, 3) := by decide +kernel
theorem d_S_foldArctan_29 : decode c_S_foldArctan 29 = .ok (.dup2, 1) := by decide +kernel
theorem d_S_foldArctan_30 : decode c_S_foldArctan 30 = .ok (.laload, 1) := by decide +kernel
theorem d_S_foldArctan_31 : decode c_S_foldArctan 31 = .ok (.lconst 1, 1) := by decide +kernel
theorem d_S_foldArctan_32 : decode c_S_foldArctan 32 = .ok (.ladd, 1) := by decide +kernel
theorem d_S_foldArctan_33 : decode c_S_foldArctan 33 = .ok (.lastore, 1) := by decide +kernel
theorem d_S_foldArctan_34 : decode c_S_foldArctan 34 = .ok (.aload_n 0, 1) := by decide +kernel
theorem d_S_foldArctan_35 : decode c_S_foldArctan 35 = .ok (.iconst 2, 1) := by decide +kernel
theorem d_S_foldArctan_36 : decode c_S_foldArctan 36 = .ok (.iload_n 3, 1) := by decide +kernel
theorem d_S_foldArctan_37 : decode c_S_foldArctan 37 = .ok (.imul, 1) := by decide +kernel
theorem d_S_foldArctan_38 : decode c_S_foldArctan 38 = .ok (.iconst 2, 1) := by decide +kernel
theorem d_S_foldArctan_39 : decode c_S_foldArctan 39 = .ok (.iload_n 3, 1) := by decide +kernel
theorem d_S_foldArctan_40 : decode c_S_foldArctan 40 = .ok (.imul, 1) := by decide +kernel
theorem d_S_foldArctan_41 : decode c_S_foldArctan 41 = .ok (.iconst 1, 1) := by decide +kernel
theorem d_S_foldArctan_42 : decode c_S_foldArctan 42 = .ok (.iadd, 1) := by decide +kernel
theorem d_S_foldArctan_43 : decode c_S_foldArctan 43 = .ok (.iload_n 1, 1) := by decide +kernel
theorem d_S_foldArctan_44 : decode c_S_foldArctan 44 = .ok (.imul, 1) := by decide +kernel
theorem d_S_foldArctan_45 : decode c_S_foldArctan 45 = .ok (.aload_n 0, 1) := by decide +kernel
theorem d_S_foldArctan_46 : decode c_S_foldArctan 46 = .ok (.iload_n 3, 1) := by decide +kernel
theorem d_S_foldArctan_47 : decode c_S_foldArctan 47 = .ok (.iload_n 2, 1) := by decide +kernel
theorem d_S_foldArctan_48 : decode c_S_foldArctan 48 = .ok (.imul, 1) := by decide +kernel
theorem d_S_foldArctan_49 : decode c_S_foldArctan 49 = .ok (.bipush 10, 2) := by decide +kernel
theorem d_S_foldArctan_51 : decode c_S_foldArctan 51 = .ok (.idiv, 1) := by decide +kernel
theorem d_S_foldArctan_52 : decode c_S_foldArctan 52 = .ok (.invokevirtual 84, 3) := by decide +kernel
theorem d_S_foldArctan_55 : decode c_S_foldArctan 55 = .ok (.invokevirtual 69, 3) := by decide +kernel
theorem d_S_foldArctan_58 : decode c_S_foldArctan 58 = .ok (.iinc 3 (-1), 3) := by decide +kernel
theorem d_S_foldArctan_61 : decode c_S_foldArctan 61 = .ok (.goto (-45), 3) := by decide +kernel
theorem d_S_foldArctan_64 : decode c_S_foldArctan 64 = .ok (.aload_n 0, 1) := by decide +kernel
theorem d_S_foldArctan_65 : decode c_S_foldArctan 65 = .ok (.getfield 20, 3) := by decide +kernel
theorem d_S_foldArctan_68 : decode c_S_foldArctan 68 = .ok (.aload_n 0, 1) := by decide +kernel
theorem d_S_foldArctan_69 : decode c_S_foldArctan 69 = .ok (.getfield 36, 3) := by decide +kernel
theorem d_S_foldArctan_72 : decode c_S_foldArctan 72 = .ok (.dup2, 1) := by decide +kernel
theorem d_S_foldArctan_73 : decode c_S_foldArctan 73 = .ok (.laload, 1) := by decide +kernel
theorem d_S_foldArctan_74 : decode c_S_foldArctan 74 = .ok (.lconst 1, 1) := by decide +kernel
theorem d_S_foldArctan_75 : decode c_S_foldArctan 75 = .ok (.ladd, 1) := by decide +kernel
theorem d_S_foldArctan_76 : decode c_S_foldArctan 76 = .ok (.lastore, 1) := by decide +kernel
theorem d_S_foldArctan_77 : decode c_S_foldArctan 77 = .ok (.return_, 1) := by decide +kernel
theorem d_S_begin_0 : decode c_S_begin 0 = .ok (.aload_n 0, 1) := by decide +kernel
theorem d_S_begin_1 : decode c_S_begin 1 = .ok (.getfield 20, 3) := by decide +kernel
theorem d_S_begin_4 : decode c_S_begin 4 = .ok (.lconst 0, 1) := by decide +kernel
theorem d_S_begin_5 : decode c_S_begin 5 = .ok (.invokestatic 40, 3) := by decide +kernel
theorem d_S_begin_8 : decode c_S_begin 8 = .ok (.return_, 1) := by decide +kernel
theorem d_S_bitsNeeded_0 : decode c_S_bitsNeeded 0 = .ok (.aload_n 0, 1) := by decide +kernel
theorem d_S_bitsNeeded_1 : decode c_S_bitsNeeded 1 = .ok (.getfield 36, 3) := by decide +kernel
theorem d_S_bitsNeeded_4 : decode c_S_bitsNeeded 4 = .ok (.bipush 30, 2) := by decide +kernel
theorem d_S_bitsNeeded_6 : decode c_S_bitsNeeded 6 = .ok (.imul, 1) := by decide +kernel
theorem d_S_bitsNeeded_7 : decode c_S_bitsNeeded 7 = .ok (.bipush 32, 2) := by decide +kernel
theorem d_S_bitsNeeded_9 : decode c_S_bitsNeeded 9 = .ok (.iadd, 1) := by decide +kernel
theorem d_S_bitsNeeded_10 : decode c_S_bitsNeeded 10 = .ok (.ireturn, 1) := by decide +kernel
theorem d_S_lowest_0 : decode c_S_lowest 0 = .ok (.aload_n 0, 1) := by decide +kernel
theorem d_S_lowest_1 : decode c_S_lowest 1 = .ok (.getfield 36, 3) := by decide +kernel
theorem d_S_lowest_4 : decode c_S_lowest 4 = .ok (.iconst 0, 1) := by decide +kernel
theorem d_S_lowest_5 : decode c_S_lowest 5 = .ok (.iload_n 1, 1) := by decide +kernel
theorem d_S_lowest_6 : decode c_S_lowest 6 = .ok (.bipush 30, 2) := by decide +kernel
theorem d_S_lowest_8 : decode c_S_lowest 8 = .ok (.idiv, 1) := by decide +kernel
theorem d_S_lowest_9 : decode c_S_lowest 9 = .ok (.iconst 1, 1) := by decide +kernel
theorem d_S_lowest_10 : decode c_S_lowest 10 = .ok (.isub, 1) := by decide +kernel
theorem d_S_lowest_11 : decode c_S_lowest 11 = .ok (.invokestatic 27, 3) := by decide +kernel
theorem d_S_lowest_14 : decode c_S_lowest 14 = .ok (.invokestatic 33, 3) := by decide +kernel
theorem d_S_lowest_17 : decode c_S_lowest 17 = .ok (.ireturn, 1) := by decide +kernel
theorem d_S_fold_0 : decode c_S_fold 0 = .ok (.lconst 0, 1) := by decide +kernel
theorem d_S_fold_1 : decode c_S_fold 1 = .ok (.lstore 4, 2) := by decide +kernel
theorem d_S_fold_3 : decode c_S_fold 3 = .ok (.aload_n 0, 1) := by decide +kernel
theorem d_S_fold_4 : decode c_S_fold 4 = .ok (.getfield 36, 3) := by decide +kernel
theorem d_S_fold_7 : decode c_S_fold 7 = .ok (.istore 6, 2) := by decide +kernel
theorem d_S_fold_9 : decode c_S_fold 9 = .ok (.iload 6, 2) := by decide +kernel
theorem d_S_fold_11 : decode c_S_fold 11 = .ok (.iload_n 3, 1) := by decide +kernel
theorem d_S_fold_12 : decode c_S_fold 12 = .ok (.if_icmp .lt 53, 3) := by decide +kernel
theorem d_S_fold_15 : decode c_S_fold 15 = .ok (.lload 4, 2) := by decide +kernel
theorem d_S_fold_17 : decode c_S_fold 17 = .ok (.bipush 30, 2) := by decide +kernel
theorem d_S_fold_19 : decode c_S_fold 19 = .ok (.lshl, 1) := by decide +kernel
theorem d_S_fold_20 : decode c_S_fold 20 = .ok (.aload_n 0, 1) := by decide +kernel
theorem d_S_fold_21 : decode c_S_fold 21 = .ok (.getfield 20, 3) := by decide +kernel
theorem d_S_fold_24 : decode c_S_fold 24 = .ok (.iload 6, 2) := by decide +kernel
theorem d_S_fold_26 : decode c_S_fold 26 = .ok (.laload, 1) := by decide +kernel
theorem d_S_fold_27 : decode c_S_fold 27 = .ok (.ladd, 1) := by decide +kernel
theorem d_S_fold_28 : decode c_S_fold 28 = .ok (.lstore 7, 2) := by decide +kernel
theorem d_S_fold_30 : decode c_S_fold 30 = .ok (.lload 7, 2) := by decide +kernel
theorem d_S_fold_32 : decode c_S_fold 32 = .ok (.iload_n 2, 1) := by decide +kernel
theorem d_S_fold_33 : decode c_S_fold 33 = .ok (.i2l, 1) := by decide +kernel
theorem d_S_fold_34 : decode c_S_fold 34 = .ok (.ldiv, 1) := by decide +kernel
theorem d_S_fold_35 : decode c_S_fold 35 = .ok (.lstore 9, 2) := by decide +kernel
theorem d_S_fold_37 : decode c_S_fold 37 = .ok (.lload 7, 2) := by decide +kernel
theorem d_S_fold_39 : decode c_S_fold 39 = .ok (.lload 9, 2) := by decide +kernel
theorem d_S_fold_41 : decode c_S_fold 41 = .ok (.iload_n 2, 1) := by decide +kernel
theorem d_S_fold_42 : decode c_S_fold 42 = .ok (.i2l, 1) := by decide +kernel
theorem d_S_fold_43 : decode c_S_fold 43 = .ok (.lmul, 1) := by decide +kernel
theorem d_S_fold_44 : decode c_S_fold 44 = .ok (.lsub, 1) := by decide +kernel
theorem d_S_fold_45 : decode c_S_fold 45 = .ok (.lstore 4, 2) := by decide +kernel
theorem d_S_fold_47 : decode c_S_fold 47 = .ok (.aload_n 0, 1) := by decide +kernel
theorem d_S_fold_48 : decode c_S_fold 48 = .ok (.getfield 20, 3) := by decide +kernel
theorem d_S_fold_51 : decode c_S_fold 51 = .ok (.iload 6, 2) := by decide +kernel
theorem d_S_fold_53 : decode c_S_fold 53 = .ok (.lload 9, 2) := by decide +kernel
theorem d_S_fold_55 : decode c_S_fold 55 = .ok (.iload_n 1, 1) := by decide +kernel
theorem d_S_fold_56 : decode c_S_fold 56 = .ok (.i2l, 1) := by decide +kernel
theorem d_S_fold_57 : decode c_S_fold 57 = .ok (.lmul, 1) := by decide +kernel
theorem d_S_fold_58 : decode c_S_fold 58 = .ok (.lastore, 1) := by decide +kernel
theorem d_S_fold_59 : decode c_S_fold 59 = .ok (.iinc 6 (-1), 3) := by decide +kernel
theorem d_S_fold_62 : decode c_S_fold 62 = .ok (.goto (-53), 3) := by decide +kernel
theorem d_S_fold_65 : decode c_S_fold 65 = .ok (.return_, 1) := by decide +kernel
theorem d_S_gather_0 : decode c_S_gather 0 = .ok (.iconst 0, 1) := by decide +kernel
theorem d_S_gather_1 : decode c_S_gather 1 = .ok (.istore_n 1, 1) := by decide +kernel
theorem d_S_gather_2 : decode c_S_gather 2 = .ok (.iload_n 1, 1) := by decide +kernel
theorem d_S_gather_3 : decode c_S_gather 3 = .ok (.aload_n 0, 1) := by decide +kernel
theorem d_S_gather_4 : decode c_S_gather 4 = .ok (.getfield 36, 3) := by decide +kernel
theorem d_S_gather_7 : decode c_S_gather 7 = .ok (.if_icmp .gt 24, 3) := by decide +kernel
theorem d_S_gather_10 : decode c_S_gather 10 = .ok (.aload_n 0, 1) := by decide +kernel
theorem d_S_gather_11 : decode c_S_gather 11 = .ok (.getfield 24, 3) := by decide +kernel
theorem d_S_gather_14 : decode c_S_gather 14 = .ok (.iload_n 1, 1) := by decide +kernel
theorem d_S_gather_15 : decode c_S_gather 15 = .ok (.dup2, 1) := by decide +kernel
theorem d_S_gather_16 : decode c_S_gather 16 = .ok (.laload, 1) := by decide +kernel
theorem d_S_gather_17 : decode c_S_gather 17 = .ok (.aload_n 0, 1) := by decide +kernel
theorem d_S_gather_18 : decode c_S_gather 18 = .ok (.getfield 20, 3) := by decide +kernel
theorem d_S_gather_21 : decode c_S_gather 21 = .ok (.iload_n 1, 1) := by decide +kernel
theorem d_S_gather_22 : decode c_S_gather 22 = .ok (.laload, 1) := by decide +kernel
theorem d_S_gather_23 : decode c_S_gather 23 = .ok (.ladd, 1) := by decide +kernel
theorem d_S_gather_24 : decode c_S_gather 24 = .ok (.lastore, 1) := by decide +kernel
theorem d_S_gather_25 : decode c_S_gather 25 = .ok (.iinc 1 1, 3) := by decide +kernel
theorem d_S_gather_28 : decode c_S_gather 28 = .ok (.goto (-26), 3) := by decide +kernel
theorem d_S_gather_31 : decode c_S_gather 31 = .ok (.return_, 1) := by decide +kernel
theorem d_S_sumE_0 : decode c_S_sumE 0 = .ok (.aload_n 0, 1) := by decide +kernel
theorem d_S_sumE_1 : decode c_S_sumE 1 = .ok (.invokevirtual 77, 3) := by decide +kernel
theorem d_S_sumE_4 : decode c_S_sumE 4 = .ok (.iconst 0, 1) := by decide +kernel
theorem d_S_sumE_5 : decode c_S_sumE 5 = .ok (.istore_n 1, 1) := by decide +kernel
theorem d_S_sumE_6 : decode c_S_sumE 6 = .ok (.iconst 0, 1) := by decide +kernel
theorem d_S_sumE_7 : decode c_S_sumE 7 = .ok (.istore_n 2, 1) := by decide +kernel
theorem d_S_sumE_8 : decode c_S_sumE 8 = .ok (.iload_n 1, 1) := by decide +kernel
theorem d_S_sumE_9 : decode c_S_sumE 9 = .ok (.aload_n 0, 1) := by decide +kernel
theorem d_S_sumE_10 : decode c_S_sumE 10 = .ok (.invokevirtual 80, 3) := by decide +kernel
theorem d_S_sumE_13 : decode c_S_sumE 13 = .ok (.if_icmp .ge 26, 3) := by decide +kernel
theorem d_S_sumE_16 : decode c_S_sumE 16 = .ok (.iload_n 2, 1) := by decide +kernel
theorem d_S_sumE_17 : decode c_S_sumE 17 = .ok (.aload_n 0, 1) := by decide +kernel
theorem d_S_sumE_18 : decode c_S_sumE 18 = .ok (.invokevirtual 80, 3) := by decide +kernel
theorem d_S_sumE_21 : decode c_S_sumE 21 = .ok (.if_icmp .ge 18, 3) := by decide +kernel
theorem d_S_sumE_24 : decode c_S_sumE 24 = .ok (.iinc 2 1, 3) := by decide +kernel
theorem d_S_sumE_27 : decode c_S_sumE 27 = .ok (.iload_n 1, 1) := by decide +kernel
theorem d_S_sumE_28 : decode c_S_sumE 28 = .ok (.iload_n 2, 1) := by decide +kernel
theorem d_S_sumE_29 : decode c_S_sumE 29 = .ok (.invokestatic 88, 3) := by decide +kernel
theorem d_S_sumE_32 : decode c_S_sumE 32 = .ok (.iconst 1, 1) := by decide +kernel
theorem d_S_sumE_33 : decode c_S_sumE 33 = .ok (.isub, 1) := by decide +kernel
theorem d_S_sumE_34 : decode c_S_sumE 34 = .ok (.iadd, 1) := by decide +kernel
theorem d_S_sumE_35 : decode c_S_sumE 35 = .ok (.istore_n 1, 1) := by decide +kernel
theorem d_S_sumE_36 : decode c_S_sumE 36 = .ok (.goto (-28), 3) := by decide +kernel
theorem d_S_sumE_39 : decode c_S_sumE 39 = .ok (.iload_n 2, 1) := by decide +kernel
theorem d_S_sumE_40 : decode c_S_sumE 40 = .ok (.istore_n 3, 1) := by decide +kernel
theorem d_S_sumE_41 : decode c_S_sumE 41 = .ok (.iload_n 3, 1) := by decide +kernel
theorem d_S_sumE_42 : decode c_S_sumE 42 = .ok (.iconst 1, 1) := by decide +kernel
theorem d_S_sumE_43 : decode c_S_sumE 43 = .ok (.if_icmp .lt 42, 3) := by decide +kernel
theorem d_S_sumE_46 : decode c_S_sumE 46 = .ok (.aload_n 0, 1) := by decide +kernel
theorem d_S_sumE_47 : decode c_S_sumE 47 = .ok (.getfield 20, 3) := by decide +kernel
theorem d_S_sumE_50 : decode c_S_sumE 50 = .ok (.aload_n 0, 1) := by decide +kernel
theorem d_S_sumE_51 : decode c_S_sumE 51 = .ok (.getfield 36, 3) := by decide +kernel
theorem d_S_sumE_54 : decode c_S_sumE 54 = .ok (.dup2, 1) := by decide +kernel
theorem d_S_sumE_55 : decode c_S_sumE 55 = .ok (.laload, 1) := by decide +kernel
theorem d_S_sumE_56 : decode c_S_sumE 56 = .ok (.lconst 1, 1) := by decide +kernel
theorem d_S_sumE_57 : decode c_S_sumE 57 = .ok (.ladd, 1) := by decide +kernel
theorem d_S_sumE_58 : decode c_S_sumE 58 = .ok (.lastore, 1) := by decide +kernel
theorem d_S_sumE_59 : decode c_S_sumE 59 = .ok (.aload_n 0, 1) := by decide +kernel
theorem d_S_sumE_60 : decode c_S_sumE 60 = .ok (.iconst 1, 1) := by decide +kernel
theorem d_S_sumE_61 : decode c_S_sumE 61 = .ok (.iload_n 3, 1) := by decide +kernel
theorem d_S_sumE_62 : decode c_S_sumE 62 = .ok (.aload_n 0, 1) := by decide +kernel
theorem d_S_sumE_63 : decode c_S_sumE 63 = .ok (.iload_n 1, 1) := by decide +kernel
theorem d_S_sumE_64 : decode c_S_sumE 64 = .ok (.invokevirtual 84, 3) := by decide +kernel
theorem d_S_sumE_67 : decode c_S_sumE 67 = .ok (.invokevirtual 69, 3) := by decide +kernel
theorem d_S_sumE_70 : decode c_S_sumE 70 = .ok (.iload_n 1, 1) := by decide +kernel
theorem d_S_sumE_71 : decode c_S_sumE 71 = .ok (.iload_n 3, 1) := by decide +kernel
theorem d_S_sumE_72 : decode c_S_sumE 72 = .ok (.invokestatic 88, 3) := by decide +kernel
theorem d_S_sumE_75 : decode c_S_sumE 75 = .ok (.iconst 1, 1) := by decide +kernel
theorem d_S_sumE_76 : decode c_S_sumE 76 = .ok (.isub, 1) := by decide +kernel
theorem d_S_sumE_77 : decode c_S_sumE 77 = .ok (.isub, 1) := by decide +kernel
theorem d_S_sumE_78 : decode c_S_sumE 78 = .ok (.istore_n 1, 1) := by decide +kernel
theorem d_S_sumE_79 : decode c_S_sumE 79 = .ok (.iinc 3 (-1), 3) := by decide +kernel
theorem d_S_sumE_82 : decode c_S_sumE 82 = .ok (.goto (-41), 3) := by decide +kernel
theorem d_S_sumE_85 : decode c_S_sumE 85 = .ok (.aload_n 0, 1) := by decide +kernel
theorem d_S_sumE_86 : decode c_S_sumE 86 = .ok (.getfield 20, 3) := by decide +kernel
theorem d_S_sumE_89 : decode c_S_sumE 89 = .ok (.aload_n 0, 1) := by decide +kernel
theorem d_S_sumE_90 : decode c_S_sumE 90 = .ok (.getfield 36, 3) := by decide +kernel
theorem d_S_sumE_93 : decode c_S_sumE 93 = .ok (.dup2, 1) := by decide +kernel
theorem d_S_sumE_94 : decode c_S_sumE 94 = .ok (.laload, 1) := by decide +kernel
theorem d_S_sumE_95 : decode c_S_sumE 95 = .ok (.lconst 1, 1) := by decide +kernel
theorem d_S_sumE_96 : decode c_S_sumE 96 = .ok (.ladd, 1) := by decide +kernel
theorem d_S_sumE_97 : decode c_S_sumE 97 = .ok (.lastore, 1) := by decide +kernel
theorem d_S_sumE_98 : decode c_S_sumE 98 = .ok (.aload_n 0, 1) := by decide +kernel
theorem d_S_sumE_99 : decode c_S_sumE 99 = .ok (.invokevirtual 73, 3) := by decide +kernel
theorem d_S_sumE_102 : decode c_S_sumE 102 = .ok (.return_, 1) := by decide +kernel
theorem d_S_sumLogTwo_0 : decode c_S_sumLogTwo 0 = .ok (.aload_n 0, 1) := by decide +kernel
theorem d_S_sumLogTwo_1 : decode c_S_sumLogTwo 1 = .ok (.invokevirtual 77, 3) := by decide +kernel
theorem d_S_sumLogTwo_4 : decode c_S_sumLogTwo 4 = .ok (.aload_n 0, 1) := by decide +kernel
theorem d_S_sumLogTwo_5 : decode c_S_sumLogTwo 5 = .ok (.invokevirtual 80, 3) := by decide +kernel
theorem d_S_sumLogTwo_8 : decode c_S_sumLogTwo 8 = .ok (.iconst 3, 1) := by decide +kernel
theorem d_S_sumLogTwo_9 : decode c_S_sumLogTwo 9 = .ok (.idiv, 1) := by decide +kernel
theorem d_S_sumLogTwo_10 : decode c_S_sumLogTwo 10 = .ok (.iconst 1, 1) := by decide +kernel
theorem d_S_sumLogTwo_11 : decode c_S_sumLogTwo 11 = .ok (.iadd, 1) := by decide +kernel
theorem d_S_sumLogTwo_12 : decode c_S_sumLogTwo 12 = .ok (.istore_n 1, 1) := by decide +kernel
theorem d_S_sumLogTwo_13 : decode c_S_sumLogTwo 13 = .ok (.iload_n 1, 1) := by decide +kernel
theorem d_S_sumLogTwo_14 : decode c_S_sumLogTwo 14 = .ok (.iconst 1, 1) := by decide +kernel
theorem d_S_sumLogTwo_15 : decode c_S_sumLogTwo 15 = .ok (.if_icmp .lt 42, 3) := by decide +kernel
theorem d_S_sumLogTwo_18 : decode c_S_sumLogTwo 18 = .ok (.aload_n 0, 1) := by decide +kernel
theorem d_S_sumLogTwo_19 : decode c_S_sumLogTwo 19 = .ok (.getfield 20, 3) := by decide +kernel
theorem d_S_sumLogTwo_22 : decode c_S_sumLogTwo 22 = .ok (.aload_n 0, 1) := by decide +kernel
theorem d_S_sumLogTwo_23 : decode c_S_sumLogTwo 23 = .ok (.getfield 36, 3) := by decide +kernel
theorem d_S_sumLogTwo_26 : decode c_S_sumLogTwo 26 = .ok (.dup2, 1) := by decide +kernel
theorem d_S_sumLogTwo_27 : decode c_S_sumLogTwo 27 = .ok (.laload, 1) := by decide +kernel
theorem d_S_sumLogTwo_28 : decode c_S_sumLogTwo 28 = .ok (.lconst 1, 1) := by decide +kernel
theorem d_S_sumLogTwo_29 : decode c_S_sumLogTwo 29 = .ok (.ladd, 1) := by decide +kernel
theorem d_S_sumLogTwo_30 : decode c_S_sumLogTwo 30 = .ok (.lastore, 1) := by decide +kernel
theorem d_S_sumLogTwo_31 : decode c_S_sumLogTwo 31 = .ok (.aload_n 0, 1) := by decide +kernel
theorem d_S_sumLogTwo_32 : decode c_S_sumLogTwo 32 = .ok (.iload_n 1, 1) := by decide +kernel
theorem d_S_sumLogTwo_33 : decode c_S_sumLogTwo 33 = .ok (.ineg, 1) := by decide +kernel
theorem d_S_sumLogTwo_34 : decode c_S_sumLogTwo 34 = .ok (.iconst 4, 1) := by decide +kernel
theorem d_S_sumLogTwo_35 : decode c_S_sumLogTwo 35 = .ok (.iconst 2, 1) := by decide +kernel
theorem d_S_sumLogTwo_36 : decode c_S_sumLogTwo 36 = .ok (.iload_n 1, 1) := by decide +kernel
theorem d_S_sumLogTwo_37 : decode c_S_sumLogTwo 37 = .ok (.imul, 1) := by decide +kernel
theorem d_S_sumLogTwo_38 : decode c_S_sumLogTwo 38 = .ok (.iconst 1, 1) := by decide +kernel
theorem d_S_sumLogTwo_39 : decode c_S_sumLogTwo 39 = .ok (.iadd, 1) := by decide +kernel
theorem d_S_sumLogTwo_40 : decode c_S_sumLogTwo 40 = .ok (.imul, 1) := by decide +kernel
theorem d_S_sumLogTwo_41 : decode c_S_sumLogTwo 41 = .ok (.aload_n 0, 1) := by decide +kernel
theorem d_S_sumLogTwo_42 : decode c_S_sumLogTwo 42 = .ok (.iconst 3, 1) := by decide +kernel
theorem d_S_sumLogTwo_43 : decode c_S_sumLogTwo 43 = .ok (.iload_n 1, 1) := by decide +kernel
theorem d_S_sumLogTwo_44 : decode c_S_sumLogTwo 44 = .ok (.imul, 1) := by decide +kernel
theorem d_S_sumLogTwo_45 : decode c_S_sumLogTwo 45 = .ok (.invokevirtual 84, 3) := by decide +kernel
theorem d_S_sumLogTwo_48 : decode c_S_sumLogTwo 48 = .ok (.invokevirtual 69, 3) := by decide +kernel
theorem d_S_sumLogTwo_51 : decode c_S_sumLogTwo 51 = .ok (.iinc 1 (-1), 3) := by decide +kernel
theorem d_S_sumLogTwo_54 : decode c_S_sumLogTwo 54 = .ok (.goto (-41), 3) := by decide +kernel
theorem d_S_sumLogTwo_57 : decode c_S_sumLogTwo 57 = .ok (.aload_n 0, 1) := by decide +kernel
theorem d_S_sumLogTwo_58 : decode c_S_sumLogTwo 58 = .ok (.getfield 20, 3) := by decide +kernel
theorem d_S_sumLogTwo_61 : decode c_S_sumLogTwo 61 = .ok (.aload_n 0, 1) := by decide +kernel
theorem d_S_sumLogTwo_62 : decode c_S_sumLogTwo 62 = .ok (.getfield 36, 3) := by decide +kernel
theorem d_S_sumLogTwo_65 : decode c_S_sumLogTwo 65 = .ok (.dup2, 1) := by decide +kernel
theorem d_S_sumLogTwo_66 : decode c_S_sumLogTwo 66 = .ok (.laload, 1) := by decide +kernel
theorem d_S_sumLogTwo_67 : decode c_S_sumLogTwo 67 = .ok (.lconst 1, 1) := by decide +kernel
theorem d_S_sumLogTwo_68 : decode c_S_sumLogTwo 68 = .ok (.ladd, 1) := by decide +kernel
theorem d_S_sumLogTwo_69 : decode c_S_sumLogTwo 69 = .ok (.lastore, 1) := by decide +kernel
theorem d_S_sumLogTwo_70 : decode c_S_sumLogTwo 70 = .ok (.aload_n 0, 1) := by decide +kernel
theorem d_S_sumLogTwo_71 : decode c_S_sumLogTwo 71 = .ok (.iconst 3, 1) := by decide +kernel
theorem d_S_sumLogTwo_72 : decode c_S_sumLogTwo 72 = .ok (.iconst 4, 1) := by decide +kernel
theorem d_S_sumLogTwo_73 : decode c_S_sumLogTwo 73 = .ok (.iconst 0, 1) := by decide +kernel
theorem d_S_sumLogTwo_74 : decode c_S_sumLogTwo 74 = .ok (.invokevirtual 69, 3) := by decide +kernel
theorem d_S_sumLogTwo_77 : decode c_S_sumLogTwo 77 = .ok (.aload_n 0, 1) := by decide +kernel
theorem d_S_sumLogTwo_78 : decode c_S_sumLogTwo 78 = .ok (.invokevirtual 73, 3) := by decide +kernel
theorem d_S_sumLogTwo_81 : decode c_S_sumLogTwo 81 = .ok (.return_, 1) := by decide +kernel
theorem d_S_sumCubes_0 : decode c_S_sumCubes 0 = .ok (.aload_n 0, 1) := by decide +kernel
theorem d_S_sumCubes_1 : decode c_S_sumCubes 1 = .ok (.invokevirtual 77, 3) := by decide +kernel
theorem d_S_sumCubes_4 : decode c_S_sumCubes 4 = .ok (.aload_n 0, 1) := by decide +kernel
theorem d_S_sumCubes_5 : decode c_S_sumCubes 5 = .ok (.invokevirtual 80, 3) := by decide +kernel
theorem d_S_sumCubes_8 : decode c_S_sumCubes 8 = .ok (.bipush 10, 2) := by decide +kernel
theorem d_S_sumCubes_10 : decode c_S_sumCubes 10 = .ok (.idiv, 1) := by decide +kernel
theorem d_S_sumCubes_11 : decode c_S_sumCubes 11 = .ok (.iconst 1, 1) := by decide +kernel
theorem d_S_sumCubes_12 : decode c_S_sumCubes 12 = .ok (.iadd, 1) := by decide +kernel
theorem d_S_sumCubes_13 : decode c_S_sumCubes 13 = .ok (.istore_n 1, 1) := by decide +kernel
theorem d_S_sumCubes_14 : decode c_S_sumCubes 14 = .ok (.iload_n 1, 1) := by decide +kernel
theorem d_S_sumCubes_15 : decode c_S_sumCubes 15 = .ok (.iconst 1, 1) := by decide +kernel
theorem d_S_sumCubes_16 : decode c_S_sumCubes 16 = .ok (.if_icmp .lt 86, 3) := by decide +kernel
theorem d_S_sumCubes_19 : decode c_S_sumCubes 19 = .ok (.iconst 2, 1) := by decide +kernel
theorem d_S_sumCubes_20 : decode c_S_sumCubes 20 = .ok (.iload_n 1, 1) := by decide +kernel
theorem d_S_sumCubes_21 : decode c_S_sumCubes 21 = .ok (.imul, 1) := by decide +kernel
theorem d_S_sumCubes_22 : decode c_S_sumCubes 22 = .ok (.iconst 1, 1) := by decide +kernel
theorem d_S_sumCubes_23 : decode c_S_sumCubes 23 = .ok (.iadd, 1) := by decide +kernel
theorem d_S_sumCubes_24 : decode c_S_sumCubes 24 = .ok (.istore_n 2, 1) := by decide +kernel
theorem d_S_sumCubes_25 : decode c_S_sumCubes 25 = .ok (.aload_n 0, 1) := by decide +kernel
theorem d_S_sumCubes_26 : decode c_S_sumCubes 26 = .ok (.bipush 10, 2) := by decide +kernel
theorem d_S_sumCubes_28 : decode c_S_sumCubes 28 = .ok (.iload_n 1, 1) := by decide +kernel
theorem d_S_sumCubes_29 : decode c_S_sumCubes 29 = .ok (.imul, 1) := by decide +kernel
theorem d_S_sumCubes_30 : decode c_S_sumCubes 30 = .ok (.invokevirtual 84, 3) := by decide +kernel
theorem d_S_sumCubes_33 : decode c_S_sumCubes 33 = .ok (.istore_n 3, 1) := by decide +kernel
theorem d_S_sumCubes_34 : decode c_S_sumCubes 34 = .ok (.aload_n 0, 1) := by decide +kernel
theorem d_S_sumCubes_35 : decode c_S_sumCubes 35 = .ok (.getfield 20, 3) := by decide +kernel
theorem d_S_sumCubes_38 : decode c_S_sumCubes 38 = .ok (.aload_n 0, 1) := by decide +kernel
theorem d_S_sumCubes_39 : decode c_S_sumCubes 39 = .ok (.getfield 36, 3) := by decide +kernel
theorem d_S_sumCubes_42 : decode c_S_sumCubes 42 = .ok (.dup2, 1) := by decide +kernel
theorem d_S_sumCubes_43 : decode c_S_sumCubes 43 = .ok (.laload, 1) := by decide +kernel
theorem d_S_sumCubes_44 : decode c_S_sumCubes 44 = .ok (.sipush 205, 3) := by decide +kernel
theorem d_S_sumCubes_47 : decode c_S_sumCubes 47 = .ok (.iload_n 1, 1) := by decide +kernel
theorem d_S_sumCubes_48 : decode c_S_sumCubes 48 = .ok (.imul, 1) := by decide +kernel
theorem d_S_sumCubes_49 : decode c_S_sumCubes 49 = .ok (.iload_n 1, 1) := by decide +kernel
theorem d_S_sumCubes_50 : decode c_S_sumCubes 50 = .ok (.imul, 1) := by decide +kernel
theorem d_S_sumCubes_51 : decode c_S_sumCubes 51 = .ok (.sipush 250, 3) := by decide +kernel
theorem d_S_sumCubes_54 : decode c_S_sumCubes 54 = .ok (.iload_n 1, 1) := by decide +kernel
theorem d_S_sumCubes_55 : decode c_S_sumCubes 55 = .ok (.imul, 1) := by decide +kernel
theorem d_S_sumCubes_56 : decode c_S_sumCubes 56 = .ok (.iadd, 1) := by decide +kernel
theorem d_S_sumCubes_57 : decode c_S_sumCubes 57 = .ok (.bipush 77, 2) := by decide +kernel
theorem d_S_sumCubes_59 : decode c_S_sumCubes 59 = .ok (.iadd, 1) := by decide +kernel
theorem d_S_sumCubes_60 : decode c_S_sumCubes 60 = .ok (.i2l, 1) := by decide +kernel
theorem d_S_sumCubes_61 : decode c_S_sumCubes 61 = .ok (.ladd, 1) := by decide +kernel
theorem d_S_sumCubes_62 : decode c_S_sumCubes 62 = .ok (.lastore, 1) := by decide +kernel
theorem d_S_sumCubes_63 : decode c_S_sumCubes 63 = .ok (.aload_n 0, 1) := by decide +kernel
theorem d_S_sumCubes_64 : decode c_S_sumCubes 64 = .ok (.iload_n 1, 1) := by decide +kernel
theorem d_S_sumCubes_65 : decode c_S_sumCubes 65 = .ok (.iload_n 1, 1) := by decide +kernel
theorem d_S_sumCubes_66 : decode c_S_sumCubes 66 = .ok (.imul, 1) := by decide +kernel
theorem d_S_sumCubes_67 : decode c_S_sumCubes 67 = .ok (.iload_n 2, 1) := by decide +kernel
theorem d_S_sumCubes_68 : decode c_S_sumCubes 68 = .ok (.iload_n 2, 1) := by decide +kernel
theorem d_S_sumCubes_69 : decode c_S_sumCubes 69 = .ok (.imul, 1) := by decide +kernel
theorem d_S_sumCubes_70 : decode c_S_sumCubes 70 = .ok (.iload_n 3, 1) := by decide +kernel
theorem d_S_sumCubes_71 : decode c_S_sumCubes 71 = .ok (.invokevirtual 69, 3) := by decide +kernel
theorem d_S_sumCubes_74 : decode c_S_sumCubes 74 = .ok (.aload_n 0, 1) := by decide +kernel
theorem d_S_sumCubes_75 : decode c_S_sumCubes 75 = .ok (.iload_n 1, 1) := by decide +kernel
theorem d_S_sumCubes_76 : decode c_S_sumCubes 76 = .ok (.iload_n 1, 1) := by decide +kernel
theorem d_S_sumCubes_77 : decode c_S_sumCubes 77 = .ok (.imul, 1) := by decide +kernel
theorem d_S_sumCubes_78 : decode c_S_sumCubes 78 = .ok (.iload_n 2, 1) := by decide +kernel
theorem d_S_sumCubes_79 : decode c_S_sumCubes 79 = .ok (.iload_n 2, 1) := by decide +kernel
theorem d_S_sumCubes_80 : decode c_S_sumCubes 80 = .ok (.imul, 1) := by decide +kernel
theorem d_S_sumCubes_81 : decode c_S_sumCubes 81 = .ok (.iload_n 3, 1) := by decide +kernel
theorem d_S_sumCubes_82 : decode c_S_sumCubes 82 = .ok (.invokevirtual 69, 3) := by decide +kernel
theorem d_S_sumCubes_85 : decode c_S_sumCubes 85 = .ok (.aload_n 0, 1) := by decide +kernel
theorem d_S_sumCubes_86 : decode c_S_sumCubes 86 = .ok (.iload_n 1, 1) := by decide +kernel
theorem d_S_sumCubes_87 : decode c_S_sumCubes 87 = .ok (.ineg, 1) := by decide +kernel
theorem d_S_sumCubes_88 : decode c_S_sumCubes 88 = .ok (.bipush 32, 2) := by decide +kernel
theorem d_S_sumCubes_90 : decode c_S_sumCubes 90 = .ok (.iload_n 2, 1) := by decide +kernel
theorem d_S_sumCubes_91 : decode c_S_sumCubes 91 = .ok (.imul, 1) := by decide +kernel
theorem d_S_sumCubes_92 : decode c_S_sumCubes 92 = .ok (.iload_n 3, 1) := by decide +kernel
theorem d_S_sumCubes_93 : decode c_S_sumCubes 93 = .ok (.invokevirtual 69, 3) := by decide +kernel
theorem d_S_sumCubes_96 : decode c_S_sumCubes 96 = .ok (.iinc 1 (-1), 3) := by decide +kernel
theorem d_S_sumCubes_99 : decode c_S_sumCubes 99 = .ok (.goto (-85), 3) := by decide +kernel
theorem d_S_sumCubes_102 : decode c_S_sumCubes 102 = .ok (.aload_n 0, 1) := by decide +kernel
theorem d_S_sumCubes_103 : decode c_S_sumCubes 103 = .ok (.getfield 20, 3) := by decide +kernel
theorem d_S_sumCubes_106 : decode c_S_sumCubes 106 = .ok (.aload_n 0, 1) := by decide +kernel
theorem d_S_sumCubes_107 : decode c_S_sumCubes 107 = .ok (.getfield 36, 3) := by decide +kernel
theorem d_S_sumCubes_110 : decode c_S_sumCubes 110 = .ok (.dup2, 1) := by decide +kernel
theorem d_S_sumCubes_111 : decode c_S_sumCubes 111 = .ok (.laload, 1) := by decide +kernel
theorem d_S_sumCubes_112 : decode c_S_sumCubes 112 = .ok (.ldc2_w 91, 3) := by decide +kernel
theorem d_S_sumCubes_115 : decode c_S_sumCubes 115 = .ok (.ladd, 1) := by decide +kernel
theorem d_S_sumCubes_116 : decode c_S_sumCubes 116 = .ok (.lastore, 1) := by decide +kernel
theorem d_S_sumCubes_117 : decode c_S_sumCubes 117 = .ok (.aload_n 0, 1) := by decide +kernel
theorem d_S_sumCubes_118 : decode c_S_sumCubes 118 = .ok (.iconst 1, 1) := by decide +kernel
theorem d_S_sumCubes_119 : decode c_S_sumCubes 119 = .ok (.bipush 64, 2) := by decide +kernel
theorem d_S_sumCubes_121 : decode c_S_sumCubes 121 = .ok (.iconst 0, 1) := by decide +kernel
theorem d_S_sumCubes_122 : decode c_S_sumCubes 122 = .ok (.invokevirtual 69, 3) := by decide +kernel
theorem d_S_sumCubes_125 : decode c_S_sumCubes 125 = .ok (.aload_n 0, 1) := by decide +kernel
theorem d_S_sumCubes_126 : decode c_S_sumCubes 126 = .ok (.invokevirtual 73, 3) := by decide +kernel
theorem d_S_sumCubes_129 : decode c_S_sumCubes 129 = .ok (.return_, 1) := by decide +kernel
theorem d_S_settle_0 : decode c_S_settle 0 = .ok (.aload_n 0, 1) := by decide +kernel
theorem d_S_settle_1 : decode c_S_settle 1 = .ok (.getfield 24, 3) := by decide +kernel
theorem d_S_settle_4 : decode c_S_settle 4 = .ok (.iconst 1, 1) := by decide +kernel
theorem d_S_settle_5 : decode c_S_settle 5 = .ok (.dup2, 1) := by decide +kernel
theorem d_S_settle_6 : decode c_S_settle 6 = .ok (.laload, 1) := by decide +kernel
theorem d_S_settle_7 : decode c_S_settle 7 = .ok (.lconst 1, 1) := by decide +kernel
theorem d_S_settle_8 : decode c_S_settle 8 = .ok (.lsub, 1) := by decide +kernel
theorem d_S_settle_9 : decode c_S_settle 9 = .ok (.lastore, 1) := by decide +kernel
theorem d_S_settle_10 : decode c_S_settle 10 = .ok (.aload_n 0, 1) := by decide +kernel
theorem d_S_settle_11 : decode c_S_settle 11 = .ok (.getfield 11, 3) := by decide +kernel
theorem d_S_settle_14 : decode c_S_settle 14 = .ok (.iload_n 1, 1) := by decide +kernel
theorem d_S_settle_15 : decode c_S_settle 15 = .ok (.aaload, 1) := by decide +kernel
theorem d_S_settle_16 : decode c_S_settle 16 = .ok (.astore_n 2, 1) := by decide +kernel
theorem d_S_settle_17 : decode c_S_settle 17 = .ok (.lconst 0, 1) := by decide +kernel
theorem d_S_settle_18 : decode c_S_settle 18 = .ok (.lstore_n 3, 1) := by decide +kernel
theorem d_S_settle_19 : decode c_S_settle 19 = .ok (.iconst 0, 1) := by decide +kernel
theorem d_S_settle_20 : decode c_S_settle 20 = .ok (.istore 5, 2) := by decide +kernel
theorem d_S_settle_22 : decode c_S_settle 22 = .ok (.iload 5, 2) := by decide +kernel
theorem d_S_settle_24 : decode c_S_settle 24 = .ok (.aload_n 0, 1) := by decide +kernel
theorem d_S_settle_25 : decode c_S_settle 25 = .ok (.getfield 36, 3) := by decide +kernel
theorem d_S_settle_28 : decode c_S_settle 28 = .ok (.if_icmp .gt 34, 3) := by decide +kernel
theorem d_S_settle_31 : decode c_S_settle 31 = .ok (.lload_n 3, 1) := by decide +kernel
theorem d_S_settle_32 : decode c_S_settle 32 = .ok (.aload_n 0, 1) := by decide +kernel
theorem d_S_settle_33 : decode c_S_settle 33 = .ok (.getfield 24, 3) := by decide +kernel
theorem d_S_settle_36 : decode c_S_settle 36 = .ok (.iload 5, 2) := by decide +kernel
theorem d_S_settle_38 : decode c_S_settle 38 = .ok (.laload, 1) := by decide +kernel
theorem d_S_settle_39 : decode c_S_settle 39 = .ok (.ladd, 1) := by decide +kernel
theorem d_S_settle_40 : decode c_S_settle 40 = .ok (.lstore_n 3, 1) := by decide +kernel
theorem d_S_settle_41 : decode c_S_settle 41 = .ok (.aload_n 2, 1) := by decide +kernel
theorem d_S_settle_42 : decode c_S_settle 42 = .ok (.iload 5, 2) := by decide +kernel
theorem d_S_settle_44 : decode c_S_settle 44 = .ok (.lload_n 3, 1) := by decide +kernel
theorem d_S_settle_45 : decode c_S_settle 45 = .ok (.ldc2_w 93, 3) := by decide +kernel
theorem d_S_settle_48 : decode c_S_settle 48 = .ok (.land, 1) := by decide +kernel
theorem d_S_settle_49 : decode c_S_settle 49 = .ok (.l2i, 1) := by decide +kernel
theorem d_S_settle_50 : decode c_S_settle 50 = .ok (.iastore, 1) := by decide +kernel
theorem d_S_settle_51 : decode c_S_settle 51 = .ok (.lload_n 3, 1) := by decide +kernel
theorem d_S_settle_52 : decode c_S_settle 52 = .ok (.bipush 30, 2) := by decide +kernel
theorem d_S_settle_54 : decode c_S_settle 54 = .ok (.lshr, 1) := by decide +kernel
theorem d_S_settle_55 : decode c_S_settle 55 = .ok (.lstore_n 3, 1) := by decide +kernel
theorem d_S_settle_56 : decode c_S_settle 56 = .ok (.iinc 5 1, 3) := by decide +kernel
theorem d_S_settle_59 : decode c_S_settle 59 = .ok (.goto (-37), 3) := by decide +kernel
theorem d_S_settle_62 : decode c_S_settle 62 = .ok (.aload_n 0, 1) := by decide +kernel
theorem d_S_settle_63 : decode c_S_settle 63 = .ok (.getfield 16, 3) := by decide +kernel
theorem d_S_settle_66 : decode c_S_settle 66 = .ok (.iload_n 1, 1) := by decide +kernel
theorem d_S_settle_67 : decode c_S_settle 67 = .ok (.aload_n 0, 1) := by decide +kernel
theorem d_S_settle_68 : decode c_S_settle 68 = .ok (.getfield 36, 3) := by decide +kernel
theorem d_S_settle_71 : decode c_S_settle 71 = .ok (.iastore, 1) := by decide +kernel
theorem d_S_settle_72 : decode c_S_settle 72 = .ok (.return_, 1) := by decide +kernel
theorem d_S_row_0 : decode c_S_row 0 = .ok (.aload_n 0, 1) := by decide +kernel
theorem d_S_row_1 : decode c_S_row 1 = .ok (.getfield 11, 3) := by decide +kernel
theorem d_S_row_4 : decode c_S_row 4 = .ok (.iload_n 1, 1) := by decide +kernel
theorem d_S_row_5 : decode c_S_row 5 = .ok (.aaload, 1) := by decide +kernel
theorem d_S_row_6 : decode c_S_row 6 = .ok (.areturn, 1) := by decide +kernel
end
section
theorem wn_Sys : Cond.initialized "java/lang/System" ∈ TT := tt_of 73 (by decide +kernel) (by decide +kernel)
theorem wi_obj : Cond.instanceMethod objectInit ∈ TT := tt_of 85 (by decide +kernel) (by decide +kernel)
theorem wc_obj : Cond.code objectInit ⟨#[0xb1]⟩ 1 none ∈ TT := tt_of 86 (by decide +kernel) (by decide +kernel)
theorem wq_H_25 : Cond.methodLink R_H 25 Lib.Math.min.name ∈ TT := tt_of 226 (by decide +kernel) (by decide +kernel)
theorem wt_Min : Cond.static Lib.Math.min.name ∈ TT := tt_of 227 (by decide +kernel) (by decide +kernel)
theorem wc_Min : Cond.code Lib.Math.min.name Lib.Math.min.code 2 (some .int) ∈ TT := tt_of 228 (by decide +kernel) (by decide +kernel)
theorem wt_copy : Cond.static arraycopyName ∈ TT := tt_of 230 (by decide +kernel) (by decide +kernel)
theorem wz_copy : Cond.native arraycopyName ∈ TT := tt_of 231 (by decide +kernel) (by decide +kernel)
theorem wq_T_71 : Cond.methodLink R_T 71 Lib.Math.max.name ∈ TT := tt_of 257 (by decide +kernel) (by decide +kernel)
theorem wt_Max : Cond.static Lib.Math.max.name ∈ TT := tt_of 258 (by decide +kernel) (by decide +kernel)
theorem wc_Max : Cond.code Lib.Math.max.name Lib.Math.max.code 2 (some .int) ∈ TT := tt_of 259 (by decide +kernel) (by decide +kernel)
theorem wq_B_79 : Cond.methodLink R_B 79 Lib.MathLoose.min_long.x ∈ TT := tt_of 647 (by decide +kernel) (by decide +kernel)
theorem wt_MinL : Cond.static Lib.MathLoose.min_long.x ∈ TT := tt_of 648 (by decide +kernel) (by decide +kernel)
theorem wc_MinL : Cond.code Lib.MathLoose.min_long.x Lib.MathLoose.min_long.code 4 (some .long) ∈ TT := tt_of 649 (by decide +kernel) (by decide +kernel)
theorem wq_H_44 : Cond.methodLink R_H 44 Lib.Math.max.name ∈ TT := tt_of 663 (by decide +kernel) (by decide +kernel)
theorem wq_S_27 : Cond.methodLink R_S 27 Lib.Math.max.name ∈ TT := tt_of 760 (by decide +kernel) (by decide +kernel)
theorem wq_S_33 : Cond.methodLink R_S 33 Lib.Math.min.name ∈ TT := tt_of 761 (by decide +kernel) (by decide +kernel)
end
section
/-! THE Z LAYER: the world is a list of cells by place; a reference is a place -/
def zV (ad : Nat → Nat) : Value → Value
  | .ref k => .ref (ad k)
  | v => v
def zA (ad : Nat → Nat) (a : vp_A) : vp_A := match a.2 with
  | .inr (.inr (.inr (.inr f))) => (a.1, .inr (.inr (.inr (.inr (fun j => (f j).map ad)))))
  | _ => a
def zE (dA ad : Nat → Nat) : va_E → va_E
  | .inl q => .inl (dA q.1, zA ad q.2)
  | .inr q => .inr (q.1, q.2.map (zV ad))
def zW (dA ad : Nat → Nat) (w : List va_E) : va_W := w.mapIdx fun k e => (ad k, zE dA ad e)
def zL (ad : Nat → Nat) (lv : List (Nat × Value)) : List (Nat × Value) := lv.map fun q => (q.1, zV ad q.2)
abbrev ztys (dA : Nat → Nat) : List (ClassId × FieldType) := [(dA 0, .int), (dA 1, .long), (dA 2, .array .int)]
theorem zW_at {dA ad : Nat → Nat} {w : List va_E} {k : Nat} {e : va_E} (h : w[k]? = some e) : (zW dA ad w)[k]? = some (ad k, zE dA ad e) := by
  simp [zW, List.getElem?_mapIdx, h]
theorem zW_len {dA ad : Nat → Nat} {w : List va_E} : (zW dA ad w).length = w.length := by simp [zW]
theorem zW_set {dA ad : Nat → Nat} {w : List va_E} {k : Nat} {e : va_E} : zW dA ad (w.set k e) = (zW dA ad w).set k (ad k, zE dA ad e) := by
  apply List.ext_getElem?
  intro i
  simp only [zW, List.getElem?_mapIdx, List.getElem?_set, List.length_mapIdx]
  by_cases h : k = i
  · subst h
    by_cases h2 : k < w.length <;> simp [h2]
  · simp [h]
theorem zV_cat (ad : Nat → Nat) (v : Value) : (zV ad v).category = v.category := by cases v <;> rfl
def zg : List (Nat × Value) → Nat → Option Value
  | [], _ => none
  | q :: l, i => match Nat.beq q.1 i with
    | true => some q.2
    | false => zg l i
theorem zg_mem : ∀ {lv : List (Nat × Value)} {i : Nat} {v : Value}, zg lv i = some v → (i, v) ∈ lv
  | [], _, _, h => by cases h
  | q :: l, i, v, h => by
    unfold zg at h
    split at h
    · rename_i hb
      have h1 : q.1 = i := Nat.eq_of_beq_eq_true hb
      have h2 : q.2 = v := Option.some.inj h
      rw [← h1, ← h2]
      exact List.mem_cons_self
    · exact List.mem_cons_of_mem _ (zg_mem h)
theorem zl_at {ad : Nat → Nat} {ls : Array Slot} {nL : Nat} {lv : List (Nat × Value)} {i : Nat} {v : Value} (h : lv_has ls nL (zL ad lv)) (hg : zg lv i = some v) : ls[i]? = some (.val (zV ad v)) :=
  h.2.2 (i, zV ad v) (List.mem_map.mpr ⟨(i, v), zg_mem hg, rfl⟩)
def zs1 (lv : List (Nat × Value)) (i : Nat) (v : Value) : List (Nat × Value) := (i, v) :: lv.filter (fun q => !(q.1 == i) && !(q.1 + 1 == i && q.2.category == 2))
def zs2 (lv : List (Nat × Value)) (i : Nat) (v : Value) : List (Nat × Value) := (i, v) :: lv.filter (fun q => !(q.1 == i) && (!(q.1 == i + 1) && !(q.1 + 1 == i && q.2.category == 2)))
theorem zL_s1 {ad : Nat → Nat} {lv : List (Nat × Value)} {i : Nat} {v : Value} : (i, zV ad v) :: (zL ad lv).filter (fun q => !(q.1 == i) && !(q.1 + 1 == i && q.2.category == 2)) = zL ad (zs1 lv i v) := by
  simp only [zL, zs1, List.map_cons, List.filter_map, Function.comp_def, zV_cat]
theorem zL_s2 {ad : Nat → Nat} {lv : List (Nat × Value)} {i : Nat} {v : Value} : (i, zV ad v) :: (zL ad lv).filter (fun q => !(q.1 == i) && (!(q.1 == i + 1) && !(q.1 + 1 == i && q.2.category == 2))) = zL ad (zs2 lv i v) := by
  simp only [zL, zs2, List.map_cons, List.filter_map, Function.comp_def, zV_cat]
abbrev ZP : Type := Nat → Nat → List va_E → List (Nat × Value) → Nat → List Value → Prop
def Zof (p : Program) (l : Launch) (e : Env) (R : Room) (s : State) (m : MethodId) (args : Array Value) (below : List Frame) (meth : Method) (c : Code) (nL : Nat) (D : va_G) (dA : Nat → Nat) (A : Nat → Prop) (ad0 : Nat → Nat) (n0 : Nat) (Q : State → Prop) : ZP := fun k n w lv pc st =>
  ∀ (ad : Nat → Nat) (H : Heap) (locs : List Loc) (ls : Array Slot), (∀ i, (i < n0 ∨ w.length ≤ i) → ad i = ad0 i) → n0 ≤ w.length → va_P D clz (zW dA ad w) H → va_D A (zW dA ad w) → va_S A s.heap H locs → lv_has ls nL (zL ad lv) →
    W p l e R s m args below meth c H locs k n Q (F0 m pc ls (st.map (zV ad)))
def zOK (p : Program) (s : State) (m : MethodId) (args : Array Value) (c : Code) (own : String) (cc : ByteArray) (nL : Nat) (D : va_G) (dA : Nat → Nat) (A : Nat → Prop) : Prop :=
  p.tables.exec = Jvm.exec ∧ c.code = cc ∧ c.maxLocals = nL ∧ s.vm.findClass own = some m.cls ∧ (∀ w ∈ TT, w.before args s = true) ∧ (∀ w ∈ NT, va_Nw w s) ∧ va_K D clz (ztys dA) s ∧ (∀ q, s.heap.size ≤ q → A q)
def Cb (Z : ZP) (own : String) (cc : ByteArray) (nL : Nat) (R : Room) : Prop :=
  ∃ (p : Program) (l : Launch) (e : Env) (s : State) (m : MethodId) (args : Array Value) (below : List Frame) (meth : Method) (c : Code) (D : va_G) (dA : Nat → Nat) (A : Nat → Prop) (ad0 : Nat → Nat) (n0 : Nat) (Q : State → Prop), zOK p s m args c own cc nL D dA A ∧ Z = Zof p l e R s m args below meth c nL D dA A ad0 n0 Q
section ZR
variable {Z : ZP} {own : String} {cc : ByteArray} {nL : Nat} {R : Room} {k n pc : Nat} {w : List va_E} {lv : List (Nat × Value)} {st : List Value}
theorem z_iconst (h : Cb Z own cc nL R) {i : Int} {v : Int32} (d : decode cc pc = .ok (.iconst i, 1)) (hv : Int32.ofInt i = v) (kk : Z k n w lv (pc + 1) (.int v :: st)) : Z k n w lv pc st := by
  obtain ⟨p, l, e, s, m, args, below, meth, c, D, dA, A, ad0, n0, Q, ⟨hx, hb, hml, ho, hts, hnt, hK, hA⟩, rfl⟩ := h
  intro ad H locs ls h1 h2 h3 h4 h5 h6
  exact lv_iconst hx hb d hv (kk ad H locs ls h1 h2 h3 h4 h5 h6)
theorem z_bipush (h : Cb Z own cc nL R) {i : Int} {v : Int32} (d : decode cc pc = .ok (.bipush i, 2)) (hv : (Int8.ofInt i).toInt32 = v) (kk : Z k n w lv (pc + 2) (.int v :: st)) : Z k n w lv pc st := by
  obtain ⟨p, l, e, s, m, args, below, meth, c, D, dA, A, ad0, n0, Q, ⟨hx, hb, hml, ho, hts, hnt, hK, hA⟩, rfl⟩ := h
  intro ad H locs ls h1 h2 h3 h4 h5 h6
  exact lv_bipush hx hb d hv (kk ad H locs ls h1 h2 h3 h4 h5 h6)
theorem z_sipush (h : Cb Z own cc nL R) {i : Int} {v : Int32} (d : decode cc pc = .ok (.sipush i, 3)) (hv : (Int16.ofInt i).toInt32 = v) (kk : Z k n w lv (pc + 3) (.int v :: st)) : Z k n w lv pc st := by
  obtain ⟨p, l, e, s, m, args, below, meth, c, D, dA, A, ad0, n0, Q, ⟨hx, hb, hml, ho, hts, hnt, hK, hA⟩, rfl⟩ := h
  intro ad H locs ls h1 h2 h3 h4 h5 h6
  exact lv_sipush hx hb d hv (kk ad H locs ls h1 h2 h3 h4 h5 h6)
theorem z_lconst (h : Cb Z own cc nL R) {i : Fin 2} {v : Int64} (d : decode cc pc = .ok (.lconst i, 1)) (hv : Int64.ofNat (i : Nat) = v) (kk : Z k n w lv (pc + 1) (.long v :: st)) : Z k n w lv pc st := by
  obtain ⟨p, l, e, s, m, args, below, meth, c, D, dA, A, ad0, n0, Q, ⟨hx, hb, hml, ho, hts, hnt, hK, hA⟩, rfl⟩ := h
  intro ad H locs ls h1 h2 h3 h4 h5 h6
  exact lv_lconst hx hb d hv (kk ad H locs ls h1 h2 h3 h4 h5 h6)
theorem z_ldc (h : Cb Z own cc nL R) {i : Nat} {v : Int32} (d : decode cc pc = .ok (.ldc i, 2)) (hw : Cond.constant own i v ∈ TT) (kk : Z k n w lv (pc + 2) (.int v :: st)) : Z k n w lv pc st := by
  obtain ⟨p, l, e, s, m, args, below, meth, c, D, dA, A, ad0, n0, Q, ⟨hx, hb, hml, ho, hts, hnt, hK, hA⟩, rfl⟩ := h
  intro ad H locs ls h1 h2 h3 h4 h5 h6
  exact lv_ldc hx hb ho (hts _ hw) d (kk ad H locs ls h1 h2 h3 h4 h5 h6)
theorem z_ldc_w (h : Cb Z own cc nL R) {i : Nat} {v : Int32} (d : decode cc pc = .ok (.ldc_w i, 3)) (hw : Cond.constant own i v ∈ TT) (kk : Z k n w lv (pc + 3) (.int v :: st)) : Z k n w lv pc st := by
  obtain ⟨p, l, e, s, m, args, below, meth, c, D, dA, A, ad0, n0, Q, ⟨hx, hb, hml, ho, hts, hnt, hK, hA⟩, rfl⟩ := h
  intro ad H locs ls h1 h2 h3 h4 h5 h6
  exact lv_ldcw hx hb ho (hts _ hw) d (kk ad H locs ls h1 h2 h3 h4 h5 h6)
theorem z_ldc2_w (h : Cb Z own cc nL R) {i : Nat} {v : Int64} (d : decode cc pc = .ok (.ldc2_w i, 3)) (hw : Cond.constantLong own i v ∈ TT) (kk : Z k n w lv (pc + 3) (.long v :: st)) : Z k n w lv pc st := by
  obtain ⟨p, l, e, s, m, args, below, meth, c, D, dA, A, ad0, n0, Q, ⟨hx, hb, hml, ho, hts, hnt, hK, hA⟩, rfl⟩ := h
  intro ad H locs ls h1 h2 h3 h4 h5 h6
  exact lv_ldc2 hx hb ho (hts _ hw) d (kk ad H locs ls h1 h2 h3 h4 h5 h6)
theorem z_iload_n (h : Cb Z own cc nL R) {i : Fin 4} {x : Int32} (d : decode cc pc = .ok (.iload_n i, 1)) (hg : zg lv (i : Nat) = some (.int x)) (kk : Z k n w lv (pc + 1) (.int x :: st)) : Z k n w lv pc st := by
  obtain ⟨p, l, e, s, m, args, below, meth, c, D, dA, A, ad0, n0, Q, ⟨hx, hb, hml, ho, hts, hnt, hK, hA⟩, rfl⟩ := h
  intro ad H locs ls h1 h2 h3 h4 h5 h6
  exact lv_iload_n hx hb d rfl (zl_at h6 hg) (kk ad H locs ls h1 h2 h3 h4 h5 h6)
theorem z_iload (h : Cb Z own cc nL R) {i : Nat} {x : Int32} (d : decode cc pc = .ok (.iload i, 2)) (hg : zg lv i = some (.int x)) (kk : Z k n w lv (pc + 2) (.int x :: st)) : Z k n w lv pc st := by
  obtain ⟨p, l, e, s, m, args, below, meth, c, D, dA, A, ad0, n0, Q, ⟨hx, hb, hml, ho, hts, hnt, hK, hA⟩, rfl⟩ := h
  intro ad H locs ls h1 h2 h3 h4 h5 h6
  exact lv_iload hx hb d (zl_at h6 hg) (kk ad H locs ls h1 h2 h3 h4 h5 h6)
theorem z_istore_n (h : Cb Z own cc nL R) {i : Fin 4} {x : Int32} (d : decode cc pc = .ok (.istore_n i, 1)) (hn : (i : Nat) < nL) (kk : Z k n w (zs1 lv i (.int x)) (pc + 1) st) : Z k n w lv pc (.int x :: st) := by
  obtain ⟨p, l, e, s, m, args, below, meth, c, D, dA, A, ad0, n0, Q, ⟨hx, hb, hml, ho, hts, hnt, hK, hA⟩, rfl⟩ := h
  intro ad H locs ls h1 h2 h3 h4 h5 h6
  exact lv_istore_n hx hb d rfl h6 hn (zL_s1 (v := .int x)) (fun ls h6 => kk ad H locs ls h1 h2 h3 h4 h5 h6)
theorem z_istore (h : Cb Z own cc nL R) {i : Nat} {x : Int32} (d : decode cc pc = .ok (.istore i, 2)) (hn : (i : Nat) < nL) (kk : Z k n w (zs1 lv i (.int x)) (pc + 2) st) : Z k n w lv pc (.int x :: st) := by
  obtain ⟨p, l, e, s, m, args, below, meth, c, D, dA, A, ad0, n0, Q, ⟨hx, hb, hml, ho, hts, hnt, hK, hA⟩, rfl⟩ := h
  intro ad H locs ls h1 h2 h3 h4 h5 h6
  exact lv_istore hx hb d h6 hn (zL_s1 (v := .int x)) (fun ls h6 => kk ad H locs ls h1 h2 h3 h4 h5 h6)
theorem z_lload_n (h : Cb Z own cc nL R) {i : Fin 4} {x : Int64} (d : decode cc pc = .ok (.lload_n i, 1)) (hg : zg lv (i : Nat) = some (.long x)) (kk : Z k n w lv (pc + 1) (.long x :: st)) : Z k n w lv pc st := by
  obtain ⟨p, l, e, s, m, args, below, meth, c, D, dA, A, ad0, n0, Q, ⟨hx, hb, hml, ho, hts, hnt, hK, hA⟩, rfl⟩ := h
  intro ad H locs ls h1 h2 h3 h4 h5 h6
  exact lv_lload_n hx hb d rfl (zl_at h6 hg) (kk ad H locs ls h1 h2 h3 h4 h5 h6)
theorem z_lload (h : Cb Z own cc nL R) {i : Nat} {x : Int64} (d : decode cc pc = .ok (.lload i, 2)) (hg : zg lv i = some (.long x)) (kk : Z k n w lv (pc + 2) (.long x :: st)) : Z k n w lv pc st := by
  obtain ⟨p, l, e, s, m, args, below, meth, c, D, dA, A, ad0, n0, Q, ⟨hx, hb, hml, ho, hts, hnt, hK, hA⟩, rfl⟩ := h
  intro ad H locs ls h1 h2 h3 h4 h5 h6
  exact lv_lload hx hb d (zl_at h6 hg) (kk ad H locs ls h1 h2 h3 h4 h5 h6)
theorem z_lstore_n (h : Cb Z own cc nL R) {i : Fin 4} {x : Int64} (d : decode cc pc = .ok (.lstore_n i, 1)) (hn : (i : Nat) + 1 < nL) (kk : Z k n w (zs2 lv i (.long x)) (pc + 1) st) : Z k n w lv pc (.long x :: st) := by
  obtain ⟨p, l, e, s, m, args, below, meth, c, D, dA, A, ad0, n0, Q, ⟨hx, hb, hml, ho, hts, hnt, hK, hA⟩, rfl⟩ := h
  intro ad H locs ls h1 h2 h3 h4 h5 h6
  exact lv_lstore_n hx hb d rfl h6 hn (zL_s2 (v := .long x)) (fun ls h6 => kk ad H locs ls h1 h2 h3 h4 h5 h6)
theorem z_lstore (h : Cb Z own cc nL R) {i : Nat} {x : Int64} (d : decode cc pc = .ok (.lstore i, 2)) (hn : (i : Nat) + 1 < nL) (kk : Z k n w (zs2 lv i (.long x)) (pc + 2) st) : Z k n w lv pc (.long x :: st) := by
  obtain ⟨p, l, e, s, m, args, below, meth, c, D, dA, A, ad0, n0, Q, ⟨hx, hb, hml, ho, hts, hnt, hK, hA⟩, rfl⟩ := h
  intro ad H locs ls h1 h2 h3 h4 h5 h6
  exact lv_lstore hx hb d h6 hn (zL_s2 (v := .long x)) (fun ls h6 => kk ad H locs ls h1 h2 h3 h4 h5 h6)
theorem z_aload_n (h : Cb Z own cc nL R) {i : Fin 4} {x : Nat} (d : decode cc pc = .ok (.aload_n i, 1)) (hg : zg lv (i : Nat) = some (.ref x)) (kk : Z k n w lv (pc + 1) (.ref x :: st)) : Z k n w lv pc st := by
  obtain ⟨p, l, e, s, m, args, below, meth, c, D, dA, A, ad0, n0, Q, ⟨hx, hb, hml, ho, hts, hnt, hK, hA⟩, rfl⟩ := h
  intro ad H locs ls h1 h2 h3 h4 h5 h6
  exact lv_aload_n hx hb d rfl (zl_at h6 hg) (kk ad H locs ls h1 h2 h3 h4 h5 h6)
theorem z_aload (h : Cb Z own cc nL R) {i : Nat} {x : Nat} (d : decode cc pc = .ok (.aload i, 2)) (hg : zg lv i = some (.ref x)) (kk : Z k n w lv (pc + 2) (.ref x :: st)) : Z k n w lv pc st := by
  obtain ⟨p, l, e, s, m, args, below, meth, c, D, dA, A, ad0, n0, Q, ⟨hx, hb, hml, ho, hts, hnt, hK, hA⟩, rfl⟩ := h
  intro ad H locs ls h1 h2 h3 h4 h5 h6
  exact lv_aload hx hb d (zl_at h6 hg) (kk ad H locs ls h1 h2 h3 h4 h5 h6)
theorem z_astore_n (h : Cb Z own cc nL R) {i : Fin 4} {x : Nat} (d : decode cc pc = .ok (.astore_n i, 1)) (hn : (i : Nat) < nL) (kk : Z k n w (zs1 lv i (.ref x)) (pc + 1) st) : Z k n w lv pc (.ref x :: st) := by
  obtain ⟨p, l, e, s, m, args, below, meth, c, D, dA, A, ad0, n0, Q, ⟨hx, hb, hml, ho, hts, hnt, hK, hA⟩, rfl⟩ := h
  intro ad H locs ls h1 h2 h3 h4 h5 h6
  exact lv_astore_n hx hb d rfl h6 hn (zL_s1 (v := .ref x)) (fun ls h6 => kk ad H locs ls h1 h2 h3 h4 h5 h6)
theorem z_astore (h : Cb Z own cc nL R) {i : Nat} {x : Nat} (d : decode cc pc = .ok (.astore i, 2)) (hn : (i : Nat) < nL) (kk : Z k n w (zs1 lv i (.ref x)) (pc + 2) st) : Z k n w lv pc (.ref x :: st) := by
  obtain ⟨p, l, e, s, m, args, below, meth, c, D, dA, A, ad0, n0, Q, ⟨hx, hb, hml, ho, hts, hnt, hK, hA⟩, rfl⟩ := h
  intro ad H locs ls h1 h2 h3 h4 h5 h6
  exact lv_astore hx hb d h6 hn (zL_s1 (v := .ref x)) (fun ls h6 => kk ad H locs ls h1 h2 h3 h4 h5 h6)
theorem z_iinc (h : Cb Z own cc nL R) {i : Nat} {b : Int} {x cst : Int32} (d : decode cc pc = .ok (.iinc i b, 3)) (hg : zg lv i = some (.int x)) (hv : Int32.ofInt b = cst) (hn : i < nL) (kk : Z k n w (zs1 lv i (.int (x + cst))) (pc + 3) st) : Z k n w lv pc st := by
  obtain ⟨p, l, e, s, m, args, below, meth, c, D, dA, A, ad0, n0, Q, ⟨hx, hb, hml, ho, hts, hnt, hK, hA⟩, rfl⟩ := h
  intro ad H locs ls h1 h2 h3 h4 h5 h6
  obtain ⟨q, hq⟩ := List.getElem?_of_mem (List.mem_map.mpr ⟨(i, .int x), zg_mem hg, rfl⟩ : (i, zV ad (.int x)) ∈ zL ad lv)
  exact lv_iinc hx hb d h6 hq (by rw [hv]) hn (zL_s1 (v := .int (x + cst))) (fun ls h6 => kk ad H locs ls h1 h2 h3 h4 h5 h6)
theorem z_iadd (h : Cb Z own cc nL R) {x y : Int32} (d : decode cc pc = .ok (.iadd, 1)) (kk : Z k n w lv (pc + 1) (.int (x + y) :: st)) : Z k n w lv pc (.int y :: .int x :: st) := by
  obtain ⟨p, l, e, s, m, args, below, meth, c, D, dA, A, ad0, n0, Q, ⟨hx, hb, hml, ho, hts, hnt, hK, hA⟩, rfl⟩ := h
  intro ad H locs ls h1 h2 h3 h4 h5 h6
  exact lv_iadd hx hb d (kk ad H locs ls h1 h2 h3 h4 h5 h6)
theorem z_isub (h : Cb Z own cc nL R) {x y : Int32} (d : decode cc pc = .ok (.isub, 1)) (kk : Z k n w lv (pc + 1) (.int (x - y) :: st)) : Z k n w lv pc (.int y :: .int x :: st) := by
  obtain ⟨p, l, e, s, m, args, below, meth, c, D, dA, A, ad0, n0, Q, ⟨hx, hb, hml, ho, hts, hnt, hK, hA⟩, rfl⟩ := h
  intro ad H locs ls h1 h2 h3 h4 h5 h6
  exact lv_isub hx hb d (kk ad H locs ls h1 h2 h3 h4 h5 h6)
theorem z_imul (h : Cb Z own cc nL R) {x y : Int32} (d : decode cc pc = .ok (.imul, 1)) (kk : Z k n w lv (pc + 1) (.int (x * y) :: st)) : Z k n w lv pc (.int y :: .int x :: st) := by
  obtain ⟨p, l, e, s, m, args, below, meth, c, D, dA, A, ad0, n0, Q, ⟨hx, hb, hml, ho, hts, hnt, hK, hA⟩, rfl⟩ := h
  intro ad H locs ls h1 h2 h3 h4 h5 h6
  exact lv_imul hx hb d (kk ad H locs ls h1 h2 h3 h4 h5 h6)
theorem z_iand (h : Cb Z own cc nL R) {x y : Int32} (d : decode cc pc = .ok (.iand, 1)) (kk : Z k n w lv (pc + 1) (.int (x &&& y) :: st)) : Z k n w lv pc (.int y :: .int x :: st) := by
  obtain ⟨p, l, e, s, m, args, below, meth, c, D, dA, A, ad0, n0, Q, ⟨hx, hb, hml, ho, hts, hnt, hK, hA⟩, rfl⟩ := h
  intro ad H locs ls h1 h2 h3 h4 h5 h6
  exact lv_iand hx hb d (kk ad H locs ls h1 h2 h3 h4 h5 h6)
theorem z_ior (h : Cb Z own cc nL R) {x y : Int32} (d : decode cc pc = .ok (.ior, 1)) (kk : Z k n w lv (pc + 1) (.int (x ||| y) :: st)) : Z k n w lv pc (.int y :: .int x :: st) := by
  obtain ⟨p, l, e, s, m, args, below, meth, c, D, dA, A, ad0, n0, Q, ⟨hx, hb, hml, ho, hts, hnt, hK, hA⟩, rfl⟩ := h
  intro ad H locs ls h1 h2 h3 h4 h5 h6
  exact lv_ior hx hb d (kk ad H locs ls h1 h2 h3 h4 h5 h6)
theorem z_ixor (h : Cb Z own cc nL R) {x y : Int32} (d : decode cc pc = .ok (.ixor, 1)) (kk : Z k n w lv (pc + 1) (.int (x ^^^ y) :: st)) : Z k n w lv pc (.int y :: .int x :: st) := by
  obtain ⟨p, l, e, s, m, args, below, meth, c, D, dA, A, ad0, n0, Q, ⟨hx, hb, hml, ho, hts, hnt, hK, hA⟩, rfl⟩ := h
  intro ad H locs ls h1 h2 h3 h4 h5 h6
  exact lv_ixor hx hb d (kk ad H locs ls h1 h2 h3 h4 h5 h6)
theorem z_ishl (h : Cb Z own cc nL R) {x y : Int32} (d : decode cc pc = .ok (.ishl, 1)) (kk : Z k n w lv (pc + 1) (.int (x <<< (y &&& 31)) :: st)) : Z k n w lv pc (.int y :: .int x :: st) := by
  obtain ⟨p, l, e, s, m, args, below, meth, c, D, dA, A, ad0, n0, Q, ⟨hx, hb, hml, ho, hts, hnt, hK, hA⟩, rfl⟩ := h
  intro ad H locs ls h1 h2 h3 h4 h5 h6
  exact lv_ishl hx hb d (kk ad H locs ls h1 h2 h3 h4 h5 h6)
theorem z_ishr (h : Cb Z own cc nL R) {x y : Int32} (d : decode cc pc = .ok (.ishr, 1)) (kk : Z k n w lv (pc + 1) (.int (x >>> (y &&& 31)) :: st)) : Z k n w lv pc (.int y :: .int x :: st) := by
  obtain ⟨p, l, e, s, m, args, below, meth, c, D, dA, A, ad0, n0, Q, ⟨hx, hb, hml, ho, hts, hnt, hK, hA⟩, rfl⟩ := h
  intro ad H locs ls h1 h2 h3 h4 h5 h6
  exact lv_ishr hx hb d (kk ad H locs ls h1 h2 h3 h4 h5 h6)
theorem z_ladd (h : Cb Z own cc nL R) {x y : Int64} (d : decode cc pc = .ok (.ladd, 1)) (kk : Z k n w lv (pc + 1) (.long (x + y) :: st)) : Z k n w lv pc (.long y :: .long x :: st) := by
  obtain ⟨p, l, e, s, m, args, below, meth, c, D, dA, A, ad0, n0, Q, ⟨hx, hb, hml, ho, hts, hnt, hK, hA⟩, rfl⟩ := h
  intro ad H locs ls h1 h2 h3 h4 h5 h6
  exact lv_ladd hx hb d (kk ad H locs ls h1 h2 h3 h4 h5 h6)
theorem z_lsub (h : Cb Z own cc nL R) {x y : Int64} (d : decode cc pc = .ok (.lsub, 1)) (kk : Z k n w lv (pc + 1) (.long (x - y) :: st)) : Z k n w lv pc (.long y :: .long x :: st) := by
  obtain ⟨p, l, e, s, m, args, below, meth, c, D, dA, A, ad0, n0, Q, ⟨hx, hb, hml, ho, hts, hnt, hK, hA⟩, rfl⟩ := h
  intro ad H locs ls h1 h2 h3 h4 h5 h6
  exact lv_lsub hx hb d (kk ad H locs ls h1 h2 h3 h4 h5 h6)
theorem z_lmul (h : Cb Z own cc nL R) {x y : Int64} (d : decode cc pc = .ok (.lmul, 1)) (kk : Z k n w lv (pc + 1) (.long (x * y) :: st)) : Z k n w lv pc (.long y :: .long x :: st) := by
  obtain ⟨p, l, e, s, m, args, below, meth, c, D, dA, A, ad0, n0, Q, ⟨hx, hb, hml, ho, hts, hnt, hK, hA⟩, rfl⟩ := h
  intro ad H locs ls h1 h2 h3 h4 h5 h6
  exact lv_lmul hx hb d (kk ad H locs ls h1 h2 h3 h4 h5 h6)
theorem z_land (h : Cb Z own cc nL R) {x y : Int64} (d : decode cc pc = .ok (.land, 1)) (kk : Z k n w lv (pc + 1) (.long (x &&& y) :: st)) : Z k n w lv pc (.long y :: .long x :: st) := by
  obtain ⟨p, l, e, s, m, args, below, meth, c, D, dA, A, ad0, n0, Q, ⟨hx, hb, hml, ho, hts, hnt, hK, hA⟩, rfl⟩ := h
  intro ad H locs ls h1 h2 h3 h4 h5 h6
  exact lv_land hx hb d (kk ad H locs ls h1 h2 h3 h4 h5 h6)
theorem z_lor (h : Cb Z own cc nL R) {x y : Int64} (d : decode cc pc = .ok (.lor, 1)) (kk : Z k n w lv (pc + 1) (.long (x ||| y) :: st)) : Z k n w lv pc (.long y :: .long x :: st) := by
  obtain ⟨p, l, e, s, m, args, below, meth, c, D, dA, A, ad0, n0, Q, ⟨hx, hb, hml, ho, hts, hnt, hK, hA⟩, rfl⟩ := h
  intro ad H locs ls h1 h2 h3 h4 h5 h6
  exact lv_lor hx hb d (kk ad H locs ls h1 h2 h3 h4 h5 h6)
theorem z_lxor (h : Cb Z own cc nL R) {x y : Int64} (d : decode cc pc = .ok (.lxor, 1)) (kk : Z k n w lv (pc + 1) (.long (x ^^^ y) :: st)) : Z k n w lv pc (.long y :: .long x :: st) := by
  obtain ⟨p, l, e, s, m, args, below, meth, c, D, dA, A, ad0, n0, Q, ⟨hx, hb, hml, ho, hts, hnt, hK, hA⟩, rfl⟩ := h
  intro ad H locs ls h1 h2 h3 h4 h5 h6
  exact lv_lxor hx hb d (kk ad H locs ls h1 h2 h3 h4 h5 h6)
theorem z_idiv (h : Cb Z own cc nL R) {x y : Int32} (d : decode cc pc = .ok (.idiv, 1)) (hne : ¬ y = 0) (kk : Z k n w lv (pc + 1) (.int (x / y) :: st)) : Z k n w lv pc (.int y :: .int x :: st) := by
  obtain ⟨p, l, e, s, m, args, below, meth, c, D, dA, A, ad0, n0, Q, ⟨hx, hb, hml, ho, hts, hnt, hK, hA⟩, rfl⟩ := h
  intro ad H locs ls h1 h2 h3 h4 h5 h6
  exact lv_idiv hx hb d hne (kk ad H locs ls h1 h2 h3 h4 h5 h6)
theorem z_irem (h : Cb Z own cc nL R) {x y : Int32} (d : decode cc pc = .ok (.irem, 1)) (hne : ¬ y = 0) (kk : Z k n w lv (pc + 1) (.int (x - x / y * y) :: st)) : Z k n w lv pc (.int y :: .int x :: st) := by
  obtain ⟨p, l, e, s, m, args, below, meth, c, D, dA, A, ad0, n0, Q, ⟨hx, hb, hml, ho, hts, hnt, hK, hA⟩, rfl⟩ := h
  intro ad H locs ls h1 h2 h3 h4 h5 h6
  exact lv_irem hx hb d hne (kk ad H locs ls h1 h2 h3 h4 h5 h6)
theorem z_ldiv (h : Cb Z own cc nL R) {x y : Int64} (d : decode cc pc = .ok (.ldiv, 1)) (hne : ¬ y = 0) (kk : Z k n w lv (pc + 1) (.long (x / y) :: st)) : Z k n w lv pc (.long y :: .long x :: st) := by
  obtain ⟨p, l, e, s, m, args, below, meth, c, D, dA, A, ad0, n0, Q, ⟨hx, hb, hml, ho, hts, hnt, hK, hA⟩, rfl⟩ := h
  intro ad H locs ls h1 h2 h3 h4 h5 h6
  exact lv_ldiv hx hb d hne (kk ad H locs ls h1 h2 h3 h4 h5 h6)
theorem z_lrem (h : Cb Z own cc nL R) {x y : Int64} (d : decode cc pc = .ok (.lrem, 1)) (hne : ¬ y = 0) (kk : Z k n w lv (pc + 1) (.long (x - x / y * y) :: st)) : Z k n w lv pc (.long y :: .long x :: st) := by
  obtain ⟨p, l, e, s, m, args, below, meth, c, D, dA, A, ad0, n0, Q, ⟨hx, hb, hml, ho, hts, hnt, hK, hA⟩, rfl⟩ := h
  intro ad H locs ls h1 h2 h3 h4 h5 h6
  exact lv_lrem hx hb d hne (kk ad H locs ls h1 h2 h3 h4 h5 h6)
theorem z_ineg (h : Cb Z own cc nL R) {x : Int32} (d : decode cc pc = .ok (.ineg, 1)) (kk : Z k n w lv (pc + 1) (.int (-x) :: st)) : Z k n w lv pc (.int x :: st) := by
  obtain ⟨p, l, e, s, m, args, below, meth, c, D, dA, A, ad0, n0, Q, ⟨hx, hb, hml, ho, hts, hnt, hK, hA⟩, rfl⟩ := h
  intro ad H locs ls h1 h2 h3 h4 h5 h6
  exact lv_ineg hx hb d (kk ad H locs ls h1 h2 h3 h4 h5 h6)
theorem z_lneg (h : Cb Z own cc nL R) {x : Int64} (d : decode cc pc = .ok (.lneg, 1)) (kk : Z k n w lv (pc + 1) (.long (-x) :: st)) : Z k n w lv pc (.long x :: st) := by
  obtain ⟨p, l, e, s, m, args, below, meth, c, D, dA, A, ad0, n0, Q, ⟨hx, hb, hml, ho, hts, hnt, hK, hA⟩, rfl⟩ := h
  intro ad H locs ls h1 h2 h3 h4 h5 h6
  exact lv_lneg hx hb d (kk ad H locs ls h1 h2 h3 h4 h5 h6)
theorem z_lshl (h : Cb Z own cc nL R) {x : Int64} {y : Int32} (d : decode cc pc = .ok (.lshl, 1)) (kk : Z k n w lv (pc + 1) (.long (x <<< (y.toInt64 &&& 63)) :: st)) : Z k n w lv pc (.int y :: .long x :: st) := by
  obtain ⟨p, l, e, s, m, args, below, meth, c, D, dA, A, ad0, n0, Q, ⟨hx, hb, hml, ho, hts, hnt, hK, hA⟩, rfl⟩ := h
  intro ad H locs ls h1 h2 h3 h4 h5 h6
  exact lv_lshl hx hb d rfl (kk ad H locs ls h1 h2 h3 h4 h5 h6)
theorem z_lshr (h : Cb Z own cc nL R) {x : Int64} {y : Int32} (d : decode cc pc = .ok (.lshr, 1)) (kk : Z k n w lv (pc + 1) (.long (x >>> (y.toInt64 &&& 63)) :: st)) : Z k n w lv pc (.int y :: .long x :: st) := by
  obtain ⟨p, l, e, s, m, args, below, meth, c, D, dA, A, ad0, n0, Q, ⟨hx, hb, hml, ho, hts, hnt, hK, hA⟩, rfl⟩ := h
  intro ad H locs ls h1 h2 h3 h4 h5 h6
  exact lv_lshr hx hb d rfl (kk ad H locs ls h1 h2 h3 h4 h5 h6)
theorem z_iushr (h : Cb Z own cc nL R) {x y : Int32} (d : decode cc pc = .ok (.iushr, 1)) (kk : Z k n w lv (pc + 1) (.int (x.toUInt32 >>> (y.toUInt32 &&& Int32.toUInt32 31)).toInt32 :: st)) : Z k n w lv pc (.int y :: .int x :: st) := by
  obtain ⟨p, l, e, s, m, args, below, meth, c, D, dA, A, ad0, n0, Q, ⟨hx, hb, hml, ho, hts, hnt, hK, hA⟩, rfl⟩ := h
  intro ad H locs ls h1 h2 h3 h4 h5 h6
  exact lv_iushr hx hb d rfl (kk ad H locs ls h1 h2 h3 h4 h5 h6)
theorem z_i2l (h : Cb Z own cc nL R) {x : Int32} (d : decode cc pc = .ok (.i2l, 1)) (kk : Z k n w lv (pc + 1) (.long x.toInt64 :: st)) : Z k n w lv pc (.int x :: st) := by
  obtain ⟨p, l, e, s, m, args, below, meth, c, D, dA, A, ad0, n0, Q, ⟨hx, hb, hml, ho, hts, hnt, hK, hA⟩, rfl⟩ := h
  intro ad H locs ls h1 h2 h3 h4 h5 h6
  exact lv_i2l hx hb d rfl (kk ad H locs ls h1 h2 h3 h4 h5 h6)
theorem z_l2i (h : Cb Z own cc nL R) {x : Int64} (d : decode cc pc = .ok (.l2i, 1)) (kk : Z k n w lv (pc + 1) (.int x.toInt32 :: st)) : Z k n w lv pc (.long x :: st) := by
  obtain ⟨p, l, e, s, m, args, below, meth, c, D, dA, A, ad0, n0, Q, ⟨hx, hb, hml, ho, hts, hnt, hK, hA⟩, rfl⟩ := h
  intro ad H locs ls h1 h2 h3 h4 h5 h6
  exact lv_l2i hx hb d rfl (kk ad H locs ls h1 h2 h3 h4 h5 h6)
theorem z_dup (h : Cb Z own cc nL R) {v : Value} (d : decode cc pc = .ok (.dup, 1)) (hv : v.category = 1) (kk : Z k n w lv (pc + 1) (v :: v :: st)) : Z k n w lv pc (v :: st) := by
  obtain ⟨p, l, e, s, m, args, below, meth, c, D, dA, A, ad0, n0, Q, ⟨hx, hb, hml, ho, hts, hnt, hK, hA⟩, rfl⟩ := h
  intro ad H locs ls h1 h2 h3 h4 h5 h6
  exact lv_dup hx hb d (by rw [zV_cat]; exact hv) (kk ad H locs ls h1 h2 h3 h4 h5 h6)
theorem z_pop (h : Cb Z own cc nL R) {v : Value} (d : decode cc pc = .ok (.pop, 1)) (hv : v.category = 1) (kk : Z k n w lv (pc + 1) st) : Z k n w lv pc (v :: st) := by
  obtain ⟨p, l, e, s, m, args, below, meth, c, D, dA, A, ad0, n0, Q, ⟨hx, hb, hml, ho, hts, hnt, hK, hA⟩, rfl⟩ := h
  intro ad H locs ls h1 h2 h3 h4 h5 h6
  exact lv_pop hx hb d (by rw [zV_cat]; exact hv) (kk ad H locs ls h1 h2 h3 h4 h5 h6)
theorem z_dup_x1 (h : Cb Z own cc nL R) {v v2 : Value} (d : decode cc pc = .ok (.dup_x1, 1)) (hv : v.category = 1) (hv2 : v2.category = 1) (kk : Z k n w lv (pc + 1) (v :: v2 :: v :: st)) : Z k n w lv pc (v :: v2 :: st) := by
  obtain ⟨p, l, e, s, m, args, below, meth, c, D, dA, A, ad0, n0, Q, ⟨hx, hb, hml, ho, hts, hnt, hK, hA⟩, rfl⟩ := h
  intro ad H locs ls h1 h2 h3 h4 h5 h6
  exact lv_dup_x1 hx hb d (by rw [zV_cat]; exact hv) (by rw [zV_cat]; exact hv2) (kk ad H locs ls h1 h2 h3 h4 h5 h6)
theorem z_dup2_11 (h : Cb Z own cc nL R) {v v2 : Value} (d : decode cc pc = .ok (.dup2, 1)) (hv : v.category = 1) (hv2 : v2.category = 1) (kk : Z k n w lv (pc + 1) (v :: v2 :: v :: v2 :: st)) : Z k n w lv pc (v :: v2 :: st) := by
  obtain ⟨p, l, e, s, m, args, below, meth, c, D, dA, A, ad0, n0, Q, ⟨hx, hb, hml, ho, hts, hnt, hK, hA⟩, rfl⟩ := h
  intro ad H locs ls h1 h2 h3 h4 h5 h6
  exact lv_dup2_11 hx hb d (by rw [zV_cat]; exact hv) (by rw [zV_cat]; exact hv2) (kk ad H locs ls h1 h2 h3 h4 h5 h6)
theorem z_if_eq (h : Cb Z own cc nL R) {x : Int32} {off : Int} {tgt : Nat} (d : decode cc pc = .ok (.ifCond .eq off, 3)) (ht : (pc : Int) + off = (tgt : Int)) (kt : x = 0 → Z k n w lv tgt st) (kf : ¬ x = 0 → Z k n w lv (pc + 3) st) : Z k n w lv pc (.int x :: st) := by
  obtain ⟨p, l, e, s, m, args, below, meth, c, D, dA, A, ad0, n0, Q, ⟨hx, hb, hml, ho, hts, hnt, hK, hA⟩, rfl⟩ := h
  intro ad H locs ls h1 h2 h3 h4 h5 h6
  exact lv_if_eq hx hb d ht (fun q => kt q ad H locs ls h1 h2 h3 h4 h5 h6) (fun q => kf q ad H locs ls h1 h2 h3 h4 h5 h6)
theorem z_icmp_eq (h : Cb Z own cc nL R) {x y : Int32} {off : Int} {tgt : Nat} (d : decode cc pc = .ok (.if_icmp .eq off, 3)) (ht : (pc : Int) + off = (tgt : Int)) (kt : x = y → Z k n w lv tgt st) (kf : ¬ x = y → Z k n w lv (pc + 3) st) : Z k n w lv pc (.int y :: .int x :: st) := by
  obtain ⟨p, l, e, s, m, args, below, meth, c, D, dA, A, ad0, n0, Q, ⟨hx, hb, hml, ho, hts, hnt, hK, hA⟩, rfl⟩ := h
  intro ad H locs ls h1 h2 h3 h4 h5 h6
  exact lv_icmp_eq hx hb d ht (fun q => kt q ad H locs ls h1 h2 h3 h4 h5 h6) (fun q => kf q ad H locs ls h1 h2 h3 h4 h5 h6)
theorem z_if_ne (h : Cb Z own cc nL R) {x : Int32} {off : Int} {tgt : Nat} (d : decode cc pc = .ok (.ifCond .ne off, 3)) (ht : (pc : Int) + off = (tgt : Int)) (kt : ¬ x = 0 → Z k n w lv tgt st) (kf : x = 0 → Z k n w lv (pc + 3) st) : Z k n w lv pc (.int x :: st) := by
  obtain ⟨p, l, e, s, m, args, below, meth, c, D, dA, A, ad0, n0, Q, ⟨hx, hb, hml, ho, hts, hnt, hK, hA⟩, rfl⟩ := h
  intro ad H locs ls h1 h2 h3 h4 h5 h6
  exact lv_if_ne hx hb d ht (fun q => kt q ad H locs ls h1 h2 h3 h4 h5 h6) (fun q => kf q ad H locs ls h1 h2 h3 h4 h5 h6)
theorem z_icmp_ne (h : Cb Z own cc nL R) {x y : Int32} {off : Int} {tgt : Nat} (d : decode cc pc = .ok (.if_icmp .ne off, 3)) (ht : (pc : Int) + off = (tgt : Int)) (kt : ¬ x = y → Z k n w lv tgt st) (kf : x = y → Z k n w lv (pc + 3) st) : Z k n w lv pc (.int y :: .int x :: st) := by
  obtain ⟨p, l, e, s, m, args, below, meth, c, D, dA, A, ad0, n0, Q, ⟨hx, hb, hml, ho, hts, hnt, hK, hA⟩, rfl⟩ := h
  intro ad H locs ls h1 h2 h3 h4 h5 h6
  exact lv_icmp_ne hx hb d ht (fun q => kt q ad H locs ls h1 h2 h3 h4 h5 h6) (fun q => kf q ad H locs ls h1 h2 h3 h4 h5 h6)
theorem z_if_lt (h : Cb Z own cc nL R) {x : Int32} {off : Int} {tgt : Nat} (d : decode cc pc = .ok (.ifCond .lt off, 3)) (ht : (pc : Int) + off = (tgt : Int)) (kt : x < 0 → Z k n w lv tgt st) (kf : ¬ x < 0 → Z k n w lv (pc + 3) st) : Z k n w lv pc (.int x :: st) := by
  obtain ⟨p, l, e, s, m, args, below, meth, c, D, dA, A, ad0, n0, Q, ⟨hx, hb, hml, ho, hts, hnt, hK, hA⟩, rfl⟩ := h
  intro ad H locs ls h1 h2 h3 h4 h5 h6
  exact lv_if_lt hx hb d ht (fun q => kt q ad H locs ls h1 h2 h3 h4 h5 h6) (fun q => kf q ad H locs ls h1 h2 h3 h4 h5 h6)
theorem z_icmp_lt (h : Cb Z own cc nL R) {x y : Int32} {off : Int} {tgt : Nat} (d : decode cc pc = .ok (.if_icmp .lt off, 3)) (ht : (pc : Int) + off = (tgt : Int)) (kt : x < y → Z k n w lv tgt st) (kf : ¬ x < y → Z k n w lv (pc + 3) st) : Z k n w lv pc (.int y :: .int x :: st) := by
  obtain ⟨p, l, e, s, m, args, below, meth, c, D, dA, A, ad0, n0, Q, ⟨hx, hb, hml, ho, hts, hnt, hK, hA⟩, rfl⟩ := h
  intro ad H locs ls h1 h2 h3 h4 h5 h6
  exact lv_icmp_lt hx hb d ht (fun q => kt q ad H locs ls h1 h2 h3 h4 h5 h6) (fun q => kf q ad H locs ls h1 h2 h3 h4 h5 h6)
theorem z_if_ge (h : Cb Z own cc nL R) {x : Int32} {off : Int} {tgt : Nat} (d : decode cc pc = .ok (.ifCond .ge off, 3)) (ht : (pc : Int) + off = (tgt : Int)) (kt : 0 ≤ x → Z k n w lv tgt st) (kf : ¬ 0 ≤ x → Z k n w lv (pc + 3) st) : Z k n w lv pc (.int x :: st) := by
  obtain ⟨p, l, e, s, m, args, below, meth, c, D, dA, A, ad0, n0, Q, ⟨hx, hb, hml, ho, hts, hnt, hK, hA⟩, rfl⟩ := h
  intro ad H locs ls h1 h2 h3 h4 h5 h6
  exact lv_if_ge hx hb d ht (fun q => kt q ad H locs ls h1 h2 h3 h4 h5 h6) (fun q => kf q ad H locs ls h1 h2 h3 h4 h5 h6)
theorem z_icmp_ge (h : Cb Z own cc nL R) {x y : Int32} {off : Int} {tgt : Nat} (d : decode cc pc = .ok (.if_icmp .ge off, 3)) (ht : (pc : Int) + off = (tgt : Int)) (kt : y ≤ x → Z k n w lv tgt st) (kf : ¬ y ≤ x → Z k n w lv (pc + 3) st) : Z k n w lv pc (.int y :: .int x :: st) := by
  obtain ⟨p, l, e, s, m, args, below, meth, c, D, dA, A, ad0, n0, Q, ⟨hx, hb, hml, ho, hts, hnt, hK, hA⟩, rfl⟩ := h
  intro ad H locs ls h1 h2 h3 h4 h5 h6
  exact lv_icmp_ge hx hb d ht (fun q => kt q ad H locs ls h1 h2 h3 h4 h5 h6) (fun q => kf q ad H locs ls h1 h2 h3 h4 h5 h6)
theorem z_if_gt (h : Cb Z own cc nL R) {x : Int32} {off : Int} {tgt : Nat} (d : decode cc pc = .ok (.ifCond .gt off, 3)) (ht : (pc : Int) + off = (tgt : Int)) (kt : 0 < x → Z k n w lv tgt st) (kf : ¬ 0 < x → Z k n w lv (pc + 3) st) : Z k n w lv pc (.int x :: st) := by
  obtain ⟨p, l, e, s, m, args, below, meth, c, D, dA, A, ad0, n0, Q, ⟨hx, hb, hml, ho, hts, hnt, hK, hA⟩, rfl⟩ := h
  intro ad H locs ls h1 h2 h3 h4 h5 h6
  exact lv_if_gt hx hb d ht (fun q => kt q ad H locs ls h1 h2 h3 h4 h5 h6) (fun q => kf q ad H locs ls h1 h2 h3 h4 h5 h6)
theorem z_icmp_gt (h : Cb Z own cc nL R) {x y : Int32} {off : Int} {tgt : Nat} (d : decode cc pc = .ok (.if_icmp .gt off, 3)) (ht : (pc : Int) + off = (tgt : Int)) (kt : y < x → Z k n w lv tgt st) (kf : ¬ y < x → Z k n w lv (pc + 3) st) : Z k n w lv pc (.int y :: .int x :: st) := by
  obtain ⟨p, l, e, s, m, args, below, meth, c, D, dA, A, ad0, n0, Q, ⟨hx, hb, hml, ho, hts, hnt, hK, hA⟩, rfl⟩ := h
  intro ad H locs ls h1 h2 h3 h4 h5 h6
  exact lv_icmp_gt hx hb d ht (fun q => kt q ad H locs ls h1 h2 h3 h4 h5 h6) (fun q => kf q ad H locs ls h1 h2 h3 h4 h5 h6)
theorem z_if_le (h : Cb Z own cc nL R) {x : Int32} {off : Int} {tgt : Nat} (d : decode cc pc = .ok (.ifCond .le off, 3)) (ht : (pc : Int) + off = (tgt : Int)) (kt : x ≤ 0 → Z k n w lv tgt st) (kf : ¬ x ≤ 0 → Z k n w lv (pc + 3) st) : Z k n w lv pc (.int x :: st) := by
  obtain ⟨p, l, e, s, m, args, below, meth, c, D, dA, A, ad0, n0, Q, ⟨hx, hb, hml, ho, hts, hnt, hK, hA⟩, rfl⟩ := h
  intro ad H locs ls h1 h2 h3 h4 h5 h6
  exact lv_if_le hx hb d ht (fun q => kt q ad H locs ls h1 h2 h3 h4 h5 h6) (fun q => kf q ad H locs ls h1 h2 h3 h4 h5 h6)
theorem z_icmp_le (h : Cb Z own cc nL R) {x y : Int32} {off : Int} {tgt : Nat} (d : decode cc pc = .ok (.if_icmp .le off, 3)) (ht : (pc : Int) + off = (tgt : Int)) (kt : x ≤ y → Z k n w lv tgt st) (kf : ¬ x ≤ y → Z k n w lv (pc + 3) st) : Z k n w lv pc (.int y :: .int x :: st) := by
  obtain ⟨p, l, e, s, m, args, below, meth, c, D, dA, A, ad0, n0, Q, ⟨hx, hb, hml, ho, hts, hnt, hK, hA⟩, rfl⟩ := h
  intro ad H locs ls h1 h2 h3 h4 h5 h6
  exact lv_icmp_le hx hb d ht (fun q => kt q ad H locs ls h1 h2 h3 h4 h5 h6) (fun q => kf q ad H locs ls h1 h2 h3 h4 h5 h6)
theorem z_goto (h : Cb Z own cc nL R) {off : Int} {tgt : Nat} (d : decode cc pc = .ok (.goto off, 3)) (ht : (pc : Int) + off = (tgt : Int)) (kk : Z k n w lv tgt st) : Z k n w lv pc st := by
  obtain ⟨p, l, e, s, m, args, below, meth, c, D, dA, A, ad0, n0, Q, ⟨hx, hb, hml, ho, hts, hnt, hK, hA⟩, rfl⟩ := h
  intro ad H locs ls h1 h2 h3 h4 h5 h6
  exact lv_goto hx hb d ht (kk ad H locs ls h1 h2 h3 h4 h5 h6)
theorem z_lv {lv' : List (Nat × Value)} (h : Cb Z own cc nL R) (hl : lv'.map (fun q => zg lv q.1) = lv'.map (fun q => some q.2)) (kk : Z k n w lv' pc st) : Z k n w lv pc st := by
  obtain ⟨p, l, e, s, m, args, below, meth, c, D, dA, A, ad0, n0, Q, ⟨hx, hb, hml, ho, hts, hnt, hK, hA⟩, rfl⟩ := h
  intro ad H locs ls h1 h2 h3 h4 h5 h6
  refine kk ad H locs ls h1 h2 h3 h4 h5 ⟨h6.1, h6.2.1, fun q hq => ?_⟩
  obtain ⟨a, ha, rfl⟩ := List.mem_map.mp hq
  obtain ⟨j, hj⟩ := List.getElem?_of_mem ha
  have e := congrArg (fun x : List (Option Value) => x[j]?) hl
  simp only [List.getElem?_map, hj, Option.map_some] at e
  exact zl_at h6 (Option.some.inj e)
theorem z_widen (h : Cb Z own cc nL R) {k' n' : Nat} (hk : k ≤ k') (hn : n ≤ n') (kk : Z k' n' w lv pc st) : Z k n w lv pc st := by
  obtain ⟨p, l, e, s, m, args, below, meth, c, D, dA, A, ad0, n0, Q, ⟨hx, hb, hml, ho, hts, hnt, hK, hA⟩, rfl⟩ := h
  intro ad H locs ls h1 h2 h3 h4 h5 h6
  exact W.widen hk hn (kk ad H locs ls h1 h2 h3 h4 h5 h6)
theorem z_get (h : Cb Z own cc nL R) {ix a ci : Nat} {fs : List Value} {C : String} {T : u_T} {N : Nat} {v : Value} (j : Nat) (d : decode cc pc = .ok (.getfield ix, 3)) (hin : ∀ w ∈ u_ws C T N, w ∈ TT) (hc : clz[ci]? = some (C, T, N)) (hj : j < N) (hl : Cond.fieldLink own ix (T j).1 (T j).2.1 (T j).2.2.1 ∈ TT) (he : w[a]? = some (.inr (ci, fs))) (hv : fs[j]? = some v) (kk : Z k n w lv (pc + 3) (v :: st)) : Z k n w lv pc (.ref a :: st) := by
  obtain ⟨p, l, e, s, m, args, below, meth, c, D, dA, A, ad0, n0, Q, ⟨hx, hb, hml, ho, hts, hnt, hK, hA⟩, rfl⟩ := h
  intro ad H locs ls h1 h2 h3 h4 h5 h6
  exact va_get (v := zV ad v) hx hb hts hin ho hK h3 a (zW_at he) hc j hj (hts _ hl) (fun _ q => q) (by show (fs.map (zV ad))[j]? = _; rw [List.getElem?_map, hv]; rfl) d (kk ad H locs ls h1 h2 h3 h4 h5 h6)
theorem z_getN (h : Cb Z own cc nL R) {ix a ci : Nat} {fs : List Value} {C host : String} {T : u_T} {N : Nat} {v : Value} (j : Nat) (d : decode cc pc = .ok (.getfield ix, 3)) (hin : ∀ w ∈ u_ws C T N, w ∈ TT) (hc : clz[ci]? = some (C, T, N)) (hj : j < N) (hl : Cond.fieldLinkNest own ix (T j).1 (T j).2.1 (T j).2.2.1 host ∈ NT) (he : w[a]? = some (.inr (ci, fs))) (hv : fs[j]? = some v) (kk : Z k n w lv (pc + 3) (v :: st)) : Z k n w lv pc (.ref a :: st) := by
  obtain ⟨p, l, e, s, m, args, below, meth, c, D, dA, A, ad0, n0, Q, ⟨hx, hb, hml, ho, hts, hnt, hK, hA⟩, rfl⟩ := h
  intro ad H locs ls h1 h2 h3 h4 h5 h6
  exact va_getN (v := zV ad v) hx hb hts hin ho hK h3 a (zW_at he) hc j hj (va_Nw.use rfl (hnt _ hl)) (fun _ q => q) (by show (fs.map (zV ad))[j]? = _; rw [List.getElem?_map, hv]; rfl) d (kk ad H locs ls h1 h2 h3 h4 h5 h6)
theorem zE_setf {dA ad : Nat → Nat} {ci j : Nat} {fs : List Value} {v : Value} : (.inr (ci, (fs.map (zV ad)).set j (zV ad v)) : va_E) = zE dA ad (.inr (ci, fs.set j v)) := by
  show _ = (.inr (ci, (fs.set j v).map (zV ad)) : va_E)
  rw [List.map_set]
theorem zV_nar {ad : Nat → Nat} {ty : FieldType} {v : Value} (h : narrow ty v = v) : narrow ty (zV ad v) = zV ad v := by
  cases v <;> first | exact h | (cases ty <;> first | rfl | exact h)
theorem zV_fit {ad : Nat → Nat} {ty : FieldType} {v : Value} (h : fits ty v = true) : fits ty (zV ad v) = true := by
  cases v <;> first | exact h | (cases ty <;> first | rfl | exact h)
theorem z_put (h : Cb Z own cc nL R) {ix a ci : Nat} {fs : List Value} {C : String} {T : u_T} {N : Nat} {v : Value} {ty : FieldType} (j : Nat) (d : decode cc pc = .ok (.putfield ix, 3)) (hin : ∀ w ∈ u_ws C T N, w ∈ TT) (hc : clz[ci]? = some (C, T, N)) {ty0 : Nat → FieldType} (hty : ∀ k, k < N → parseFieldDescriptor (T k).2.2.1 = some (ty0 k)) (hnm : ∀ a, a < N → ∀ b, b < N → a ≠ b → (T a).2.1 ≠ (T b).2.1) (hj : j < N) (hl : Cond.fieldLink own ix (T j).1 (T j).2.1 (T j).2.2.1 ∈ TT) (hfin : (T j).2.2.2 = false) (hd : ty0 j = ty) (hn : narrow ty v = v) (hf : fits ty v = true) (he : w[a]? = some (.inr (ci, fs))) (hle : j < fs.length) (kk : Z k n (w.set a (.inr (ci, fs.set j v))) lv (pc + 3) st) : Z k n w lv pc (v :: .ref a :: st) := by
  obtain ⟨p, l, e, s, m, args, below, meth, c, D, dA, A, ad0, n0, Q, ⟨hx, hb, hml, ho, hts, hnt, hK, hA⟩, rfl⟩ := h
  intro ad H locs ls h1 h2 h3 h4 h5 h6
  refine va_put (v := zV ad v) (ty := ty) hx hb hts hin ty0 hty hnm ho hK h3 h4 h5 a (zW_at he) hc j hj (hts _ hl) (fun _ q => q) hfin (by rw [hty j hj, hd]) (zV_nar hn) (zV_fit hf) (by show j < (fs.map (zV ad)).length; rw [List.length_map]; exact hle) d (fun H locs h3 h4 h5 => ?_)
  rw [show (.inr (ci, (fs.map (zV ad)).set j (zV ad v)) : va_E) = zE dA ad (.inr (ci, fs.set j v)) from zE_setf, ← zW_set] at h3 h4
  exact kk ad H locs ls (by rw [List.length_set]; exact h1) (by rw [List.length_set]; exact h2) h3 h4 h5 h6
theorem z_putN (h : Cb Z own cc nL R) {ix a ci : Nat} {fs : List Value} {C host : String} {T : u_T} {N : Nat} {v : Value} {ty : FieldType} (j : Nat) (d : decode cc pc = .ok (.putfield ix, 3)) (hin : ∀ w ∈ u_ws C T N, w ∈ TT) (hc : clz[ci]? = some (C, T, N)) {ty0 : Nat → FieldType} (hty : ∀ k, k < N → parseFieldDescriptor (T k).2.2.1 = some (ty0 k)) (hnm : ∀ a, a < N → ∀ b, b < N → a ≠ b → (T a).2.1 ≠ (T b).2.1) (hj : j < N) (hl : Cond.fieldLinkNest own ix (T j).1 (T j).2.1 (T j).2.2.1 host ∈ NT) (hfin : (T j).2.2.2 = false) (hd : ty0 j = ty) (hn : narrow ty v = v) (hf : fits ty v = true) (he : w[a]? = some (.inr (ci, fs))) (hle : j < fs.length) (kk : Z k n (w.set a (.inr (ci, fs.set j v))) lv (pc + 3) st) : Z k n w lv pc (v :: .ref a :: st) := by
  obtain ⟨p, l, e, s, m, args, below, meth, c, D, dA, A, ad0, n0, Q, ⟨hx, hb, hml, ho, hts, hnt, hK, hA⟩, rfl⟩ := h
  intro ad H locs ls h1 h2 h3 h4 h5 h6
  refine va_putN (v := zV ad v) (ty := ty) hx hb hts hin ty0 hty hnm ho hK h3 h4 h5 a (zW_at he) hc j hj (va_Nw.use rfl (hnt _ hl)) (fun _ q => q) hfin (by rw [hty j hj, hd]) (zV_nar hn) (zV_fit hf) (by show j < (fs.map (zV ad)).length; rw [List.length_map]; exact hle) d (fun H locs h3 h4 h5 => ?_)
  rw [show (.inr (ci, (fs.map (zV ad)).set j (zV ad v)) : va_E) = zE dA ad (.inr (ci, fs.set j v)) from zE_setf, ← zW_set] at h3 h4
  exact kk ad H locs ls (by rw [List.length_set]; exact h1) (by rw [List.length_set]; exact h2) h3 h4 h5 h6
theorem z_iaload (h : Cb Z own cc nL R) {a N : Nat} {f : Nat → Int32} {i : Int32} (d : decode cc pc = .ok (.iaload, 1)) (he : w[a]? = some (.inl (0, N, .inl f))) (hi : vp_in i N) (kk : Z k n w lv (pc + 1) (.int (f i.toNatClampNeg) :: st)) : Z k n w lv pc (.int i :: .ref a :: st) := by
  obtain ⟨p, l, e, s, m, args, below, meth, c, D, dA, A, ad0, n0, Q, ⟨hx, hb, hml, ho, hts, hnt, hK, hA⟩, rfl⟩ := h
  intro ad H locs ls h1 h2 h3 h4 h5 h6
  exact va_iald hx hb hK h3 a 0 (zW_at he) rfl hi d (kk ad H locs ls h1 h2 h3 h4 h5 h6)
theorem z_laload (h : Cb Z own cc nL R) {a N : Nat} {f : Nat → Int64} {i : Int32} (d : decode cc pc = .ok (.laload, 1)) (he : w[a]? = some (.inl (1, N, .inr (.inl f)))) (hi : vp_in i N) (kk : Z k n w lv (pc + 1) (.long (f i.toNatClampNeg) :: st)) : Z k n w lv pc (.int i :: .ref a :: st) := by
  obtain ⟨p, l, e, s, m, args, below, meth, c, D, dA, A, ad0, n0, Q, ⟨hx, hb, hml, ho, hts, hnt, hK, hA⟩, rfl⟩ := h
  intro ad H locs ls h1 h2 h3 h4 h5 h6
  exact va_lald hx hb hK h3 a 1 (zW_at he) rfl hi d (kk ad H locs ls h1 h2 h3 h4 h5 h6)
theorem z_aaload (h : Cb Z own cc nL R) {a N b : Nat} {f : Nat → Option Nat} {i : Int32} (d : decode cc pc = .ok (.aaload, 1)) (he : w[a]? = some (.inl (2, N, .inr (.inr (.inr (.inr f)))))) (hi : vp_in i N) (hb9 : f i.toNatClampNeg = some b) (kk : Z k n w lv (pc + 1) (.ref b :: st)) : Z k n w lv pc (.int i :: .ref a :: st) := by
  obtain ⟨p, l, e, s, m, args, below, meth, c, D, dA, A, ad0, n0, Q, ⟨hx, hb, hml, ho, hts, hnt, hK, hA⟩, rfl⟩ := h
  intro ad H locs ls h1 h2 h3 h4 h5 h6
  have hlt : i.toNatClampNeg < N := Nat.not_le.mp fun q => hi (Or.inr q)
  have hcell : H[ad a]? = some (arrV (dA 2) N (fun j => va_rf ((f j).map ad))) := h3 a _ (zW_at he)
  refine W.aald (v := va_rf ((f i.toNatClampNeg).map ad)) (ty := .array .int) hx hb hcell ((hK.2 2 _ rfl).1 N (fun j => va_rf ((f j).map ad))) rfl (fun q => by cases q) (by rw [arrV_size]; exact hi) (by rw [arrV_read _ _ hlt]) rfl rfl d ?_
  rw [hb9]
  exact kk ad H locs ls h1 h2 h3 h4 h5 h6
theorem z_iastore (h : Cb Z own cc nL R) {a N : Nat} {f : Nat → Int32} {i x : Int32} (d : decode cc pc = .ok (.iastore, 1)) (he : w[a]? = some (.inl (0, N, .inl f))) (hi : vp_in i N) (kk : Z k n (w.set a (.inl (0, N, .inl (upd f i.toNatClampNeg x)))) lv (pc + 1) st) : Z k n w lv pc (.int x :: .int i :: .ref a :: st) := by
  obtain ⟨p, l, e, s, m, args, below, meth, c, D, dA, A, ad0, n0, Q, ⟨hx, hb, hml, ho, hts, hnt, hK, hA⟩, rfl⟩ := h
  intro ad H locs ls h1 h2 h3 h4 h5 h6
  refine va_iast hx hb hK h3 h4 h5 a 0 (zW_at he) rfl hi d (fun H locs h3 h4 h5 => ?_)
  rw [show (.inl (dA 0, N, .inl (upd f i.toNatClampNeg x)) : va_E) = zE dA ad (.inl (0, N, .inl (upd f i.toNatClampNeg x))) from rfl, ← zW_set] at h3 h4
  exact kk ad H locs ls (by rw [List.length_set]; exact h1) (by rw [List.length_set]; exact h2) h3 h4 h5 h6
theorem z_lastore (h : Cb Z own cc nL R) {a N : Nat} {f : Nat → Int64} {i : Int32} {x : Int64} (d : decode cc pc = .ok (.lastore, 1)) (he : w[a]? = some (.inl (1, N, .inr (.inl f)))) (hi : vp_in i N) (kk : Z k n (w.set a (.inl (1, N, .inr (.inl (vp_updL f i.toNatClampNeg x))))) lv (pc + 1) st) : Z k n w lv pc (.long x :: .int i :: .ref a :: st) := by
  obtain ⟨p, l, e, s, m, args, below, meth, c, D, dA, A, ad0, n0, Q, ⟨hx, hb, hml, ho, hts, hnt, hK, hA⟩, rfl⟩ := h
  intro ad H locs ls h1 h2 h3 h4 h5 h6
  refine va_last hx hb hK h3 h4 h5 a 1 (zW_at he) rfl hi d (fun H locs h3 h4 h5 => ?_)
  rw [show (.inl (dA 1, N, .inr (.inl (vp_updL f i.toNatClampNeg x))) : va_E) = zE dA ad (.inl (1, N, .inr (.inl (vp_updL f i.toNatClampNeg x)))) from rfl, ← zW_set] at h3 h4
  exact kk ad H locs ls (by rw [List.length_set]; exact h1) (by rw [List.length_set]; exact h2) h3 h4 h5 h6
theorem z_alen (h : Cb Z own cc nL R) {a q : Nat} {x : vp_A} {v : Int32} (d : decode cc pc = .ok (.arraylength, 1)) (he : w[a]? = some (.inl (q, x))) (hq : q < 3) (hv : Int32.ofNat x.1 = v) (kk : Z k n w lv (pc + 1) (.int v :: st)) : Z k n w lv pc (.ref a :: st) := by
  obtain ⟨p, l, e, s, m, args, below, meth, c, D, dA, A, ad0, n0, Q, ⟨hx, hb, hml, ho, hts, hnt, hK, hA⟩, rfl⟩ := h
  intro ad H locs ls h1 h2 h3 h4 h5 h6
  have hx1 : (zA ad x).1 = x.1 := by
    unfold zA
    split <;> rfl
  have ht : ∃ ty, (ztys dA)[q]? = some (dA q, ty) := by
    rcases (show q = 0 ∨ q = 1 ∨ q = 2 by omega) with rfl | rfl | rfl <;> exact ⟨_, rfl⟩
  obtain ⟨ty, ht⟩ := ht
  exact va_alen hx hb hK h3 a q (zW_at he) ht (v := v) (by rw [hx1]; exact hv) d (kk ad H locs ls h1 h2 h3 h4 h5 h6)
theorem z_lcmp (h : Cb Z own cc nL R) {x y : Int64} (d : decode cc pc = .ok (.lcmp, 1)) (kk : Z k n w lv (pc + 1) (.int (lg_cmp x y) :: st)) : Z k n w lv pc (.long y :: .long x :: st) := by
  obtain ⟨p, l, e, s, m, args, below, meth, c, D, dA, A, ad0, n0, Q, ⟨hx, hb, hml, ho, hts, hnt, hK, hA⟩, rfl⟩ := h
  intro ad H locs ls h1 h2 h3 h4 h5 h6
  refine W.lcmp hx hb d ?_
  exact kk ad H locs ls h1 h2 h3 h4 h5 h6
end ZR
end
section
/-! CONTRACTS over the Z layer -/
def zQ (D : va_G) (dA : Nat → Nat) (A : Nat → Prop) (ad0 : Nat → Nat) (n0 : Nat) (Post : Option Value → List va_E → Prop) : Array Value → State → Outcome → State → Prop := fun _ st oc t =>
  (∃ (r : Option Value) (w : List va_E) (ad : Nat → Nat), oc = .returned (r.map (zV ad)) ∧ (∀ i, (i < n0 ∨ w.length ≤ i) → ad i = ad0 i) ∧ n0 ≤ w.length ∧ va_P D clz (zW dA ad w) t.heap ∧ va_D A (zW dA ad w) ∧ Post r w) ∧ va_F A st t
def zPre (D : va_G) (dA ad : Nat → Nat) (sz : Nat) (w : List va_E) (U : State) : Prop :=
  U.heap.size = sz ∧ va_P D clz (zW dA ad w) U.heap ∧ va_K D clz (ztys dA) U ∧ (∀ w ∈ NT, va_Nw w U) ∧ va_D (fun _ => True) (zW dA ad w)
/-- method y, from the world w at the arguments As, returns, and Post holds of its answer and its world -/
def MS (y : MethodName) (cc : ByteArray) (nL : Nat) (ret : Option FieldType) (R : Room) (As : List Value) (w : List va_E) (Post : Option Value → List va_E → Prop) : Prop :=
  ∀ (l : Launch) (D : va_G) (dA ad : Nat → Nat) (sz : Nat), Met l y (.code y cc nL ret :: TT) R (va_Pc (As.map (zV ad)) (zPre D dA ad sz w)) (zQ D dA (va_A (zW dA ad w) sz) ad w.length Post) R.cells R.slots (va_A (zW dA ad w) sz)
def Cr (Z : ZP) (cc : ByteArray) (ret : Option FieldType) (R : Room) (Post : Option Value → List va_E → Prop) : Prop :=
  (∀ k n w lv pc v, k ≤ R.cells → n ≤ R.slots → ret = some .int → decode cc pc = .ok (.ireturn, 1) → Post (some (.int v)) w → Z k n w lv pc [.int v]) ∧
  (∀ k n w lv pc v, k ≤ R.cells → n ≤ R.slots → ret = some .boolean → narrow .boolean (.int v) = .int v → decode cc pc = .ok (.ireturn, 1) → Post (some (.int v)) w → Z k n w lv pc [.int v]) ∧
  (∀ k n w lv pc v, k ≤ R.cells → n ≤ R.slots → ret = some .long → decode cc pc = .ok (.lreturn, 1) → Post (some (.long v)) w → Z k n w lv pc [.long v]) ∧
  (∀ k n w lv pc, k ≤ R.cells → n ≤ R.slots → ret = none → decode cc pc = .ok (.return_, 1) → Post none w → Z k n w lv pc []) ∧
  (∀ k n w lv pc v t, k ≤ R.cells → n ≤ R.slots → ret = some (.array t) → decode cc pc = .ok (.areturn, 1) → Post (some (.ref v)) w → Z k n w lv pc [.ref v])
theorem zl_args (ad : Nat → Nat) : ∀ (As : List Value) (i : Nat), lv_args i (As.map (zV ad)) = zL ad (lv_args i As)
  | [], i => rfl
  | v :: l, i => by
    show (i, zV ad v) :: lv_args (if (zV ad v).category = 2 then i + 2 else i + 1) (l.map (zV ad)) = (i, zV ad v) :: zL ad (lv_args (if v.category = 2 then i + 2 else i + 1) l)
    rw [zV_cat, zl_args ad l]
theorem nt_kind {w : Cond} (h : w ∈ NT) : (∃ a i b n d q, w = .fieldLinkNest a i b n d q) ∨ (∃ a i x q, w = .methodLinkNest a i x q) := by
  have h2 := (List.mem_filter.mp h).2
  cases w <;> first | (exact Or.inl ⟨_, _, _, _, _, _, rfl⟩) | (exact Or.inr ⟨_, _, _, _, rfl⟩) | (simp [zNest] at h2)
theorem nt_warm {s U : State} (hW : s.WarmedH U.vm) (h : ∀ w ∈ NT, va_Nw w s) : ∀ w ∈ NT, va_Nw w U := fun w hw => by
  rcases nt_kind hw with ⟨a, i, b, n, d, q, rfl⟩ | ⟨a, i, x, q, rfl⟩
  · exact va_Nw.warmF hW (h _ hw)
  · exact va_Nw.warmM hW (h _ hw)
theorem nt_same {s U : State} (hv : s.vm = U.vm) (h : ∀ w ∈ NT, va_Nw w s) : ∀ w ∈ NT, va_Nw w U := fun w hw => by
  rcases nt_kind hw with ⟨a, i, b, n, d, q, rfl⟩ | ⟨a, i, x, q, rfl⟩
  · exact va_Nw.same rfl hv (h _ hw)
  · exact va_Nw.same rfl hv (h _ hw)
theorem zgood {y : MethodName} {cc : ByteArray} {nL : Nat} {ret : Option FieldType} (h : Cond.code y cc nL ret ∈ TT) : GoodIn TT (.code y cc nL ret :: TT) := fun w hw => by
  rcases List.mem_cons.mp hw with rfl | hw
  · exact ⟨h, good_of_word (List.mem_filter.mp h).2⟩
  · exact ⟨hw, good_of_word (List.mem_filter.mp hw).2⟩
theorem zblind {av : List Value} {D : va_G} {dA ad : Nat → Nat} {sz : Nat} {w : List va_E} : FrameBlind (va_Pc av (zPre D dA ad sz w)) := fun a U g mk q => by
  obtain ⟨q0, q1, qP, qK, qN, qD⟩ := q
  exact ⟨q0, q1, qP, va_K.moved (u := U) (U := U.calling g mk a) (Vm.Alike.refl U.vm) qK, nt_same (s := U) (U := U.calling g mk a) rfl qN, qD⟩
set_option maxHeartbeats 1000000 in
theorem MS_of {y : MethodName} {cc : ByteArray} {nL : Nat} {ret : Option FieldType} {R : Room} {As : List Value} {w : List va_E} {Post : Option Value → List va_E → Prop} {own : String} (hy : plainName y.cls = true) (ho : y.cls = own) (hsl : ∀ ad : Nat → Nat, (lg_sl (As.map (zV ad))).length ≤ nL)
    (body : ∀ Z : ZP, Cb Z own cc nL R → Cr Z cc ret R Post → Z 0 0 w (lv_args 0 As) 0 []) : MS y cc nL ret R As w Post := by
  intro l D dA ad sz
  refine Met.ofW (cc := cc) (maxL := nL) (ret := ret) hy rfl ?_
  intro p e s m args below meth c s₁ B hml hv
  obtain ⟨rfl, hsz, hP, hK, hN, hD0⟩ := hv
  have hts := atoms_spec (ws := .code y cc nL ret :: TT) B.pre
  have hown : s.vm.findClass own = some m.cls := by rw [← ho]; exact findClass_of_methodNamed B.named
  have hlocks := B.notSynchronized
  subst hsz
  have hD := hD0.self (sz := s.heap.size)
  generalize hAe : va_A (zW dA ad w) s.heap.size = A at hD ⊢
  have hA : ∀ q : Nat, s.heap.size ≤ q → A q := fun q h => by rw [← hAe]; exact Or.inr h
  have hl := lv_entry (As.map (zV ad)) (n := nL) (hsl ad)
  rw [zl_args] at hl
  have key := body (Zof p l e R s m (As.map (zV ad)).toArray below meth c nL D dA A ad w.length (MQ below (zQ D dA A ad w.length Post) (As.map (zV ad)).toArray s R.cells R.slots A))
    ⟨p, l, e, s, m, (As.map (zV ad)).toArray, below, meth, c, D, dA, A, ad, w.length, _, ⟨B.exec, B.bytes, hml, hown, fun q hq => hts q (List.mem_cons_of_mem _ hq), hN, hK, hA⟩, rfl⟩
    ⟨fun k n w' lv pc v hk hn hr hd hp ad' H locs ls h1 h2 h3 h4 h5 h6 => W.widen hk hn (W.iret (v := v) B.exec B.bytes (B.returns.trans hr) (fun t ht hW => ⟨⟨some (.int v), w', ad', rfl, h1, h2, by rw [ht]; exact h3, h4, hp⟩, h5.F ht⟩) h5.2.2 hd),
     fun k n w' lv pc v hk hn hr hnr hd hp ad' H locs ls h1 h2 h3 h4 h5 h6 => W.widen hk hn (W.zret (v := v) (ty := .boolean) B.exec B.bytes (B.returns.trans hr) hnr (fun t ht hW => ⟨⟨some (.int v), w', ad', rfl, h1, h2, by rw [ht]; exact h3, h4, hp⟩, h5.F ht⟩) h5.2.2 hd),
     fun k n w' lv pc v hk hn hr hd hp ad' H locs ls h1 h2 h3 h4 h5 h6 => W.widen hk hn (W.lret (v := v) B.exec B.bytes (B.returns.trans hr) (fun t ht hW => ⟨⟨some (.long v), w', ad', rfl, h1, h2, by rw [ht]; exact h3, h4, hp⟩, h5.F ht⟩) h5.2.2 hd),
     fun k n w' lv pc hk hn hr hd hp ad' H locs ls h1 h2 h3 h4 h5 h6 => W.widen hk hn (W.vret B.exec B.bytes (B.returns.trans hr) (fun t ht hW => ⟨⟨none, w', ad', rfl, h1, h2, by rw [ht]; exact h3, h4, hp⟩, h5.F ht⟩) h5.2.2 hd),
     fun k n w' lv pc v ty hk hn hr hd hp ad' H locs ls h1 h2 h3 h4 h5 h6 => W.widen hk hn (W.aret (v := .ref (ad' v)) B.exec B.bytes (B.returns.trans hr) (Or.inr ⟨ty, rfl⟩) (Or.inr ⟨_, rfl⟩) (fun t ht hW => ⟨⟨some (.ref v), w', ad', rfl, h1, h2, by rw [ht]; exact h3, h4, hp⟩, h5.F ht⟩) h5.2.2 hd)⟩
  rw [lg_entry_eq]
  exact key ad s.heap [] _ (fun _ _ => rfl) (Nat.le_refl _) hP hD va_S.rf hl
/-- a contract's end may be weakened -/
theorem MS.mono {y : MethodName} {cc : ByteArray} {nL : Nat} {ret : Option FieldType} {R : Room} {As : List Value} {w : List va_E} {Post Post' : Option Value → List va_E → Prop} (h : MS y cc nL ret R As w Post) (hp : ∀ r w', Post r w' → Post' r w') : MS y cc nL ret R As w Post' := by
  intro l D dA ad sz p e ha hc hk s m args below hf happ hP hK
  obtain ⟨n, o, h1, h2, h3, ⟨⟨⟨r, w', ad', q1, q2, q3, q4, q5, q6⟩, hF⟩, hL⟩⟩ := h l D dA ad sz p e ha hc hk s m args below hf happ hP hK
  exact ⟨n, o, h1, h2, h3, ⟨⟨⟨r, w', ad', q1, q2, q3, q4, q5, hp _ _ q6⟩, hF⟩, hL⟩⟩
/-! cells of the callee laid back into the caller's world -/
def zput : List va_E → List Nat → List va_E → List va_E
  | w, i :: is, e :: es => zput (w.set i e) is es
  | w, _, _ => w
theorem zput_len : ∀ (is : List Nat) (w es : List va_E), (zput w is es).length = w.length
  | [], _, es => by cases es <;> rfl
  | _ :: _, _, [] => rfl
  | i :: is, w, e :: es => by
    show (zput (w.set i e) is es).length = w.length
    rw [zput_len is, List.length_set]
theorem zput_ne : ∀ (is : List Nat) (w es : List va_E) (k : Nat), k ∉ is → (zput w is es)[k]? = w[k]?
  | [], _, es, _, _ => by cases es <;> rfl
  | _ :: _, _, [], _, _ => rfl
  | i :: is, w, e :: es, k, h => by
    show (zput (w.set i e) is es)[k]? = w[k]?
    rw [zput_ne is _ _ k (fun q => h (List.mem_cons_of_mem _ q)), List.getElem?_set_ne (fun q => h (by rw [q]; exact List.mem_cons_self))]
theorem zput_at : ∀ (is : List Nat) (w es : List va_E) (j k : Nat) (e : va_E), (∀ i j a : Nat, is[i]? = some a → is[j]? = some a → i = j) → is[j]? = some k → es[j]? = some e → k < w.length → (zput w is es)[k]? = some e
  | [], _, _, j, k, e, _, h, _, _ => by simp at h
  | _ :: _, _, [], j, k, e, _, _, h, _ => by simp at h
  | i :: is, w, e0 :: es, 0, k, e, hn, h1, h2, h3 => by
    simp only [List.getElem?_cons_zero, Option.some.injEq] at h1 h2
    subst h1; subst h2
    show (zput (w.set i e0) is es)[i]? = some e0
    rw [zput_ne is _ _ i (fun q => by
      obtain ⟨j, hj⟩ := List.getElem?_of_mem q
      have := hn 0 (j + 1) i (by simp) (by simpa using hj)
      omega), List.getElem?_set_self h3]
  | i :: is, w, e0 :: es, j + 1, k, e, hn, h1, h2, h3 => by
    simp only [List.getElem?_cons_succ] at h1 h2
    show (zput (w.set i e0) is es)[k]? = some e
    exact zput_at is _ es j k e (fun a b c ha hb => by
      have := hn (a + 1) (b + 1) c (by simpa using ha) (by simpa using hb)
      omega) h1 h2 (by rw [List.length_set]; exact h3)
theorem zV_comp {ad f : Nat → Nat} (v : Value) : zV ad (zV f v) = zV (fun j => ad (f j)) v := by cases v <;> rfl
theorem zA_comp {ad f : Nat → Nat} (a : vp_A) : zA ad (zA f a) = zA (fun j => ad (f j)) a := by
  obtain ⟨n, g | g | g | g | g⟩ := a
  · rfl
  · rfl
  · rfl
  · rfl
  · simp only [zA, Option.map_map, Function.comp_def]
theorem zE_comp {dA ad f : Nat → Nat} (e : va_E) : zE dA ad (zE (fun i => i) f e) = zE dA (fun j => ad (f j)) e := by
  rcases e with q | q
  · show (.inl (dA q.1, zA ad (zA f q.2)) : va_E) = .inl (dA q.1, _)
    rw [zA_comp]
  · show (.inr (q.1, (q.2.map (zV f)).map (zV ad)) : va_E) = .inr (q.1, q.2.map _)
    rw [List.map_map]
    congr 2
    apply List.map_congr_left
    intro v _
    exact zV_comp v
theorem zmap_filter {α β : Type} {g : α → Option β} : ∀ {is : List α} {l : List β}, is.map g = l.map some → is.filterMap g = l
  | [], [], _ => rfl
  | [], _ :: _, h => by simp at h
  | _ :: _, [], h => by simp at h
  | i :: is, x :: l, h => by
    simp only [List.map_cons, List.cons.injEq] at h
    rw [List.filterMap_cons, h.1]
    show x :: List.filterMap g is = x :: l
    rw [zmap_filter h.2]
/-- the callee's world, among the caller's cells -/
theorem zpick {dA ad f : Nat → Nat} {w wc : List va_E} {is : List Nat} (hf : ∀ j a, is[j]? = some a → f j = a) (hw : is.map (fun i => w[i]?) = wc.map (fun e => some (zE (fun i => i) f e))) : is.map (fun i => (zW dA ad w)[i]?) = (zW dA (fun j => ad (f j)) wc).map some := by
  apply List.ext_getElem?
  intro j
  have h := congrArg (fun x : List (Option va_E) => x[j]?) hw
  simp only [List.getElem?_map] at h
  simp only [List.getElem?_map, zW, List.getElem?_mapIdx]
  cases hi : is[j]? with
  | none =>
    rw [hi] at h
    cases hc : wc[j]? with
    | none => rfl
    | some e => rw [hc] at h; cases h
  | some i =>
    rw [hi] at h
    cases hc : wc[j]? with
    | none => rw [hc] at h; cases h
    | some e =>
      rw [hc] at h
      have h2 : w[i]? = some (zE (fun i => i) f e) := Option.some.inj h
      simp only [Option.map_some, h2]
      rw [zE_comp, hf j i hi]
/-! CALLS -/
section ZCore
variable {p : Program} {l : Launch} {e : Env} {R : Room} {s : State} {m : MethodId} {args : Array Value} {below : List Frame} {meth : Method} {c : Code} {H : Heap} {locs : List Loc} {cells slots : Nat} {Q : State → Prop}
theorem zcore {D : va_G} {dA ad ad0 f : Nat → Nat} {A free : Nat → Prop} {w wc : List va_E} {is : List Nat} {pc mc ms n0 nL : Nat} {ls : Array Slot} {st st0 : List Value} {a : Array Value} {lv : List (Nat × Value)} {Post : Option Value → List va_E → Prop}
    (hr : va_Run p l e R s m args below meth c H locs cells slots mc ms (F0 m pc ls st0) (st.map (zV ad)) (zQ D dA (va_A (zW dA (fun j => ad (f j)) wc) H.size) (fun j => ad (f j)) wc.length Post a) free)
    (hfree : ∀ q, free q → va_A (zW dA (fun j => ad (f j)) wc) H.size q) (hf : ∀ j a, is[j]? = some a → f j = a) (hnd : va_nd is = true) (hw : is.map (fun i => w[i]?) = wc.map (fun e => some (zE (fun i => i) f e))) (hlen : ∀ r w', Post r w' → w'.length = wc.length)
    (hA : ∀ q, s.heap.size ≤ q → A q) (h1 : ∀ i, (i < n0 ∨ w.length ≤ i) → ad i = ad0 i) (h2 : n0 ≤ w.length) (h3 : va_P D clz (zW dA ad w) H) (h4 : va_D A (zW dA ad w)) (h5 : va_S A s.heap H locs) (h6 : lv_has ls nL (zL ad lv))
    (kk : ∀ r w', Post r w' → Zof p l e R s m args below meth c nL D dA A ad0 n0 Q (cells + mc) (slots + ms) (zput w is (w'.map (zE (fun i => i) f))) lv (pc + 3) ((r.map (zV f)).toList ++ st)) : W p l e R s m args below meth c H locs cells slots Q (F0 m pc ls st0) := by
  have hpick := zpick (dA := dA) (ad := ad) hf hw
  have hFc := va_free (wc := zW dA (fun j => ad (f j)) wc) h4 h5 hA is hpick
  have hinj := va_nd_inj is hnd
  have hislen : is.length = wc.length := by have := congrArg List.length hw; simpa using this
  intro T hT X
  obtain ⟨v, st₀, t, T', L, h0, X', hL, e1, e2, ⟨⟨r, w', ad', hv, hag, hn0, hP1, hD1, hp⟩, hz, hk⟩, go⟩ := hr T hT X
  have hl' := hlen r w' hp
  have had : ad' = fun j => ad (f j) := funext fun i => hag i (by rw [hl']; exact Nat.lt_or_ge i wc.length)
  subst had
  cases hv
  rw [h0] at hz hk
  have hsz : ∀ (k : Nat) (x : Nat × va_E), (zW dA ad w)[k]? = some x → x.1 < H.size := fun k x hx => (h3 k x hx).lt
  have hP' : va_P D clz (zW dA ad (zput w is (w'.map (zE (fun i => i) f)))) T'.heap := by
    intro k x hx
    have hkl : k < w.length := by
      have := (List.getElem?_eq_some_iff.mp hx).1
      rw [zW_len, zput_len] at this
      exact this
    by_cases hm : k ∈ is
    · obtain ⟨j, hj⟩ := List.getElem?_of_mem hm
      have hjl : j < w'.length := by rw [hl', ← hislen]; exact (List.getElem?_eq_some_iff.mp hj).1
      obtain ⟨e9, he9⟩ : ∃ e9, w'[j]? = some e9 := ⟨_, List.getElem?_eq_getElem hjl⟩
      have h9 : (zput w is (w'.map (zE (fun i => i) f)))[k]? = some (zE (fun i => i) f e9) := zput_at is w _ j k _ hinj hj (by rw [List.getElem?_map, he9]; rfl) hkl
      rw [zW_at h9] at hx
      cases hx
      have h10 := hP1 j _ (zW_at he9)
      rw [zE_comp, e1]
      rw [hf j k hj] at h10
      exact h10
    · obtain ⟨e9, he9⟩ : ∃ e9, w[k]? = some e9 := ⟨_, List.getElem?_eq_getElem hkl⟩
      have h9 : (zput w is (w'.map (zE (fun i => i) f)))[k]? = some e9 := by rw [zput_ne is w _ k hm]; exact he9
      rw [zW_at h9] at hx
      cases hx
      refine (h3 k _ (zW_at he9)).kept ?_
      show T'.heap[ad k]? = H[ad k]?
      rw [e1]
      refine hk (ad k) (hsz k _ (zW_at he9)) (fun q => ?_)
      rcases q with ⟨j, e8, h8⟩ | q
      · have h7 : (is.map (fun i => (zW dA ad w)[i]?))[j]? = some (some (ad k, e8)) := by rw [hpick, List.getElem?_map, h8]; rfl
        rw [List.getElem?_map] at h7
        cases hi : is[j]? with
        | none => rw [hi] at h7; cases h7
        | some i =>
          rw [hi] at h7
          have h6' : (zW dA ad w)[i]? = some (ad k, e8) := Option.some.inj h7
          have := h4.1 k i _ _ (zW_at he9) h6' rfl
          subst this
          exact hm (List.mem_of_getElem? hi)
      · have := hsz k _ (zW_at he9)
        exact absurd q (Nat.not_le.mpr this)
  have hD' : va_D A (zW dA ad (zput w is (w'.map (zE (fun i => i) f)))) := by
    have hz9 : ∀ (k : Nat) (x : Nat × va_E), (zW dA ad (zput w is (w'.map (zE (fun i => i) f))))[k]? = some x → ∃ e9 : va_E, (zW dA ad w)[k]? = some (x.1, e9) := by
      intro k x hx
      have hkl : k < w.length := by
        have := (List.getElem?_eq_some_iff.mp hx).1
        rw [zW_len, zput_len] at this
        exact this
      obtain ⟨e9, he9⟩ : ∃ e9, w[k]? = some e9 := ⟨_, List.getElem?_eq_getElem hkl⟩
      have hx2 : x.1 = ad k := by
        simp only [zW, List.getElem?_mapIdx] at hx
        cases hq : (zput w is (w'.map (zE (fun i => i) f)))[k]? with
        | none => rw [hq] at hx; cases hx
        | some e7 => rw [hq] at hx; cases hx; rfl
      exact ⟨_, by rw [hx2]; exact zW_at he9⟩
    refine ⟨fun i j x y hx hy hxy => ?_, fun k x hx => ?_⟩
    · obtain ⟨e8, h8⟩ := hz9 i x hx
      obtain ⟨e9, h9⟩ := hz9 j y hy
      exact h4.1 i j _ _ h8 h9 hxy
    · obtain ⟨e8, h8⟩ := hz9 k x hx
      exact h4.2 k (x.1, e8) h8
  have hS' : va_S A s.heap T'.heap (locs ++ L) := ⟨Nat.le_trans h5.1 (by rw [e1]; exact hz), fun q g1 g2 => by
      rw [e1, hk q (Nat.lt_of_lt_of_le g1 h5.1) (fun z => g2 (hFc q z))]
      exact h5.2.1 q g1 g2, fun q hq => by
      rcases List.mem_append.mp hq with h | h
      · exact h5.2.2 q h
      · exact hFc _ (hfree _ (hL q h))⟩
  obtain ⟨t2, a1, b1⟩ := kk r w' hp ad T'.heap (locs ++ L) ls (by rw [zput_len]; exact h1) (by rw [zput_len]; exact h2) hP' hD' hS' h6 T' rfl X'
  refine ⟨t2, go t2 ?_, b1⟩
  have e7 : (((r.map (zV f)).toList ++ st).map (zV ad)) = (r.map (zV (fun j => ad (f j)))).toList ++ st.map (zV ad) := by
    rw [List.map_append]
    congr 1
    cases r with
    | none => rfl
    | some x => show [zV ad (zV f x)] = [_]; rw [zV_comp]
  rw [← e7]
  exact a1
end ZCore
def zfn (is : List Nat) : Nat → Nat := fun j => is.getD j 0
theorem zfn_at {is : List Nat} : ∀ j a, is[j]? = some a → zfn is j = a := fun j a h => by simp [zfn, List.getD, h]
theorem zcat {ad : Nat → Nat} {st : List Value} (h : (st.map fun v => v.category).sum ≤ 8) : ((st.map (zV ad)).map fun v => v.category).sum ≤ 8 := by
  rw [List.map_map]
  have : ((fun v : Value => v.category) ∘ zV ad) = fun v : Value => v.category := funext fun v => zV_cat ad v
  rw [this]
  exact h
theorem zcat_eq {ad : Nat → Nat} {st : List Value} : ((st.map (zV ad)).map fun v => v.category).sum = (st.map fun v => v.category).sum := by
  rw [List.map_map]
  have : ((fun v : Value => v.category) ∘ zV ad) = fun v : Value => v.category := funext fun v => zV_cat ad v
  rw [this]
section ZCalls
variable {Z : ZP} {own : String} {cc : ByteArray} {nL : Nat} {R : Room} {k n pc : Nat} {w : List va_E} {lv : List (Nat × Value)} {st : List Value}
variable {y : MethodName} {cy : ByteArray} {ny : Nat} {ry : Option FieldType} {Ry : Room} {As : List Value} {wc : List va_E} {Post : Option Value → List va_E → Prop}
/-- what a call's site must say of the callee y (its code; its room within the caller's) -/
def zFit (y : MethodName) (cy : ByteArray) (ny : Nat) (ry : Option FieldType) (Ry R : Room) (np : Nat) : Prop :=
  Cond.code y cy ny ry ∈ TT ∧ Cond.initialized y.cls ∈ TT ∧ (y.cls ≠ "java/lang/invoke/MethodHandle" ∧ y.cls ≠ "java/lang/invoke/VarHandle") ∧ (parseMethodDescriptor y.desc).map (fun d => d.parameters.length) = some np ∧ Ry.frames + 1 ≤ R.frames ∧ 8 + (ny + 11) + Ry.locals ≤ R.locals
theorem z_callV (h : Cb Z own cc nL R) {stk : List Value} {b0 : Nat} {ix : Nat} (hM : MS y cy ny ry Ry (.ref b0 :: As) wc Post) (hF : zFit y cy ny ry Ry R As.length) (hl : Cond.methodLink own ix y ∈ TT) {C : String} {ci : Nat} {q9 : u_T × Nat} (hi : Cond.instanceMethod y ∈ TT) (hs : Cond.selects C y y ∈ TT) (hci : clz[ci]? = some (C, q9)) (hrc : ∃ fs : List Value, wc[b0]? = some (.inr (ci, fs))) (d : decode cc pc = .ok (.invokevirtual ix, 3)) (hk : k + Ry.cells ≤ R.cells ∧ n + Ry.slots ≤ R.slots) (is : List Nat) (hnd : va_nd is = true) (hw : is.map (fun i => w[i]?) = wc.map (fun e => some (zE (fun i => i) (zfn is) e))) (hst : (st.map fun v => v.category).sum ≤ 8) (hstk : ((As.map (zV (zfn is))).reverse ++ .ref (zfn is b0) :: st) = stk) (hlen : ∀ r w', Post r w' → w'.length = wc.length)
    (kk : ∀ r w', Post r w' → Z (k + Ry.cells) (n + Ry.slots) (zput w is (w'.map (zE (fun i => i) (zfn is)))) lv (pc + 3) ((r.map (zV (zfn is))).toList ++ st)) : Z k n w lv pc stk := by
  subst hstk
  obtain ⟨p, l, e, s, m, args, below, meth, c, D, dA, A, ad0, n0, Q, ⟨hx, hb, hml, ho, hts, hnt, hK, hA⟩, rfl⟩ := h
  intro ad H locs ls h1 h2 h3 h4 h5 h6
  obtain ⟨f1, f2, f3, f4, f5, f6⟩ := hF
  have hpick := zpick (dA := dA) (ad := ad) (zfn_at (is := is)) hw
  have hPc : va_P D clz (zW dA (fun j => ad (zfn is j)) wc) H := h3.sub is (zmap_filter hpick)
  have hDc : va_D A (zW dA (fun j => ad (zfn is j)) wc) := h4.sub is hnd hpick
  have hpay := pay_in (args := args) (s := s) hts (zgood f1)
  have hlenY : ∀ sig, parseMethodDescriptor y.desc = some sig → As.length = sig.parameters.length := fun sig hs => by
    rw [hs] at f4
    exact (Option.some.inj f4).symm
  have hc1 : (Cond.code y cy ny ry).before args s = true := hts _ f1
  have hmem : Cond.code y cy ny ry ∈ (Cond.code y cy ny ry :: TT) := List.mem_cons_self
  have hrecv : ∃ cellB : Cell, H[ad (zfn is b0)]? = some cellB ∧ cellB.vm.isStatics = false ∧ s.vm.findClass C = some cellB.cls := by
    obtain ⟨fs, hq⟩ := hrc
    exact va_recv (q := (C, q9)) hK hPc hci (zW_at hq)
  have e0 : ((As.map (zV (zfn is))).reverse ++ .ref (zfn is b0) :: st).map (zV ad) = (As.map (zV (fun j => ad (zfn is j)))).reverse ++ .ref (ad (zfn is b0)) :: st.map (zV ad) := by
    simp only [List.map_append, List.map_reverse, List.map_map, List.map_cons]
    congr 2
    apply List.map_congr_left
    intro v _
    exact zV_comp v
  rw [e0]
  refine zcore (f := zfn is) (va_runV (As := As.map (zV (fun j => ad (zfn is j)))) (rest := st.map (zV ad)) (n := As.length) ⟨hx, hb, hml, ho, hts⟩ (hM l D dA (fun j => ad (zfn is j)) H.size) ⟨⟨rfl, rfl, f5, f6, hpay, hmem, hc1, hts _ f2, f3, hlenY, hts _ hl⟩, hts _ hi, hts _ hs⟩ ⟨zblind, hrecv, fun U hU hW => ⟨rfl, by rw [hU], by rw [hU]; exact hPc, va_K.moved hW.alike hK, nt_warm hW hnt, hDc.weaken (fun _ _ _ _ => trivial)⟩⟩ rfl (by rw [List.length_map]) h6.1 rfl (lv_room (zcat hst)) d hk) (fun _ q => q) (zfn_at (is := is)) hnd hw hlen hA h1 h2 h3 h4 h5 h6 kk
theorem z_callVN (h : Cb Z own cc nL R) {stk : List Value} {b0 : Nat} {ix : Nat} (hM : MS y cy ny ry Ry (.ref b0 :: As) wc Post) (hF : zFit y cy ny ry Ry R As.length) {host : String} (hl : Cond.methodLinkNest own ix y host ∈ NT) {C : String} {ci : Nat} {q9 : u_T × Nat} (hi : Cond.instanceMethod y ∈ TT) (hs : Cond.selects C y y ∈ TT) (hci : clz[ci]? = some (C, q9)) (hrc : ∃ fs : List Value, wc[b0]? = some (.inr (ci, fs))) (d : decode cc pc = .ok (.invokevirtual ix, 3)) (hk : k + Ry.cells ≤ R.cells ∧ n + Ry.slots ≤ R.slots) (is : List Nat) (hnd : va_nd is = true) (hw : is.map (fun i => w[i]?) = wc.map (fun e => some (zE (fun i => i) (zfn is) e))) (hst : (st.map fun v => v.category).sum ≤ 8) (hstk : ((As.map (zV (zfn is))).reverse ++ .ref (zfn is b0) :: st) = stk) (hlen : ∀ r w', Post r w' → w'.length = wc.length)
    (kk : ∀ r w', Post r w' → Z (k + Ry.cells) (n + Ry.slots) (zput w is (w'.map (zE (fun i => i) (zfn is)))) lv (pc + 3) ((r.map (zV (zfn is))).toList ++ st)) : Z k n w lv pc stk := by
  subst hstk
  obtain ⟨p, l, e, s, m, args, below, meth, c, D, dA, A, ad0, n0, Q, ⟨hx, hb, hml, ho, hts, hnt, hK, hA⟩, rfl⟩ := h
  intro ad H locs ls h1 h2 h3 h4 h5 h6
  obtain ⟨f1, f2, f3, f4, f5, f6⟩ := hF
  have hpick := zpick (dA := dA) (ad := ad) (zfn_at (is := is)) hw
  have hPc : va_P D clz (zW dA (fun j => ad (zfn is j)) wc) H := h3.sub is (zmap_filter hpick)
  have hDc : va_D A (zW dA (fun j => ad (zfn is j)) wc) := h4.sub is hnd hpick
  have hpay := pay_in (args := args) (s := s) hts (zgood f1)
  have hlenY : ∀ sig, parseMethodDescriptor y.desc = some sig → As.length = sig.parameters.length := fun sig hs => by
    rw [hs] at f4
    exact (Option.some.inj f4).symm
  have hc1 : (Cond.code y cy ny ry).before args s = true := hts _ f1
  have hmem : Cond.code y cy ny ry ∈ (Cond.code y cy ny ry :: TT) := List.mem_cons_self
  have hrecv : ∃ cellB : Cell, H[ad (zfn is b0)]? = some cellB ∧ cellB.vm.isStatics = false ∧ s.vm.findClass C = some cellB.cls := by
    obtain ⟨fs, hq⟩ := hrc
    exact va_recv (q := (C, q9)) hK hPc hci (zW_at hq)
  have e0 : ((As.map (zV (zfn is))).reverse ++ .ref (zfn is b0) :: st).map (zV ad) = (As.map (zV (fun j => ad (zfn is j)))).reverse ++ .ref (ad (zfn is b0)) :: st.map (zV ad) := by
    simp only [List.map_append, List.map_reverse, List.map_map, List.map_cons]
    congr 2
    apply List.map_congr_left
    intro v _
    exact zV_comp v
  rw [e0]
  refine zcore (f := zfn is) (va_runVN (As := As.map (zV (fun j => ad (zfn is j)))) (rest := st.map (zV ad)) (n := As.length) ⟨hx, hb, hml, ho, hts⟩ (hM l D dA (fun j => ad (zfn is j)) H.size) ⟨⟨⟨rfl, rfl, f5, f6, hpay, hmem⟩, hc1, hts _ f2, f3, hlenY, va_Nw.use rfl (hnt _ hl)⟩, hts _ hi, hts _ hs⟩ ⟨zblind, hrecv, fun U hU hW => ⟨rfl, by rw [hU], by rw [hU]; exact hPc, va_K.moved hW.alike hK, nt_warm hW hnt, hDc.weaken (fun _ _ _ _ => trivial)⟩⟩ rfl (by rw [List.length_map]) h6.1 rfl (lv_room (zcat hst)) d hk) (fun _ q => q) (zfn_at (is := is)) hnd hw hlen hA h1 h2 h3 h4 h5 h6 kk
theorem z_callS (h : Cb Z own cc nL R) {stk : List Value} {ix : Nat} (hM : MS y cy ny ry Ry As wc Post) (hF : zFit y cy ny ry Ry R As.length) (hl : Cond.methodLink own ix y ∈ TT) (hs : Cond.static y ∈ TT) (d : decode cc pc = .ok (.invokestatic ix, 3)) (hk : k + Ry.cells ≤ R.cells ∧ n + Ry.slots ≤ R.slots) (is : List Nat) (hnd : va_nd is = true) (hw : is.map (fun i => w[i]?) = wc.map (fun e => some (zE (fun i => i) (zfn is) e))) (hst : (st.map fun v => v.category).sum ≤ 8) (hstk : ((As.map (zV (zfn is))).reverse ++ st) = stk) (hlen : ∀ r w', Post r w' → w'.length = wc.length)
    (kk : ∀ r w', Post r w' → Z (k + Ry.cells) (n + Ry.slots) (zput w is (w'.map (zE (fun i => i) (zfn is)))) lv (pc + 3) ((r.map (zV (zfn is))).toList ++ st)) : Z k n w lv pc stk := by
  subst hstk
  obtain ⟨p, l, e, s, m, args, below, meth, c, D, dA, A, ad0, n0, Q, ⟨hx, hb, hml, ho, hts, hnt, hK, hA⟩, rfl⟩ := h
  intro ad H locs ls h1 h2 h3 h4 h5 h6
  obtain ⟨f1, f2, f3, f4, f5, f6⟩ := hF
  have hpick := zpick (dA := dA) (ad := ad) (zfn_at (is := is)) hw
  have hPc : va_P D clz (zW dA (fun j => ad (zfn is j)) wc) H := h3.sub is (zmap_filter hpick)
  have hDc : va_D A (zW dA (fun j => ad (zfn is j)) wc) := h4.sub is hnd hpick
  have hpay := pay_in (args := args) (s := s) hts (zgood f1)
  have hlenY : ∀ sig, parseMethodDescriptor y.desc = some sig → As.length = sig.parameters.length := fun sig hs => by
    rw [hs] at f4
    exact (Option.some.inj f4).symm
  have hc1 : (Cond.code y cy ny ry).before args s = true := hts _ f1
  have hmem : Cond.code y cy ny ry ∈ (Cond.code y cy ny ry :: TT) := List.mem_cons_self
  have e0 : ((As.map (zV (zfn is))).reverse ++ st).map (zV ad) = (As.map (zV (fun j => ad (zfn is j)))).reverse ++ st.map (zV ad) := by
    simp only [List.map_append, List.map_reverse, List.map_map]
    congr 2
    apply List.map_congr_left
    intro v _
    exact zV_comp v
  rw [e0]
  refine zcore (f := zfn is) (va_runS (As := As.map (zV (fun j => ad (zfn is j)))) (rest := st.map (zV ad)) (n := As.length) ⟨hx, hb, hml, ho, hts⟩ (hM l D dA (fun j => ad (zfn is j)) H.size) ⟨⟨rfl, rfl, f5, f6, hpay, hmem, hc1, hts _ f2, f3, hlenY, hts _ hl⟩, hts _ hs⟩ ⟨zblind, fun U hU hW => ⟨rfl, by rw [hU], by rw [hU]; exact hPc, va_K.moved hW.alike hK, nt_warm hW hnt, hDc.weaken (fun _ _ _ _ => trivial)⟩⟩ rfl (by rw [List.length_map]) h6.1 rfl (lv_room (zcat hst)) d hk) (fun _ q => q) (zfn_at (is := is)) hnd hw hlen hA h1 h2 h3 h4 h5 h6 kk
theorem z_callSN (h : Cb Z own cc nL R) {stk : List Value} {ix : Nat} (hM : MS y cy ny ry Ry As wc Post) (hF : zFit y cy ny ry Ry R As.length) {host : String} (hl : Cond.methodLinkNest own ix y host ∈ NT) (hs : Cond.static y ∈ TT) (d : decode cc pc = .ok (.invokestatic ix, 3)) (hk : k + Ry.cells ≤ R.cells ∧ n + Ry.slots ≤ R.slots) (is : List Nat) (hnd : va_nd is = true) (hw : is.map (fun i => w[i]?) = wc.map (fun e => some (zE (fun i => i) (zfn is) e))) (hst : (st.map fun v => v.category).sum ≤ 8) (hstk : ((As.map (zV (zfn is))).reverse ++ st) = stk) (hlen : ∀ r w', Post r w' → w'.length = wc.length)
    (kk : ∀ r w', Post r w' → Z (k + Ry.cells) (n + Ry.slots) (zput w is (w'.map (zE (fun i => i) (zfn is)))) lv (pc + 3) ((r.map (zV (zfn is))).toList ++ st)) : Z k n w lv pc stk := by
  subst hstk
  obtain ⟨p, l, e, s, m, args, below, meth, c, D, dA, A, ad0, n0, Q, ⟨hx, hb, hml, ho, hts, hnt, hK, hA⟩, rfl⟩ := h
  intro ad H locs ls h1 h2 h3 h4 h5 h6
  obtain ⟨f1, f2, f3, f4, f5, f6⟩ := hF
  have hpick := zpick (dA := dA) (ad := ad) (zfn_at (is := is)) hw
  have hPc : va_P D clz (zW dA (fun j => ad (zfn is j)) wc) H := h3.sub is (zmap_filter hpick)
  have hDc : va_D A (zW dA (fun j => ad (zfn is j)) wc) := h4.sub is hnd hpick
  have hpay := pay_in (args := args) (s := s) hts (zgood f1)
  have hlenY : ∀ sig, parseMethodDescriptor y.desc = some sig → As.length = sig.parameters.length := fun sig hs => by
    rw [hs] at f4
    exact (Option.some.inj f4).symm
  have hc1 : (Cond.code y cy ny ry).before args s = true := hts _ f1
  have hmem : Cond.code y cy ny ry ∈ (Cond.code y cy ny ry :: TT) := List.mem_cons_self
  have e0 : ((As.map (zV (zfn is))).reverse ++ st).map (zV ad) = (As.map (zV (fun j => ad (zfn is j)))).reverse ++ st.map (zV ad) := by
    simp only [List.map_append, List.map_reverse, List.map_map]
    congr 2
    apply List.map_congr_left
    intro v _
    exact zV_comp v
  rw [e0]
  refine zcore (f := zfn is) (va_runSN (As := As.map (zV (fun j => ad (zfn is j)))) (rest := st.map (zV ad)) (n := As.length) ⟨hx, hb, hml, ho, hts⟩ (hM l D dA (fun j => ad (zfn is j)) H.size) ⟨⟨⟨rfl, rfl, f5, f6, hpay, hmem⟩, hc1, hts _ f2, f3, hlenY, va_Nw.use rfl (hnt _ hl)⟩, hts _ hs, trivial⟩ ⟨zblind, fun U hU hW => ⟨rfl, by rw [hU], by rw [hU]; exact hPc, va_K.moved hW.alike hK, nt_warm hW hnt, hDc.weaken (fun _ _ _ _ => trivial)⟩⟩ rfl (by rw [List.length_map]) h6.1 rfl (lv_room (zcat hst)) d hk) (fun _ q => q) (zfn_at (is := is)) hnd hw hlen hA h1 h2 h3 h4 h5 h6 kk
theorem z_mmin (h : Cb Z own cc nL R) {ix : Nat} {x y : Int32} (d : decode cc pc = .ok (.invokestatic ix, 3)) (hl : Cond.methodLink own ix Lib.Math.min.name ∈ TT) (hf : 1 ≤ R.frames) (hlo : (st.map fun v => v.category).sum + 13 ≤ R.locals) (hc : k ≤ R.cells) (hs : n ≤ R.slots) (kk : Z k n w lv (pc + 3) (.int (if y < x then y else x) :: st)) : Z k n w lv pc (.int y :: .int x :: st) := by
  obtain ⟨p, l, e, s, m, args, below, meth, c, D, dA, A, ad0, n0, Q, ⟨hx, hb, hml, ho, hts, hnt, hK, hA⟩, rfl⟩ := h
  intro ad H locs ls h1 h2 h3 h4 h5 h6
  exact va_mmin hx hb (hml.trans h6.1.symm) ho (hts _ hl) (hts _ wt_Min) (hts _ wn_JM) (hts _ wc_Min) hf (by rw [zcat_eq]; exact hlo) hc hs d (kk ad H locs ls h1 h2 h3 h4 h5 h6)
theorem z_mmax (h : Cb Z own cc nL R) {ix : Nat} {x y : Int32} (d : decode cc pc = .ok (.invokestatic ix, 3)) (hl : Cond.methodLink own ix Lib.Math.max.name ∈ TT) (hf : 1 ≤ R.frames) (hlo : (st.map fun v => v.category).sum + 13 ≤ R.locals) (hc : k ≤ R.cells) (hs : n ≤ R.slots) (kk : Z k n w lv (pc + 3) (.int (if x < y then y else x) :: st)) : Z k n w lv pc (.int y :: .int x :: st) := by
  obtain ⟨p, l, e, s, m, args, below, meth, c, D, dA, A, ad0, n0, Q, ⟨hx, hb, hml, ho, hts, hnt, hK, hA⟩, rfl⟩ := h
  intro ad H locs ls h1 h2 h3 h4 h5 h6
  exact va_mmax hx hb (hml.trans h6.1.symm) ho (hts _ hl) (hts _ wt_Max) (hts _ wn_JM) (hts _ wc_Max) hf (by rw [zcat_eq]; exact hlo) hc hs d (kk ad H locs ls h1 h2 h3 h4 h5 h6)
theorem z_mminl (h : Cb Z own cc nL R) {ix : Nat} {x y : Int64} (d : decode cc pc = .ok (.invokestatic ix, 3)) (hl : Cond.methodLink own ix Lib.MathLoose.min_long.x ∈ TT) (hf : 1 ≤ R.frames) (hlo : (st.map fun v => v.category).sum + 15 ≤ R.locals) (hc : k ≤ R.cells) (hs : n ≤ R.slots) (kk : Z k n w lv (pc + 3) (.long (if y < x then y else x) :: st)) : Z k n w lv pc (.long y :: .long x :: st) := by
  obtain ⟨p, l, e, s, m, args, below, meth, c, D, dA, A, ad0, n0, Q, ⟨hx, hb, hml, ho, hts, hnt, hK, hA⟩, rfl⟩ := h
  intro ad H locs ls h1 h2 h3 h4 h5 h6
  exact va_mmin_long hx hb (hml.trans h6.1.symm) ho (hts _ hl) (hts _ wt_MinL) (hts _ wn_JM) (hts _ wc_MinL) hf (by rw [zcat_eq]; exact hlo) hc hs d (kk ad H locs ls h1 h2 h3 h4 h5 h6)
theorem z_copy (h : Cb Z own cc nL R) {ix a b N0 N1 : Nat} {f g : Nat → Int32} {sp dp q : Int32} (d : decode cc pc = .ok (.invokestatic ix, 3)) (hl : Cond.methodLink own ix arraycopyName ∈ TT) (ha : w[a]? = some (.inl (0, N0, .inl f))) (hb9 : w[b]? = some (.inl (0, N1, .inl g))) (g1 : ¬ sp < 0) (g2 : ¬ dp < 0) (g3 : ¬ q < 0) (g4 : sp.toNatClampNeg + q.toNatClampNeg ≤ N0) (g5 : dp.toNatClampNeg + q.toNatClampNeg ≤ N1) (hf : 1 ≤ R.frames) (hlo : (st.map fun v => v.category).sum + (nativeFrameWords "java/lang/System" "arraycopy" 5 + 11) ≤ R.locals)
    (kk : Z k n (w.set b (.inl (0, N1, .inl (va_cpy f g sp.toNatClampNeg dp.toNatClampNeg q.toNatClampNeg)))) lv (pc + 3) st) : Z k n w lv pc (.int q :: .int dp :: .ref b :: .int sp :: .ref a :: st) := by
  obtain ⟨p, l, e, s, m, args, below, meth, c, D, dA, A, ad0, n0, Q, ⟨hx, hb, hml, ho, hts, hnt, hK, hA⟩, rfl⟩ := h
  intro ad H locs ls h1 h2 h3 h4 h5 h6
  refine va_copyi (ty := .int) hx hb (hml.trans h6.1.symm) ho (hts _ hl) (hts _ wz_copy) (hts _ wt_copy) (hts _ wn_Sys) hK h3 h4 h5 a b 0 0 (zW_at ha) (zW_at hb9) rfl rfl rfl g1 g2 g3 g4 g5 (fun _ _ => rfl) hf (by rw [zcat_eq]; exact hlo) d (fun H locs h3 h4 h5 => ?_)
  rw [show (.inl (dA 0, N1, .inl (va_cpy f g sp.toNatClampNeg dp.toNatClampNeg q.toNatClampNeg)) : va_E) = zE dA ad (.inl (0, N1, .inl (va_cpy f g sp.toNatClampNeg dp.toNatClampNeg q.toNatClampNeg))) from rfl, ← zW_set] at h3 h4
  exact kk ad H locs ls (by rw [List.length_set]; exact h1) (by rw [List.length_set]; exact h2) h3 h4 h5 h6
end ZCalls
end
section
/-! rooms, and calls at contracts of one form -/
abbrev rm (d : Nat) : Room := { frames := d, cells := 0, slots := 0, locals := 64 * d }
def zP {X : Type} (F : X → Option Value) (G : X → List va_E) (P : X → Prop) : Option Value → List va_E → Prop := fun r w => ∃ x, r = F x ∧ w = G x ∧ P x
theorem zP_i {X : Type} {F : X → Option Value} {G : X → List va_E} {P : X → Prop} {r : Option Value} {w : List va_E} (x : X) (h1 : r = F x) (h2 : w = G x) (h : P x) : zP F G P r w := ⟨x, h1, h2, h⟩
section ZC2
variable {Z : ZP} {own : String} {cc : ByteArray} {nL : Nat} {k n pc d' d0 : Nat} {w : List va_E} {lv : List (Nat × Value)} {st stk : List Value}
variable {y : MethodName} {cy : ByteArray} {ny : Nat} {ry : Option FieldType} {As : List Value} {wc : List va_E} {X : Type} {F : X → Option Value} {G : X → List va_E} {P : X → Prop}
theorem z_cV (h : Cb Z own cc nL (rm d0)) {b0 : Nat} {ix : Nat} (hM : MS y cy ny ry (rm d') (.ref b0 :: As) wc (zP F G P)) (hF : zFit y cy ny ry (rm d') (rm d0) As.length) (hl : Cond.methodLink own ix y ∈ TT) {C : String} {ci : Nat} {q9 : u_T × Nat} (hi : Cond.instanceMethod y ∈ TT) (hs : Cond.selects C y y ∈ TT) (hci : clz[ci]? = some (C, q9)) (hrc : ∃ fs : List Value, wc[b0]? = some (.inr (ci, fs))) (d : decode cc pc = .ok (.invokevirtual ix, 3)) (is : List Nat) (hnd : va_nd is = true) (hw : is.map (fun i => w[i]?) = wc.map (fun e => some (zE (fun i => i) (zfn is) e))) (hst : (st.map fun v => v.category).sum ≤ 8) (hstk : ((As.map (zV (zfn is))).reverse ++ .ref (zfn is b0) :: st) = stk) (hlen : ∀ x, (G x).length = wc.length)
    (kk : ∀ x, P x → Z 0 0 (zput w is ((G x).map (zE (fun i => i) (zfn is)))) lv (pc + 3) (((F x).map (zV (zfn is))).toList ++ st)) : Z 0 0 w lv pc stk :=
  z_callV h hM hF hl hi hs hci hrc d ⟨Nat.le_refl _, Nat.le_refl _⟩ is hnd hw hst hstk (fun r w' hp => by obtain ⟨x, -, e, -⟩ := hp; rw [e]; exact hlen x) (fun r w' hp => by
    obtain ⟨x, e1, e2, hx⟩ := hp
    subst e1; subst e2
    exact kk x hx)
theorem z_cVN (h : Cb Z own cc nL (rm d0)) {b0 : Nat} {ix : Nat} (hM : MS y cy ny ry (rm d') (.ref b0 :: As) wc (zP F G P)) (hF : zFit y cy ny ry (rm d') (rm d0) As.length) {host : String} (hl : Cond.methodLinkNest own ix y host ∈ NT) {C : String} {ci : Nat} {q9 : u_T × Nat} (hi : Cond.instanceMethod y ∈ TT) (hs : Cond.selects C y y ∈ TT) (hci : clz[ci]? = some (C, q9)) (hrc : ∃ fs : List Value, wc[b0]? = some (.inr (ci, fs))) (d : decode cc pc = .ok (.invokevirtual ix, 3)) (is : List Nat) (hnd : va_nd is = true) (hw : is.map (fun i => w[i]?) = wc.map (fun e => some (zE (fun i => i) (zfn is) e))) (hst : (st.map fun v => v.category).sum ≤ 8) (hstk : ((As.map (zV (zfn is))).reverse ++ .ref (zfn is b0) :: st) = stk) (hlen : ∀ x, (G x).length = wc.length)
    (kk : ∀ x, P x → Z 0 0 (zput w is ((G x).map (zE (fun i => i) (zfn is)))) lv (pc + 3) (((F x).map (zV (zfn is))).toList ++ st)) : Z 0 0 w lv pc stk :=
  z_callVN h hM hF hl hi hs hci hrc d ⟨Nat.le_refl _, Nat.le_refl _⟩ is hnd hw hst hstk (fun r w' hp => by obtain ⟨x, -, e, -⟩ := hp; rw [e]; exact hlen x) (fun r w' hp => by
    obtain ⟨x, e1, e2, hx⟩ := hp
    subst e1; subst e2
    exact kk x hx)
theorem z_cS (h : Cb Z own cc nL (rm d0)) {ix : Nat} (hM : MS y cy ny ry (rm d') As wc (zP F G P)) (hF : zFit y cy ny ry (rm d') (rm d0) As.length) (hl : Cond.methodLink own ix y ∈ TT) (hs : Cond.static y ∈ TT) (d : decode cc pc = .ok (.invokestatic ix, 3)) (is : List Nat) (hnd : va_nd is = true) (hw : is.map (fun i => w[i]?) = wc.map (fun e => some (zE (fun i => i) (zfn is) e))) (hst : (st.map fun v => v.category).sum ≤ 8) (hstk : ((As.map (zV (zfn is))).reverse ++ st) = stk) (hlen : ∀ x, (G x).length = wc.length)
    (kk : ∀ x, P x → Z 0 0 (zput w is ((G x).map (zE (fun i => i) (zfn is)))) lv (pc + 3) (((F x).map (zV (zfn is))).toList ++ st)) : Z 0 0 w lv pc stk :=
  z_callS h hM hF hl hs d ⟨Nat.le_refl _, Nat.le_refl _⟩ is hnd hw hst hstk (fun r w' hp => by obtain ⟨x, -, e, -⟩ := hp; rw [e]; exact hlen x) (fun r w' hp => by
    obtain ⟨x, e1, e2, hx⟩ := hp
    subst e1; subst e2
    exact kk x hx)
theorem z_cSN (h : Cb Z own cc nL (rm d0)) {ix : Nat} (hM : MS y cy ny ry (rm d') As wc (zP F G P)) (hF : zFit y cy ny ry (rm d') (rm d0) As.length) {host : String} (hl : Cond.methodLinkNest own ix y host ∈ NT) (hs : Cond.static y ∈ TT) (d : decode cc pc = .ok (.invokestatic ix, 3)) (is : List Nat) (hnd : va_nd is = true) (hw : is.map (fun i => w[i]?) = wc.map (fun e => some (zE (fun i => i) (zfn is) e))) (hst : (st.map fun v => v.category).sum ≤ 8) (hstk : ((As.map (zV (zfn is))).reverse ++ st) = stk) (hlen : ∀ x, (G x).length = wc.length)
    (kk : ∀ x, P x → Z 0 0 (zput w is ((G x).map (zE (fun i => i) (zfn is)))) lv (pc + 3) (((F x).map (zV (zfn is))).toList ++ st)) : Z 0 0 w lv pc stk :=
  z_callSN h hM hF hl hs d ⟨Nat.le_refl _, Nat.le_refl _⟩ is hnd hw hst hstk (fun r w' hp => by obtain ⟨x, -, e, -⟩ := hp; rw [e]; exact hlen x) (fun r w' hp => by
    obtain ⟨x, e1, e2, hx⟩ := hp
    subst e1; subst e2
    exact kk x hx)
end ZC2
theorem zf_D_init {d d' : Nat} (h : d' < d) : zFit y_D_init c_D_init 1 none (rm d') (rm d) 0 := ⟨wc_D_init, wn_D, ⟨by decide, by decide⟩, by decide +kernel, h, by show 8 + (1 + 11) + 64 * d' ≤ 64 * d; omega⟩
theorem zf_T_init {d d' : Nat} (h : d' < d) : zFit y_T_init c_T_init 1 none (rm d') (rm d) 0 := ⟨wc_T_init, wn_T, ⟨by decide, by decide⟩, by decide +kernel, h, by show 8 + (1 + 11) + 64 * d' ≤ 64 * d; omega⟩
theorem zf_H_init {d d' : Nat} (h : d' < d) : zFit y_H_init c_H_init 2 none (rm d') (rm d) 1 := ⟨wc_H_init, wn_H, ⟨by decide, by decide⟩, by decide +kernel, h, by show 8 + (2 + 11) + 64 * d' ≤ 64 * d; omega⟩
theorem zf_T_setPowers {d d' : Nat} (h : d' < d) : zFit y_T_setPowers c_T_setPowers 2 none (rm d') (rm d) 0 := ⟨wc_T_setPowers, wn_T, ⟨by decide, by decide⟩, by decide +kernel, h, by show 8 + (2 + 11) + 64 * d' ≤ 64 * d; omega⟩
theorem zf_D_digitsPerGroup {d d' : Nat} (h : d' < d) : zFit y_D_digitsPerGroup c_D_digitsPerGroup 4 (some .int) (rm d') (rm d) 1 := ⟨wc_D_digitsPerGroup, wn_D, ⟨by decide, by decide⟩, by decide +kernel, h, by show 8 + (4 + 11) + 64 * d' ≤ 64 * d; omega⟩
theorem zf_B_init {d d' : Nat} (h : d' < d) : zFit y_B_init c_B_init 1 none (rm d') (rm d) 0 := ⟨wc_B_init, wn_B, ⟨by decide, by decide⟩, by decide +kernel, h, by show 8 + (1 + 11) + 64 * d' ≤ 64 * d; omega⟩
theorem zf_S_init {d d' : Nat} (h : d' < d) : zFit y_S_init c_S_init 1 none (rm d') (rm d) 0 := ⟨wc_S_init, wn_S, ⟨by decide, by decide⟩, by decide +kernel, h, by show 8 + (1 + 11) + 64 * d' ≤ 64 * d; omega⟩
theorem zf_D_keep {d d' : Nat} (h : d' < d) : zFit y_D_keep c_D_keep 1 none (rm d') (rm d) 0 := ⟨wc_D_keep, wn_D, ⟨by decide, by decide⟩, by decide +kernel, h, by show 8 + (1 + 11) + 64 * d' ≤ 64 * d; omega⟩
theorem zf_T_copyText {d d' : Nat} (h : d' < d) : zFit y_T_copyText c_T_copyText 2 none (rm d') (rm d) 1 := ⟨wc_T_copyText, wn_T, ⟨by decide, by decide⟩, by decide +kernel, h, by show 8 + (2 + 11) + 64 * d' ≤ 64 * d; omega⟩
theorem zf_T_replace {d d' : Nat} (h : d' < d) : zFit y_T_replace c_T_replace 3 none (rm d') (rm d) 2 := ⟨wc_T_replace, wn_T, ⟨by decide, by decide⟩, by decide +kernel, h, by show 8 + (3 + 11) + 64 * d' ≤ 64 * d; omega⟩
theorem zf_H_copy {d d' : Nat} (h : d' < d) : zFit y_H_copy c_H_copy 2 none (rm d') (rm d) 1 := ⟨wc_H_copy, wn_H, ⟨by decide, by decide⟩, by decide +kernel, h, by show 8 + (2 + 11) + 64 * d' ≤ 64 * d; omega⟩
theorem zf_H_load {d d' : Nat} (h : d' < d) : zFit y_H_load c_H_load 3 none (rm d') (rm d) 2 := ⟨wc_H_load, wn_H, ⟨by decide, by decide⟩, by decide +kernel, h, by show 8 + (3 + 11) + 64 * d' ≤ 64 * d; omega⟩
theorem zf_H_trim {d d' : Nat} (h : d' < d) : zFit y_H_trim c_H_trim 1 none (rm d') (rm d) 0 := ⟨wc_H_trim, wn_H, ⟨by decide, by decide⟩, by decide +kernel, h, by show 8 + (1 + 11) + 64 * d' ≤ 64 * d; omega⟩
theorem zf_T_changeBase {d d' : Nat} (h : d' < d) : zFit y_T_changeBase c_T_changeBase 2 none (rm d') (rm d) 1 := ⟨wc_T_changeBase, wn_T, ⟨by decide, by decide⟩, by decide +kernel, h, by show 8 + (2 + 11) + 64 * d' ≤ 64 * d; omega⟩
theorem zf_D_swap {d d' : Nat} (h : d' < d) : zFit y_D_swap c_D_swap 2 (some .int) (rm d') (rm d) 0 := ⟨wc_D_swap, wn_D, ⟨by decide, by decide⟩, by decide +kernel, h, by show 8 + (2 + 11) + 64 * d' ≤ 64 * d; omega⟩
theorem zf_D_digits {d d' : Nat} (h : d' < d) : zFit y_D_digits c_D_digits 1 (some .int) (rm d') (rm d) 0 := ⟨wc_D_digits, wn_D, ⟨by decide, by decide⟩, by decide +kernel, h, by show 8 + (1 + 11) + 64 * d' ≤ 64 * d; omega⟩
theorem zf_T_tell {d d' : Nat} (h : d' < d) : zFit y_T_tell c_T_tell 3 none (rm d') (rm d) 1 := ⟨wc_T_tell, wn_T, ⟨by decide, by decide⟩, by decide +kernel, h, by show 8 + (3 + 11) + 64 * d' ≤ 64 * d; omega⟩
theorem zf_H_shrink {d d' : Nat} (h : d' < d) : zFit y_H_shrink c_H_shrink 9 (some .int) (rm d') (rm d) 1 := ⟨wc_H_shrink, wn_H, ⟨by decide, by decide⟩, by decide +kernel, h, by show 8 + (9 + 11) + 64 * d' ≤ 64 * d; omega⟩
theorem zf_JM_max {d d' : Nat} (h : d' < d) : zFit y_JM_max c_JM_max 2 (some .int) (rm d') (rm d) 2 := ⟨wc_JM_max, wn_JM, ⟨by decide, by decide⟩, by decide +kernel, h, by show 8 + (2 + 11) + 64 * d' ≤ 64 * d; omega⟩
theorem zf_T_measure {d d' : Nat} (h : d' < d) : zFit y_T_measure c_T_measure 3 none (rm d') (rm d) 0 := ⟨wc_T_measure, wn_T, ⟨by decide, by decide⟩, by decide +kernel, h, by show 8 + (3 + 11) + 64 * d' ≤ 64 * d; omega⟩
theorem zf_D_rooted {d d' : Nat} (h : d' < d) : zFit y_D_rooted c_D_rooted 1 (some .int) (rm d') (rm d) 0 := ⟨wc_D_rooted, wn_D, ⟨by decide, by decide⟩, by decide +kernel, h, by show 8 + (1 + 11) + 64 * d' ≤ 64 * d; omega⟩
theorem zf_B_extractRoot {d d' : Nat} (h : d' < d) : zFit y_B_extractRoot c_B_extractRoot 4 none (rm d') (rm d) 0 := ⟨wc_B_extractRoot, wn_B, ⟨by decide, by decide⟩, by decide +kernel, h, by show 8 + (4 + 11) + 64 * d' ≤ 64 * d; omega⟩
theorem zf_H_length {d d' : Nat} (h : d' < d) : zFit y_H_length c_H_length 1 (some .int) (rm d') (rm d) 0 := ⟨wc_H_length, wn_H, ⟨by decide, by decide⟩, by decide +kernel, h, by show 8 + (1 + 11) + 64 * d' ≤ 64 * d; omega⟩
theorem zf_D_bitsOf {d d' : Nat} (h : d' < d) : zFit y_D_bitsOf c_D_bitsOf 1 (some .int) (rm d') (rm d) 1 := ⟨wc_D_bitsOf, wn_D, ⟨by decide, by decide⟩, by decide +kernel, h, by show 8 + (1 + 11) + 64 * d' ≤ 64 * d; omega⟩
theorem zf_JI_numberOfLeadingZeros {d d' : Nat} (h : d' < d) : zFit y_JI_numberOfLeadingZeros c_JI_numberOfLeadingZeros 2 (some .int) (rm d') (rm d) 1 := ⟨wc_JI_numberOfLeadingZeros, wn_JI, ⟨by decide, by decide⟩, by decide +kernel, h, by show 8 + (2 + 11) + 64 * d' ≤ 64 * d; omega⟩
theorem zf_H_zero {d d' : Nat} (h : d' < d) : zFit y_H_zero c_H_zero 2 none (rm d') (rm d) 1 := ⟨wc_H_zero, wn_H, ⟨by decide, by decide⟩, by decide +kernel, h, by show 8 + (2 + 11) + 64 * d' ≤ 64 * d; omega⟩
theorem zf_JA_fillI {d d' : Nat} (h : d' < d) : zFit y_JA_fillI c_JA_fillI 5 none (rm d') (rm d) 4 := ⟨wc_JA_fillI, wn_JA, ⟨by decide, by decide⟩, by decide +kernel, h, by show 8 + (5 + 11) + 64 * d' ≤ 64 * d; omega⟩
theorem zf_JA_rangeCheck {d d' : Nat} (h : d' < d) : zFit y_JA_rangeCheck c_JA_rangeCheck 3 none (rm d') (rm d) 3 := ⟨wc_JA_rangeCheck, wn_JA, ⟨by decide, by decide⟩, by decide +kernel, h, by show 8 + (3 + 11) + 64 * d' ≤ 64 * d; omega⟩
theorem zf_JA_copyOf {d d' : Nat} (h : d' < d) : zFit y_JA_copyOf c_JA_copyOf 3 (some (.array .byte)) (rm d') (rm d) 2 := ⟨wc_JA_copyOf, wn_JA, ⟨by decide, by decide⟩, by decide +kernel, h, by show 8 + (3 + 11) + 64 * d' ≤ 64 * d; omega⟩
theorem zf_JI_stringSize {d d' : Nat} (h : d' < d) : zFit y_JI_stringSize c_JI_stringSize 4 (some .int) (rm d') (rm d) 1 := ⟨wc_JI_stringSize, wn_JI, ⟨by decide, by decide⟩, by decide +kernel, h, by show 8 + (4 + 11) + 64 * d' ≤ 64 * d; omega⟩
theorem zf_JI_getChars {d d' : Nat} (h : d' < d) : zFit y_JI_getChars c_JI_getChars 7 (some .int) (rm d') (rm d) 3 := ⟨wc_JI_getChars, wn_JI, ⟨by decide, by decide⟩, by decide +kernel, h, by show 8 + (7 + 11) + 64 * d' ≤ 64 * d; omega⟩
theorem zf_JA_copyOfRange {d d' : Nat} (h : d' < d) : zFit y_JA_copyOfRange c_JA_copyOfRange 3 (some (.array .byte)) (rm d') (rm d) 3 := ⟨wc_JA_copyOfRange, wn_JA, ⟨by decide, by decide⟩, by decide +kernel, h, by show 8 + (3 + 11) + 64 * d' ≤ 64 * d; omega⟩
theorem zf_JA_copyOfRangeByte {d d' : Nat} (h : d' < d) : zFit y_JA_copyOfRangeByte c_JA_copyOfRangeByte 5 (some (.array .byte)) (rm d') (rm d) 3 := ⟨wc_JA_copyOfRangeByte, wn_JA, ⟨by decide, by decide⟩, by decide +kernel, h, by show 8 + (5 + 11) + 64 * d' ≤ 64 * d; omega⟩
theorem zf_JA_checkLength {d d' : Nat} (h : d' < d) : zFit y_JA_checkLength c_JA_checkLength 2 none (rm d') (rm d) 2 := ⟨wc_JA_checkLength, wn_JA, ⟨by decide, by decide⟩, by decide +kernel, h, by show 8 + (2 + 11) + 64 * d' ≤ 64 * d; omega⟩
theorem zf_H_lift {d d' : Nat} (h : d' < d) : zFit y_H_lift c_H_lift 3 none (rm d') (rm d) 1 := ⟨wc_H_lift, wn_H, ⟨by decide, by decide⟩, by decide +kernel, h, by show 8 + (3 + 11) + 64 * d' ≤ 64 * d; omega⟩
theorem zf_H_scale {d d' : Nat} (h : d' < d) : zFit y_H_scale c_H_scale 6 none (rm d') (rm d) 2 := ⟨wc_H_scale, wn_H, ⟨by decide, by decide⟩, by decide +kernel, h, by show 8 + (6 + 11) + 64 * d' ≤ 64 * d; omega⟩
theorem zf_H_append {d d' : Nat} (h : d' < d) : zFit y_H_append c_H_append 2 none (rm d') (rm d) 1 := ⟨wc_H_append, wn_H, ⟨by decide, by decide⟩, by decide +kernel, h, by show 8 + (2 + 11) + 64 * d' ≤ 64 * d; omega⟩
theorem zf_B_takeFirstRootLimb {d d' : Nat} (h : d' < d) : zFit y_B_takeFirstRootLimb c_B_takeFirstRootLimb 10 none (rm d') (rm d) 1 := ⟨wc_B_takeFirstRootLimb, wn_B, ⟨by decide, by decide⟩, by decide +kernel, h, by show 8 + (10 + 11) + 64 * d' ≤ 64 * d; omega⟩
theorem zf_B_setTwice {d d' : Nat} (h : d' < d) : zFit y_B_setTwice c_B_setTwice 4 none (rm d') (rm d) 2 := ⟨wc_B_setTwice, wn_B, ⟨by decide, by decide⟩, by decide +kernel, h, by show 8 + (4 + 11) + 64 * d' ≤ 64 * d; omega⟩
theorem zf_B_takeRootLimb {d d' : Nat} (h : d' < d) : zFit y_B_takeRootLimb c_B_takeRootLimb 12 none (rm d') (rm d) 2 := ⟨wc_B_takeRootLimb, wn_B, ⟨by decide, by decide⟩, by decide +kernel, h, by show 8 + (12 + 11) + 64 * d' ≤ 64 * d; omega⟩
theorem zf_H_takeAway {d d' : Nat} (h : d' < d) : zFit y_H_takeAway c_H_takeAway 10 (some .int) (rm d') (rm d) 5 := ⟨wc_H_takeAway, wn_H, ⟨by decide, by decide⟩, by decide +kernel, h, by show 8 + (10 + 11) + 64 * d' ≤ 64 * d; omega⟩
theorem zf_H_lower {d d' : Nat} (h : d' < d) : zFit y_H_lower c_H_lower 2 none (rm d') (rm d) 1 := ⟨wc_H_lower, wn_H, ⟨by decide, by decide⟩, by decide +kernel, h, by show 8 + (2 + 11) + 64 * d' ≤ 64 * d; omega⟩
theorem zf_H_drop {d d' : Nat} (h : d' < d) : zFit y_H_drop c_H_drop 3 none (rm d') (rm d) 1 := ⟨wc_H_drop, wn_H, ⟨by decide, by decide⟩, by decide +kernel, h, by show 8 + (3 + 11) + 64 * d' ≤ 64 * d; omega⟩
theorem zf_D_retell {d d' : Nat} (h : d' < d) : zFit y_D_retell c_D_retell 3 (some .int) (rm d') (rm d) 2 := ⟨wc_D_retell, wn_D, ⟨by decide, by decide⟩, by decide +kernel, h, by show 8 + (3 + 11) + 64 * d' ≤ 64 * d; omega⟩
theorem zf_D_compare {d d' : Nat} (h : d' < d) : zFit y_D_compare c_D_compare 1 (some .int) (rm d') (rm d) 0 := ⟨wc_D_compare, wn_D, ⟨by decide, by decide⟩, by decide +kernel, h, by show 8 + (1 + 11) + 64 * d' ≤ 64 * d; omega⟩
theorem zf_H_order {d d' : Nat} (h : d' < d) : zFit y_H_order c_H_order 3 (some .int) (rm d') (rm d) 1 := ⟨wc_H_order, wn_H, ⟨by decide, by decide⟩, by decide +kernel, h, by show 8 + (3 + 11) + 64 * d' ≤ 64 * d; omega⟩
theorem zf_D_mill {d d' : Nat} (h : d' < d) : zFit y_D_mill c_D_mill 4 (some .int) (rm d') (rm d) 3 := ⟨wc_D_mill, wn_D, ⟨by decide, by decide⟩, by decide +kernel, h, by show 8 + (4 + 11) + 64 * d' ≤ 64 * d; omega⟩
theorem zf_D_refuseWrongPlaces {d d' : Nat} (h : d' < d) : zFit y_D_refuseWrongPlaces c_D_refuseWrongPlaces 2 none (rm d') (rm d) 2 := ⟨wc_D_refuseWrongPlaces, wn_D, ⟨by decide, by decide⟩, by decide +kernel, h, by show 8 + (2 + 11) + 64 * d' ≤ 64 * d; omega⟩
theorem zf_D_refuseWrongBase {d d' : Nat} (h : d' < d) : zFit y_D_refuseWrongBase c_D_refuseWrongBase 1 none (rm d') (rm d) 1 := ⟨wc_D_refuseWrongBase, wn_D, ⟨by decide, by decide⟩, by decide +kernel, h, by show 8 + (1 + 11) + 64 * d' ≤ 64 * d; omega⟩
theorem zf_D_refuseTooManyPlaces {d d' : Nat} (h : d' < d) : zFit y_D_refuseTooManyPlaces c_D_refuseTooManyPlaces 2 none (rm d') (rm d) 2 := ⟨wc_D_refuseTooManyPlaces, wn_D, ⟨by decide, by decide⟩, by decide +kernel, h, by show 8 + (2 + 11) + 64 * d' ≤ 64 * d; omega⟩
theorem zf_D_bitsPerDigit {d d' : Nat} (h : d' < d) : zFit y_D_bitsPerDigit c_D_bitsPerDigit 1 (some .int) (rm d') (rm d) 1 := ⟨wc_D_bitsPerDigit, wn_D, ⟨by decide, by decide⟩, by decide +kernel, h, by show 8 + (1 + 11) + 64 * d' ≤ 64 * d; omega⟩
theorem zf_B_makeGolden {d d' : Nat} (h : d' < d) : zFit y_B_makeGolden c_B_makeGolden 3 none (rm d') (rm d) 2 := ⟨wc_B_makeGolden, wn_B, ⟨by decide, by decide⟩, by decide +kernel, h, by show 8 + (3 + 11) + 64 * d' ≤ 64 * d; omega⟩
theorem zf_B_makeRoot {d d' : Nat} (h : d' < d) : zFit y_B_makeRoot c_B_makeRoot 5 none (rm d') (rm d) 3 := ⟨wc_B_makeRoot, wn_B, ⟨by decide, by decide⟩, by decide +kernel, h, by show 8 + (5 + 11) + 64 * d' ≤ 64 * d; omega⟩
theorem zf_H_assign {d d' : Nat} (h : d' < d) : zFit y_H_assign c_H_assign 5 none (rm d') (rm d) 1 := ⟨wc_H_assign, wn_H, ⟨by decide, by decide⟩, by decide +kernel, h, by show 8 + (5 + 11) + 64 * d' ≤ 64 * d; omega⟩
theorem zf_H_raise {d d' : Nat} (h : d' < d) : zFit y_H_raise c_H_raise 6 none (rm d') (rm d) 2 := ⟨wc_H_raise, wn_H, ⟨by decide, by decide⟩, by decide +kernel, h, by show 8 + (6 + 11) + 64 * d' ≤ 64 * d; omega⟩
theorem zf_D_power {d d' : Nat} (h : d' < d) : zFit y_D_power c_D_power 5 (some .long) (rm d') (rm d) 2 := ⟨wc_D_power, wn_D, ⟨by decide, by decide⟩, by decide +kernel, h, by show 8 + (5 + 11) + 64 * d' ≤ 64 * d; omega⟩
theorem zf_H_increase {d d' : Nat} (h : d' < d) : zFit y_H_increase c_H_increase 6 none (rm d') (rm d) 1 := ⟨wc_H_increase, wn_H, ⟨by decide, by decide⟩, by decide +kernel, h, by show 8 + (6 + 11) + 64 * d' ≤ 64 * d; omega⟩
theorem zf_H_limbAt {d d' : Nat} (h : d' < d) : zFit y_H_limbAt c_H_limbAt 2 (some .int) (rm d') (rm d) 1 := ⟨wc_H_limbAt, wn_H, ⟨by decide, by decide⟩, by decide +kernel, h, by show 8 + (2 + 11) + 64 * d' ≤ 64 * d; omega⟩
theorem zf_D_makeConstant {d d' : Nat} (h : d' < d) : zFit y_D_makeConstant c_D_makeConstant 9 none (rm d') (rm d) 3 := ⟨wc_D_makeConstant, wn_D, ⟨by decide, by decide⟩, by decide +kernel, h, by show 8 + (9 + 11) + 64 * d' ≤ 64 * d; omega⟩
theorem zf_S_reach {d d' : Nat} (h : d' < d) : zFit y_S_reach c_S_reach 4 (some .int) (rm d') (rm d) 2 := ⟨wc_S_reach, wn_S, ⟨by decide, by decide⟩, by decide +kernel, h, by show 8 + (4 + 11) + 64 * d' ≤ 64 * d; omega⟩
theorem zf_JA_fillJ {d d' : Nat} (h : d' < d) : zFit y_JA_fillJ c_JA_fillJ 5 none (rm d') (rm d) 2 := ⟨wc_JA_fillJ, wn_JA, ⟨by decide, by decide⟩, by decide +kernel, h, by show 8 + (5 + 11) + 64 * d' ≤ 64 * d; omega⟩
theorem zf_S_sumUp {d d' : Nat} (h : d' < d) : zFit y_S_sumUp c_S_sumUp 2 none (rm d') (rm d) 1 := ⟨wc_S_sumUp, wn_S, ⟨by decide, by decide⟩, by decide +kernel, h, by show 8 + (2 + 11) + 64 * d' ≤ 64 * d; omega⟩
theorem zf_S_sumPi {d d' : Nat} (h : d' < d) : zFit y_S_sumPi c_S_sumPi 1 none (rm d') (rm d) 0 := ⟨wc_S_sumPi, wn_S, ⟨by decide, by decide⟩, by decide +kernel, h, by show 8 + (1 + 11) + 64 * d' ≤ 64 * d; omega⟩
theorem zf_S_foldArctan {d d' : Nat} (h : d' < d) : zFit y_S_foldArctan c_S_foldArctan 4 none (rm d') (rm d) 2 := ⟨wc_S_foldArctan, wn_S, ⟨by decide, by decide⟩, by decide +kernel, h, by show 8 + (4 + 11) + 64 * d' ≤ 64 * d; omega⟩
theorem zf_S_begin {d d' : Nat} (h : d' < d) : zFit y_S_begin c_S_begin 1 none (rm d') (rm d) 0 := ⟨wc_S_begin, wn_S, ⟨by decide, by decide⟩, by decide +kernel, h, by show 8 + (1 + 11) + 64 * d' ≤ 64 * d; omega⟩
theorem zf_S_bitsNeeded {d d' : Nat} (h : d' < d) : zFit y_S_bitsNeeded c_S_bitsNeeded 1 (some .int) (rm d') (rm d) 0 := ⟨wc_S_bitsNeeded, wn_S, ⟨by decide, by decide⟩, by decide +kernel, h, by show 8 + (1 + 11) + 64 * d' ≤ 64 * d; omega⟩
theorem zf_S_lowest {d d' : Nat} (h : d' < d) : zFit y_S_lowest c_S_lowest 2 (some .int) (rm d') (rm d) 1 := ⟨wc_S_lowest, wn_S, ⟨by decide, by decide⟩, by decide +kernel, h, by show 8 + (2 + 11) + 64 * d' ≤ 64 * d; omega⟩
theorem zf_S_fold {d d' : Nat} (h : d' < d) : zFit y_S_fold c_S_fold 11 none (rm d') (rm d) 3 := ⟨wc_S_fold, wn_S, ⟨by decide, by decide⟩, by decide +kernel, h, by show 8 + (11 + 11) + 64 * d' ≤ 64 * d; omega⟩
theorem zf_S_gather {d d' : Nat} (h : d' < d) : zFit y_S_gather c_S_gather 2 none (rm d') (rm d) 0 := ⟨wc_S_gather, wn_S, ⟨by decide, by decide⟩, by decide +kernel, h, by show 8 + (2 + 11) + 64 * d' ≤ 64 * d; omega⟩
theorem zf_S_sumE {d d' : Nat} (h : d' < d) : zFit y_S_sumE c_S_sumE 4 none (rm d') (rm d) 0 := ⟨wc_S_sumE, wn_S, ⟨by decide, by decide⟩, by decide +kernel, h, by show 8 + (4 + 11) + 64 * d' ≤ 64 * d; omega⟩
theorem zf_S_sumLogTwo {d d' : Nat} (h : d' < d) : zFit y_S_sumLogTwo c_S_sumLogTwo 2 none (rm d') (rm d) 0 := ⟨wc_S_sumLogTwo, wn_S, ⟨by decide, by decide⟩, by decide +kernel, h, by show 8 + (2 + 11) + 64 * d' ≤ 64 * d; omega⟩
theorem zf_S_sumCubes {d d' : Nat} (h : d' < d) : zFit y_S_sumCubes c_S_sumCubes 4 none (rm d') (rm d) 0 := ⟨wc_S_sumCubes, wn_S, ⟨by decide, by decide⟩, by decide +kernel, h, by show 8 + (4 + 11) + 64 * d' ≤ 64 * d; omega⟩
theorem zf_S_settle {d d' : Nat} (h : d' < d) : zFit y_S_settle c_S_settle 6 none (rm d') (rm d) 1 := ⟨wc_S_settle, wn_S, ⟨by decide, by decide⟩, by decide +kernel, h, by show 8 + (6 + 11) + 64 * d' ≤ 64 * d; omega⟩
theorem zf_S_row {d d' : Nat} (h : d' < d) : zFit y_S_row c_S_row 2 (some (.array .int)) (rm d') (rm d) 1 := ⟨wc_S_row, wn_S, ⟨by decide, by decide⟩, by decide +kernel, h, by show 8 + (2 + 11) + 64 * d' ≤ 64 * d; omega⟩
theorem zf_H_absorbsCarry {d d' : Nat} (h : d' < d) : zFit y_H_absorbsCarry c_H_absorbsCarry 4 (some .boolean) (rm d') (rm d) 2 := ⟨wc_H_absorbsCarry, wn_H, ⟨by decide, by decide⟩, by decide +kernel, h, by show 8 + (4 + 11) + 64 * d' ≤ 64 * d; omega⟩
theorem zf_D_root {d d' : Nat} (h : d' < d) : zFit y_D_root c_D_root 5 (some .int) (rm d') (rm d) 3 := ⟨wc_D_root, wn_D, ⟨by decide, by decide⟩, by decide +kernel, h, by show 8 + (5 + 11) + 64 * d' ≤ 64 * d; omega⟩
theorem zf_D_over {d d' : Nat} (h : d' < d) : zFit y_D_over c_D_over 7 (some .int) (rm d') (rm d) 4 := ⟨wc_D_over, wn_D, ⟨by decide, by decide⟩, by decide +kernel, h, by show 8 + (7 + 11) + 64 * d' ≤ 64 * d; omega⟩
theorem zf_B_makeQuotient {d d' : Nat} (h : d' < d) : zFit y_B_makeQuotient c_B_makeQuotient 4 none (rm d') (rm d) 0 := ⟨wc_B_makeQuotient, wn_B, ⟨by decide, by decide⟩, by decide +kernel, h, by show 8 + (4 + 11) + 64 * d' ≤ 64 * d; omega⟩
theorem zf_H_openTop {d d' : Nat} (h : d' < d) : zFit y_H_openTop c_H_openTop 1 none (rm d') (rm d) 0 := ⟨wc_H_openTop, wn_H, ⟨by decide, by decide⟩, by decide +kernel, h, by show 8 + (1 + 11) + 64 * d' ≤ 64 * d; omega⟩
theorem zf_B_quotientLimb {d d' : Nat} (h : d' < d) : zFit y_B_quotientLimb c_B_quotientLimb 9 (some .int) (rm d') (rm d) 1 := ⟨wc_B_quotientLimb, wn_B, ⟨by decide, by decide⟩, by decide +kernel, h, by show 8 + (9 + 11) + 64 * d' ≤ 64 * d; omega⟩
theorem zf_D_number {d d' : Nat} (h : d' < d) : zFit y_D_number c_D_number 4 (some .int) (rm d') (rm d) 2 := ⟨wc_D_number, wn_D, ⟨by decide, by decide⟩, by decide +kernel, h, by show 8 + (4 + 11) + 64 * d' ≤ 64 * d; omega⟩
theorem zf_D_push {d d' : Nat} (h : d' < d) : zFit y_D_push c_D_push 3 (some .int) (rm d') (rm d) 1 := ⟨wc_D_push, wn_D, ⟨by decide, by decide⟩, by decide +kernel, h, by show 8 + (3 + 11) + 64 * d' ≤ 64 * d; omega⟩
theorem zf_D_refuseTooLong {d d' : Nat} (h : d' < d) : zFit y_D_refuseTooLong c_D_refuseTooLong 1 none (rm d') (rm d) 1 := ⟨wc_D_refuseTooLong, wn_D, ⟨by decide, by decide⟩, by decide +kernel, h, by show 8 + (1 + 11) + 64 * d' ≤ 64 * d; omega⟩
theorem zf_T_shiftIn {d d' : Nat} (h : d' < d) : zFit y_T_shiftIn c_T_shiftIn 9 none (rm d') (rm d) 1 := ⟨wc_T_shiftIn, wn_T, ⟨by decide, by decide⟩, by decide +kernel, h, by show 8 + (9 + 11) + 64 * d' ≤ 64 * d; omega⟩
theorem zf_D_add {d d' : Nat} (h : d' < d) : zFit y_D_add c_D_add 2 (some .int) (rm d') (rm d) 0 := ⟨wc_D_add, wn_D, ⟨by decide, by decide⟩, by decide +kernel, h, by show 8 + (2 + 11) + 64 * d' ≤ 64 * d; omega⟩
theorem zf_D_subtract {d d' : Nat} (h : d' < d) : zFit y_D_subtract c_D_subtract 2 (some .int) (rm d') (rm d) 0 := ⟨wc_D_subtract, wn_D, ⟨by decide, by decide⟩, by decide +kernel, h, by show 8 + (2 + 11) + 64 * d' ≤ 64 * d; omega⟩
theorem zf_H_decrease {d d' : Nat} (h : d' < d) : zFit y_H_decrease c_H_decrease 5 none (rm d') (rm d) 1 := ⟨wc_H_decrease, wn_H, ⟨by decide, by decide⟩, by decide +kernel, h, by show 8 + (5 + 11) + 64 * d' ≤ 64 * d; omega⟩
theorem zf_D_times {d d' : Nat} (h : d' < d) : zFit y_D_times c_D_times 2 (some .int) (rm d') (rm d) 0 := ⟨wc_D_times, wn_D, ⟨by decide, by decide⟩, by decide +kernel, h, by show 8 + (2 + 11) + 64 * d' ≤ 64 * d; omega⟩
theorem zf_H_multiply {d d' : Nat} (h : d' < d) : zFit y_H_multiply c_H_multiply 9 none (rm d') (rm d) 2 := ⟨wc_H_multiply, wn_H, ⟨by decide, by decide⟩, by decide +kernel, h, by show 8 + (9 + 11) + 64 * d' ≤ 64 * d; omega⟩
theorem zf_D_divide {d d' : Nat} (h : d' < d) : zFit y_D_divide c_D_divide 1 (some .int) (rm d') (rm d) 0 := ⟨wc_D_divide, wn_D, ⟨by decide, by decide⟩, by decide +kernel, h, by show 8 + (1 + 11) + 64 * d' ≤ 64 * d; omega⟩
theorem zf_D_convert {d d' : Nat} (h : d' < d) : zFit y_D_convert c_D_convert 2 (some .int) (rm d') (rm d) 1 := ⟨wc_D_convert, wn_D, ⟨by decide, by decide⟩, by decide +kernel, h, by show 8 + (2 + 11) + 64 * d' ≤ 64 * d; omega⟩
theorem zf_D_digit {d d' : Nat} (h : d' < d) : zFit y_D_digit c_D_digit 2 (some .int) (rm d') (rm d) 1 := ⟨wc_D_digit, wn_D, ⟨by decide, by decide⟩, by decide +kernel, h, by show 8 + (2 + 11) + 64 * d' ≤ 64 * d; omega⟩
theorem zf_T_digitAt {d d' : Nat} (h : d' < d) : zFit y_T_digitAt c_T_digitAt 4 (some .int) (rm d') (rm d) 1 := ⟨wc_T_digitAt, wn_T, ⟨by decide, by decide⟩, by decide +kernel, h, by show 8 + (4 + 11) + 64 * d' ≤ 64 * d; omega⟩
theorem zf_D_about {d d' : Nat} (h : d' < d) : zFit y_D_about c_D_about 2 (some .int) (rm d') (rm d) 1 := ⟨wc_D_about, wn_D, ⟨by decide, by decide⟩, by decide +kernel, h, by show 8 + (2 + 11) + 64 * d' ≤ 64 * d; omega⟩
theorem zf_D_digitSum {d d' : Nat} (h : d' < d) : zFit y_D_digitSum c_D_digitSum 1 (some .int) (rm d') (rm d) 0 := ⟨wc_D_digitSum, wn_D, ⟨by decide, by decide⟩, by decide +kernel, h, by show 8 + (1 + 11) + 64 * d' ≤ 64 * d; omega⟩
theorem zf_T_sumOfDigits {d d' : Nat} (h : d' < d) : zFit y_T_sumOfDigits c_T_sumOfDigits 4 (some .int) (rm d') (rm d) 0 := ⟨wc_T_sumOfDigits, wn_T, ⟨by decide, by decide⟩, by decide +kernel, h, by show 8 + (4 + 11) + 64 * d' ≤ 64 * d; omega⟩
theorem zf_D_count {d d' : Nat} (h : d' < d) : zFit y_D_count c_D_count 6 (some .int) (rm d') (rm d) 3 := ⟨wc_D_count, wn_D, ⟨by decide, by decide⟩, by decide +kernel, h, by show 8 + (6 + 11) + 64 * d' ≤ 64 * d; omega⟩
theorem zf_D_find {d d' : Nat} (h : d' < d) : zFit y_D_find c_D_find 12 (some .int) (rm d') (rm d) 3 := ⟨wc_D_find, wn_D, ⟨by decide, by decide⟩, by decide +kernel, h, by show 8 + (12 + 11) + 64 * d' ≤ 64 * d; omega⟩
theorem zf_M_init {d d' : Nat} (h : d' < d) : zFit y_M_init c_M_init 1 none (rm d') (rm d) 0 := ⟨wc_M_init, wn_M, ⟨by decide, by decide⟩, by decide +kernel, h, by show 8 + (1 + 11) + 64 * d' ≤ 64 * d; omega⟩
theorem zf_M_thrown {d d' : Nat} (h : d' < d) : zFit y_M_thrown c_M_thrown 1 (some .int) (rm d') (rm d) 0 := ⟨wc_M_thrown, wn_M, ⟨by decide, by decide⟩, by decide +kernel, h, by show 8 + (1 + 11) + 64 * d' ≤ 64 * d; omega⟩
theorem zf_M_mill {d d' : Nat} (h : d' < d) : zFit y_M_mill c_M_mill 4 (some .int) (rm d') (rm d) 3 := ⟨wc_M_mill, wn_M, ⟨by decide, by decide⟩, by decide +kernel, h, by show 8 + (4 + 11) + 64 * d' ≤ 64 * d; omega⟩
theorem zf_M_isWrong {d d' : Nat} (h : d' < d) : zFit y_M_isWrong c_M_isWrong 4 (some .boolean) (rm d') (rm d) 3 := ⟨wc_M_isWrong, wn_M, ⟨by decide, by decide⟩, by decide +kernel, h, by show 8 + (4 + 11) + 64 * d' ≤ 64 * d; omega⟩
theorem zf_M_isBase {d d' : Nat} (h : d' < d) : zFit y_M_isBase c_M_isBase 1 (some .boolean) (rm d') (rm d) 1 := ⟨wc_M_isBase, wn_M, ⟨by decide, by decide⟩, by decide +kernel, h, by show 8 + (1 + 11) + 64 * d' ≤ 64 * d; omega⟩
theorem zf_M_fails {d d' : Nat} (h : d' < d) : zFit y_M_fails c_M_fails 3 (some .boolean) (rm d') (rm d) 2 := ⟨wc_M_fails, wn_M, ⟨by decide, by decide⟩, by decide +kernel, h, by show 8 + (3 + 11) + 64 * d' ≤ 64 * d; omega⟩
theorem zf_M_log {d d' : Nat} (h : d' < d) : zFit y_M_log c_M_log 2 (some .int) (rm d') (rm d) 1 := ⟨wc_M_log, wn_M, ⟨by decide, by decide⟩, by decide +kernel, h, by show 8 + (2 + 11) + 64 * d' ≤ 64 * d; omega⟩
theorem zf_M_golden {d d' : Nat} (h : d' < d) : zFit y_M_golden c_M_golden 3 none (rm d') (rm d) 2 := ⟨wc_M_golden, wn_M, ⟨by decide, by decide⟩, by decide +kernel, h, by show 8 + (3 + 11) + 64 * d' ≤ 64 * d; omega⟩
theorem zf_M_power {d d' : Nat} (h : d' < d) : zFit y_M_power c_M_power 5 none (rm d') (rm d) 3 := ⟨wc_M_power, wn_M, ⟨by decide, by decide⟩, by decide +kernel, h, by show 8 + (5 + 11) + 64 * d' ≤ 64 * d; omega⟩
theorem zf_M_set {d d' : Nat} (h : d' < d) : zFit y_M_set c_M_set 6 none (rm d') (rm d) 2 := ⟨wc_M_set, wn_M, ⟨by decide, by decide⟩, by decide +kernel, h, by show 8 + (6 + 11) + 64 * d' ≤ 64 * d; omega⟩
theorem zf_M_grow {d d' : Nat} (h : d' < d) : zFit y_M_grow c_M_grow 9 none (rm d') (rm d) 3 := ⟨wc_M_grow, wn_M, ⟨by decide, by decide⟩, by decide +kernel, h, by show 8 + (9 + 11) + 64 * d' ≤ 64 * d; omega⟩
theorem zf_M_at {d d' : Nat} (h : d' < d) : zFit y_M_at c_M_at 3 (some .int) (rm d') (rm d) 2 := ⟨wc_M_at, wn_M, ⟨by decide, by decide⟩, by decide +kernel, h, by show 8 + (3 + 11) + 64 * d' ≤ 64 * d; omega⟩
theorem zf_M_trim {d d' : Nat} (h : d' < d) : zFit y_M_trim c_M_trim 2 none (rm d') (rm d) 1 := ⟨wc_M_trim, wn_M, ⟨by decide, by decide⟩, by decide +kernel, h, by show 8 + (2 + 11) + 64 * d' ≤ 64 * d; omega⟩
theorem zf_M_rootOf {d d' : Nat} (h : d' < d) : zFit y_M_rootOf c_M_rootOf 8 none (rm d') (rm d) 2 := ⟨wc_M_rootOf, wn_M, ⟨by decide, by decide⟩, by decide +kernel, h, by show 8 + (8 + 11) + 64 * d' ≤ 64 * d; omega⟩
theorem zf_M_shift {d d' : Nat} (h : d' < d) : zFit y_M_shift c_M_shift 6 none (rm d') (rm d) 2 := ⟨wc_M_shift, wn_M, ⟨by decide, by decide⟩, by decide +kernel, h, by show 8 + (6 + 11) + 64 * d' ≤ 64 * d; omega⟩
theorem zf_M_copy {d d' : Nat} (h : d' < d) : zFit y_M_copy c_M_copy 4 none (rm d') (rm d) 2 := ⟨wc_M_copy, wn_M, ⟨by decide, by decide⟩, by decide +kernel, h, by show 8 + (4 + 11) + 64 * d' ≤ 64 * d; omega⟩
theorem zf_M_leading {d d' : Nat} (h : d' < d) : zFit y_M_leading c_M_leading 3 (some .long) (rm d') (rm d) 2 := ⟨wc_M_leading, wn_M, ⟨by decide, by decide⟩, by decide +kernel, h, by show 8 + (3 + 11) + 64 * d' ≤ 64 * d; omega⟩
theorem zf_M_greatest {d d' : Nat} (h : d' < d) : zFit y_M_greatest c_M_greatest 11 (some .long) (rm d') (rm d) 2 := ⟨wc_M_greatest, wn_M, ⟨by decide, by decide⟩, by decide +kernel, h, by show 8 + (11 + 11) + 64 * d' ≤ 64 * d; omega⟩
theorem zf_M_order {d d' : Nat} (h : d' < d) : zFit y_M_order c_M_order 4 (some .int) (rm d') (rm d) 2 := ⟨wc_M_order, wn_M, ⟨by decide, by decide⟩, by decide +kernel, h, by show 8 + (4 + 11) + 64 * d' ≤ 64 * d; omega⟩
theorem zf_M_lessTimes {d d' : Nat} (h : d' < d) : zFit y_M_lessTimes c_M_lessTimes 8 none (rm d') (rm d) 3 := ⟨wc_M_lessTimes, wn_M, ⟨by decide, by decide⟩, by decide +kernel, h, by show 8 + (8 + 11) + 64 * d' ≤ 64 * d; omega⟩
theorem zf_M_addTimes {d d' : Nat} (h : d' < d) : zFit y_M_addTimes c_M_addTimes 8 none (rm d') (rm d) 3 := ⟨wc_M_addTimes, wn_M, ⟨by decide, by decide⟩, by decide +kernel, h, by show 8 + (8 + 11) + 64 * d' ≤ 64 * d; omega⟩
theorem zf_M_lower {d d' : Nat} (h : d' < d) : zFit y_M_lower c_M_lower 7 none (rm d') (rm d) 2 := ⟨wc_M_lower, wn_M, ⟨by decide, by decide⟩, by decide +kernel, h, by show 8 + (7 + 11) + 64 * d' ≤ 64 * d; omega⟩
theorem zf_M_constant {d d' : Nat} (h : d' < d) : zFit y_M_constant c_M_constant 9 none (rm d') (rm d) 3 := ⟨wc_M_constant, wn_M, ⟨by decide, by decide⟩, by decide +kernel, h, by show 8 + (9 + 11) + 64 * d' ≤ 64 * d; omega⟩
theorem zf_M_arcs {d d' : Nat} (h : d' < d) : zFit y_M_arcs c_M_arcs 2 (some .int) (rm d') (rm d) 0 := ⟨wc_M_arcs, wn_M, ⟨by decide, by decide⟩, by decide +kernel, h, by show 8 + (2 + 11) + 64 * d' ≤ 64 * d; omega⟩
theorem zf_M_arc {d d' : Nat} (h : d' < d) : zFit y_M_arc c_M_arc 7 (some .int) (rm d') (rm d) 3 := ⟨wc_M_arc, wn_M, ⟨by decide, by decide⟩, by decide +kernel, h, by show 8 + (7 + 11) + 64 * d' ≤ 64 * d; omega⟩
theorem zf_M_factorials {d d' : Nat} (h : d' < d) : zFit y_M_factorials c_M_factorials 2 (some .int) (rm d') (rm d) 0 := ⟨wc_M_factorials, wn_M, ⟨by decide, by decide⟩, by decide +kernel, h, by show 8 + (2 + 11) + 64 * d' ≤ 64 * d; omega⟩
theorem zf_M_halves {d d' : Nat} (h : d' < d) : zFit y_M_halves c_M_halves 2 (some .int) (rm d') (rm d) 0 := ⟨wc_M_halves, wn_M, ⟨by decide, by decide⟩, by decide +kernel, h, by show 8 + (2 + 11) + 64 * d' ≤ 64 * d; omega⟩
theorem zf_M_cubes {d d' : Nat} (h : d' < d) : zFit y_M_cubes c_M_cubes 2 (some .int) (rm d') (rm d) 0 := ⟨wc_M_cubes, wn_M, ⟨by decide, by decide⟩, by decide +kernel, h, by show 8 + (2 + 11) + 64 * d' ≤ 64 * d; omega⟩
theorem zf_M_told {d d' : Nat} (h : d' < d) : zFit y_M_told c_M_told 2 (some .int) (rm d') (rm d) 1 := ⟨wc_M_told, wn_M, ⟨by decide, by decide⟩, by decide +kernel, h, by show 8 + (2 + 11) + 64 * d' ≤ 64 * d; omega⟩
theorem zf_M_howMany {d d' : Nat} (h : d' < d) : zFit y_M_howMany c_M_howMany 1 (some .int) (rm d') (rm d) 0 := ⟨wc_M_howMany, wn_M, ⟨by decide, by decide⟩, by decide +kernel, h, by show 8 + (1 + 11) + 64 * d' ≤ 64 * d; omega⟩
theorem zf_M_tell {d d' : Nat} (h : d' < d) : zFit y_M_tell c_M_tell 5 none (rm d') (rm d) 0 := ⟨wc_M_tell, wn_M, ⟨by decide, by decide⟩, by decide +kernel, h, by show 8 + (5 + 11) + 64 * d' ≤ 64 * d; omega⟩
theorem zf_M_root {d d' : Nat} (h : d' < d) : zFit y_M_root c_M_root 5 (some .int) (rm d') (rm d) 3 := ⟨wc_M_root, wn_M, ⟨by decide, by decide⟩, by decide +kernel, h, by show 8 + (5 + 11) + 64 * d' ≤ 64 * d; omega⟩
theorem zf_M_product {d d' : Nat} (h : d' < d) : zFit y_M_product c_M_product 5 none (rm d') (rm d) 3 := ⟨wc_M_product, wn_M, ⟨by decide, by decide⟩, by decide +kernel, h, by show 8 + (5 + 11) + 64 * d' ≤ 64 * d; omega⟩
theorem zf_M_over {d d' : Nat} (h : d' < d) : zFit y_M_over c_M_over 7 (some .int) (rm d') (rm d) 4 := ⟨wc_M_over, wn_M, ⟨by decide, by decide⟩, by decide +kernel, h, by show 8 + (7 + 11) + 64 * d' ≤ 64 * d; omega⟩
theorem zf_M_quotient {d d' : Nat} (h : d' < d) : zFit y_M_quotient c_M_quotient 10 none (rm d') (rm d) 3 := ⟨wc_M_quotient, wn_M, ⟨by decide, by decide⟩, by decide +kernel, h, by show 8 + (10 + 11) + 64 * d' ≤ 64 * d; omega⟩
theorem zf_M_number {d d' : Nat} (h : d' < d) : zFit y_M_number c_M_number 4 (some .int) (rm d') (rm d) 2 := ⟨wc_M_number, wn_M, ⟨by decide, by decide⟩, by decide +kernel, h, by show 8 + (4 + 11) + 64 * d' ≤ 64 * d; omega⟩
theorem zf_M_push {d d' : Nat} (h : d' < d) : zFit y_M_push c_M_push 2 (some .int) (rm d') (rm d) 1 := ⟨wc_M_push, wn_M, ⟨by decide, by decide⟩, by decide +kernel, h, by show 8 + (2 + 11) + 64 * d' ≤ 64 * d; omega⟩
theorem zf_M_become {d d' : Nat} (h : d' < d) : zFit y_M_become c_M_become 3 (some .int) (rm d') (rm d) 2 := ⟨wc_M_become, wn_M, ⟨by decide, by decide⟩, by decide +kernel, h, by show 8 + (3 + 11) + 64 * d' ≤ 64 * d; omega⟩
theorem zf_M_length {d d' : Nat} (h : d' < d) : zFit y_M_length c_M_length 3 (some .int) (rm d') (rm d) 1 := ⟨wc_M_length, wn_M, ⟨by decide, by decide⟩, by decide +kernel, h, by show 8 + (3 + 11) + 64 * d' ≤ 64 * d; omega⟩
theorem zf_M_keep {d d' : Nat} (h : d' < d) : zFit y_M_keep c_M_keep 1 none (rm d') (rm d) 0 := ⟨wc_M_keep, wn_M, ⟨by decide, by decide⟩, by decide +kernel, h, by show 8 + (1 + 11) + 64 * d' ≤ 64 * d; omega⟩
theorem zf_M_swap {d d' : Nat} (h : d' < d) : zFit y_M_swap c_M_swap 2 (some .int) (rm d') (rm d) 0 := ⟨wc_M_swap, wn_M, ⟨by decide, by decide⟩, by decide +kernel, h, by show 8 + (2 + 11) + 64 * d' ≤ 64 * d; omega⟩
theorem zf_M_add {d d' : Nat} (h : d' < d) : zFit y_M_add c_M_add 1 (some .int) (rm d') (rm d) 0 := ⟨wc_M_add, wn_M, ⟨by decide, by decide⟩, by decide +kernel, h, by show 8 + (1 + 11) + 64 * d' ≤ 64 * d; omega⟩
theorem zf_M_subtract {d d' : Nat} (h : d' < d) : zFit y_M_subtract c_M_subtract 1 (some .int) (rm d') (rm d) 0 := ⟨wc_M_subtract, wn_M, ⟨by decide, by decide⟩, by decide +kernel, h, by show 8 + (1 + 11) + 64 * d' ≤ 64 * d; omega⟩
theorem zf_M_times {d d' : Nat} (h : d' < d) : zFit y_M_times c_M_times 1 (some .int) (rm d') (rm d) 0 := ⟨wc_M_times, wn_M, ⟨by decide, by decide⟩, by decide +kernel, h, by show 8 + (1 + 11) + 64 * d' ≤ 64 * d; omega⟩
theorem zf_M_divide {d d' : Nat} (h : d' < d) : zFit y_M_divide c_M_divide 1 (some .int) (rm d') (rm d) 0 := ⟨wc_M_divide, wn_M, ⟨by decide, by decide⟩, by decide +kernel, h, by show 8 + (1 + 11) + 64 * d' ≤ 64 * d; omega⟩
theorem zf_M_rooted {d d' : Nat} (h : d' < d) : zFit y_M_rooted c_M_rooted 1 (some .int) (rm d') (rm d) 0 := ⟨wc_M_rooted, wn_M, ⟨by decide, by decide⟩, by decide +kernel, h, by show 8 + (1 + 11) + 64 * d' ≤ 64 * d; omega⟩
theorem zf_M_convert {d d' : Nat} (h : d' < d) : zFit y_M_convert c_M_convert 2 (some .int) (rm d') (rm d) 1 := ⟨wc_M_convert, wn_M, ⟨by decide, by decide⟩, by decide +kernel, h, by show 8 + (2 + 11) + 64 * d' ≤ 64 * d; omega⟩
theorem zf_M_digit {d d' : Nat} (h : d' < d) : zFit y_M_digit c_M_digit 2 (some .int) (rm d') (rm d) 1 := ⟨wc_M_digit, wn_M, ⟨by decide, by decide⟩, by decide +kernel, h, by show 8 + (2 + 11) + 64 * d' ≤ 64 * d; omega⟩
theorem zf_M_about {d d' : Nat} (h : d' < d) : zFit y_M_about c_M_about 4 (some .int) (rm d') (rm d) 1 := ⟨wc_M_about, wn_M, ⟨by decide, by decide⟩, by decide +kernel, h, by show 8 + (4 + 11) + 64 * d' ≤ 64 * d; omega⟩
theorem zf_M_count {d d' : Nat} (h : d' < d) : zFit y_M_count c_M_count 6 (some .int) (rm d') (rm d) 3 := ⟨wc_M_count, wn_M, ⟨by decide, by decide⟩, by decide +kernel, h, by show 8 + (6 + 11) + 64 * d' ≤ 64 * d; omega⟩
theorem zf_M_find {d d' : Nat} (h : d' < d) : zFit y_M_find c_M_find 11 (some .int) (rm d') (rm d) 3 := ⟨wc_M_find, wn_M, ⟨by decide, by decide⟩, by decide +kernel, h, by show 8 + (11 + 11) + 64 * d' ≤ 64 * d; omega⟩
theorem zf_M_compare {d d' : Nat} (h : d' < d) : zFit y_M_compare c_M_compare 1 (some .int) (rm d') (rm d) 0 := ⟨wc_M_compare, wn_M, ⟨by decide, by decide⟩, by decide +kernel, h, by show 8 + (1 + 11) + 64 * d' ≤ 64 * d; omega⟩
end
section
/-! NUMBERS: ints and longs by whole numbers; limbs and their value -/
def lI (z : Int) : Int64 := Int64.ofInt z
def iI (z : Int) : Int32 := Int32.ofInt z
theorem lI_add (a b : Int) : lI a + lI b = lI (a + b) := (Int64.ofInt_add a b).symm
theorem lI_sub (a b : Int) : lI a - lI b = lI (a - b) := (Int64.ofInt_sub a b).symm
theorem lI_mul (a b : Int) : lI a * lI b = lI (a * b) := (Int64.ofInt_mul a b).symm
theorem iI_add (a b : Int) : iI a + iI b = iI (a + b) := (Int32.ofInt_add a b).symm
theorem iI_sub (a b : Int) : iI a - iI b = iI (a - b) := (Int32.ofInt_sub a b).symm
theorem iI_mul (a b : Int) : iI a * iI b = iI (a * b) := (Int32.ofInt_mul a b).symm
theorem lI_b (z : Int) : (lI z).toInt = z.bmod (2 ^ 64) := Int64.toInt_ofInt
theorem iI_b (z : Int) : (iI z).toInt = z.bmod (2 ^ 32) := Int32.toInt_ofInt
theorem lI_t {z : Int} (h1 : -2 ^ 63 ≤ z) (h2 : z < 2 ^ 63) : (lI z).toInt = z := by rw [lI_b, Jvm.Kit.bmod64 h1 h2]
theorem iI_t {z : Int} (h1 : -2 ^ 31 ≤ z) (h2 : z < 2 ^ 31) : (iI z).toInt = z := by rw [iI_b, Jvm.Kit.bmod32 h1 h2]
theorem lI_self (x : Int64) : lI x.toInt = x := Int64.ofInt_toInt x
theorem iI_self (x : Int32) : iI x.toInt = x := Int32.ofInt_toInt x
theorem nI_iI (n : Nat) : nI n = iI n := Int32.ofInt_eq_ofNat.symm
theorem lN_lI (n : Nat) : lN n = lI n := Int64.ofInt_eq_ofNat.symm
theorem bm_q (z : Int) (M : Nat) : ∃ q : Int, z.bmod M = z + M * q := by
  have h := Int.mul_ediv_add_emod z M
  by_cases h1 : z % M < (M + 1) / 2
  · exact ⟨-(z / M), by rw [Int.bmod_def, if_pos h1, Int.mul_neg]; omega⟩
  · exact ⟨-(z / M) - 1, by rw [Int.bmod_def, if_neg h1, Int.mul_sub, Int.mul_neg, Int.mul_one]; omega⟩
theorem lI_and30 (z : Int) : lI z &&& 1073741823 = lI (z % 1073741824) := by
  apply Int64.toInt_inj.mp
  rw [Jvm.Kit.i64_mask (k := 30) _ _ (by decide) (by decide), lI_b, lI_t (by omega) (by omega)]
  obtain ⟨q, hq⟩ := bm_q z (2 ^ 64)
  rw [hq]
  omega
theorem lI_and15 (z : Int) : lI z &&& 32767 = lI (z % 32768) := by
  apply Int64.toInt_inj.mp
  rw [Jvm.Kit.i64_mask (k := 15) _ _ (by decide) (by decide), lI_b, lI_t (by omega) (by omega)]
  obtain ⟨q, hq⟩ := bm_q z (2 ^ 64)
  rw [hq]
  omega
theorem iI_and30 (z : Int) : iI z &&& 1073741823 = iI (z % 1073741824) := by
  apply Int32.toInt_inj.mp
  rw [Jvm.Kit.i32_mask (k := 30) _ _ (by decide) (by decide), iI_b, iI_t (by omega) (by omega)]
  obtain ⟨q, hq⟩ := bm_q z (2 ^ 32)
  rw [hq]
  omega
theorem lI_shr30 {z : Int} (h1 : -2 ^ 63 ≤ z) (h2 : z < 2 ^ 63) : lI z >>> ((30 : Int32).toInt64 &&& 63) = lI (z / 1073741824) := by
  apply Int64.toInt_inj.mp
  rw [Jvm.Kit.i64_shr (k := 30) _ _ (by decide), lI_t h1 h2, lI_t (by omega) (by omega)]
  rfl
theorem lI_shr15 {z : Int} (h1 : -2 ^ 63 ≤ z) (h2 : z < 2 ^ 63) : lI z >>> ((15 : Int32).toInt64 &&& 63) = lI (z / 32768) := by
  apply Int64.toInt_inj.mp
  rw [Jvm.Kit.i64_shr (k := 15) _ _ (by decide), lI_t h1 h2, lI_t (by omega) (by omega)]
  rfl
theorem iI_shr30 {z : Int} (h1 : -2 ^ 31 ≤ z) (h2 : z < 2 ^ 31) : iI z >>> ((30 : Int32) &&& 31) = iI (z / 1073741824) := by
  apply Int32.toInt_inj.mp
  rw [Jvm.Kit.i32_shr (k := 30) _ _ (by decide), iI_t h1 h2, iI_t (by omega) (by omega)]
  rfl
theorem lI_shl30 {z : Int} (h1 : -2 ^ 33 ≤ z) (h2 : z < 2 ^ 33) : lI z <<< ((30 : Int32).toInt64 &&& 63) = lI (z * 1073741824) := by
  apply Int64.toInt_inj.mp
  rw [Jvm.Kit.i64_shl (k := 30) _ _ (by decide) (by rw [lI_t (by omega) (by omega)]; omega) (by rw [lI_t (by omega) (by omega)]; omega), lI_t (by omega) (by omega), lI_t (by omega) (by omega)]
  rfl
theorem lI_shl15 {z : Int} (h1 : -2 ^ 48 ≤ z) (h2 : z < 2 ^ 48) : lI z <<< ((15 : Int32).toInt64 &&& 63) = lI (z * 32768) := by
  apply Int64.toInt_inj.mp
  rw [Jvm.Kit.i64_shl (k := 15) _ _ (by decide) (by rw [lI_t (by omega) (by omega)]; omega) (by rw [lI_t (by omega) (by omega)]; omega), lI_t (by omega) (by omega), lI_t (by omega) (by omega)]
  rfl
theorem lI_i (z : Int) : (lI z).toInt32 = iI z := by
  apply Int32.toInt_inj.mp
  rw [Int64.toInt_toInt32, lI_b, iI_b]
  obtain ⟨q, hq⟩ := bm_q z (2 ^ 64)
  rw [hq]
  have : z + ((2 ^ 64 : Nat) : Int) * q = z + ((2 ^ 32 : Nat) : Int) * (2 ^ 32 * q) := by omega
  rw [this, Int.add_mul_bmod_self_left]
theorem iI_l {z : Int} (h1 : -2 ^ 31 ≤ z) (h2 : z < 2 ^ 31) : (iI z).toInt64 = lI z := by
  apply Int64.toInt_inj.mp
  rw [Int32.toInt_toInt64, iI_t h1 h2, lI_t (by omega) (by omega)]
theorem lI_inj {a b : Int} (a1 : -2 ^ 63 ≤ a) (a2 : a < 2 ^ 63) (b1 : -2 ^ 63 ≤ b) (b2 : b < 2 ^ 63) : lI a = lI b ↔ a = b := by
  rw [← Int64.toInt_inj, lI_t a1 a2, lI_t b1 b2]
theorem iI_inj {a b : Int} (a1 : -2 ^ 31 ≤ a) (a2 : a < 2 ^ 31) (b1 : -2 ^ 31 ≤ b) (b2 : b < 2 ^ 31) : iI a = iI b ↔ a = b := by
  rw [← Int32.toInt_inj, iI_t a1 a2, iI_t b1 b2]
theorem lI_lt {a b : Int} (a1 : -2 ^ 63 ≤ a) (a2 : a < 2 ^ 63) (b1 : -2 ^ 63 ≤ b) (b2 : b < 2 ^ 63) : lI a < lI b ↔ a < b := by
  rw [Int64.lt_iff_toInt_lt, lI_t a1 a2, lI_t b1 b2]
theorem lI_le {a b : Int} (a1 : -2 ^ 63 ≤ a) (a2 : a < 2 ^ 63) (b1 : -2 ^ 63 ≤ b) (b2 : b < 2 ^ 63) : lI a ≤ lI b ↔ a ≤ b := by
  rw [Int64.le_iff_toInt_le, lI_t a1 a2, lI_t b1 b2]
theorem iI_lt {a b : Int} (a1 : -2 ^ 31 ≤ a) (a2 : a < 2 ^ 31) (b1 : -2 ^ 31 ≤ b) (b2 : b < 2 ^ 31) : iI a < iI b ↔ a < b := by
  rw [Int32.lt_iff_toInt_lt, iI_t a1 a2, iI_t b1 b2]
theorem iI_le {a b : Int} (a1 : -2 ^ 31 ≤ a) (a2 : a < 2 ^ 31) (b1 : -2 ^ 31 ≤ b) (b2 : b < 2 ^ 31) : iI a ≤ iI b ↔ a ≤ b := by
  rw [Int32.le_iff_toInt_le, iI_t a1 a2, iI_t b1 b2]
theorem lI_div {a b : Int} (a1 : 0 ≤ a) (a2 : a < 2 ^ 63) (b1 : 0 < b) (b2 : b < 2 ^ 63) : lI a / lI b = lI (a / b) := by
  apply Int64.toInt_inj.mp
  have hle : a / b ≤ a := Int.ediv_le_self b a1
  have h0 : 0 ≤ a / b := Int.ediv_nonneg a1 (Int.le_of_lt b1)
  rw [lg_ldiv_nonneg (by rw [lI_t (by omega) a2]; exact a1) (by rw [lI_t (by omega) b2]; exact b1), lI_t (by omega) a2, lI_t (by omega) b2, lI_t (by omega) (by omega)]
theorem iI_div {a b : Int} (a1 : 0 ≤ a) (a2 : a < 2 ^ 31) (b1 : 0 < b) (b2 : b < 2 ^ 31) : iI a / iI b = iI (a / b) := by
  apply Int32.toInt_inj.mp
  have hle : a / b ≤ a := Int.ediv_le_self b a1
  have h0 : 0 ≤ a / b := Int.ediv_nonneg a1 (Int.le_of_lt b1)
  rw [lg_idiv_nonneg (by rw [iI_t (by omega) a2]; exact a1) (by rw [iI_t (by omega) b2]; exact b1), iI_t (by omega) a2, iI_t (by omega) b2, iI_t (by omega) (by omega)]
theorem lI_0 : lI 0 = 0 := rfl
theorem iI_0 : iI 0 = 0 := rfl
theorem lI_1 : lI 1 = 1 := rfl
theorem iI_1 : iI 1 = 1 := rfl
theorem lI_or30 {x y : Nat} (hx : x < 2 ^ 33) (hy : y < 1073741824) : lI ((x : Int) * 1073741824) ||| lI y = lI ((x : Int) * 1073741824 + y) := by
  have e1 : lI ((x : Int) * 1073741824) = lN (x * 1073741824) := by rw [lN_lI]; congr 1
  have e2 : lI ((x : Int) * 1073741824 + y) = lN (x * 1073741824 + y) := by rw [lN_lI]; congr 1
  have e3 : lI (y : Int) = lN y := (lN_lI y).symm
  rw [e1, e2, e3]
  apply Int64.toBitVec_inj.mp
  rw [Int64.toBitVec_or]
  show BitVec.ofNat 64 _ ||| BitVec.ofNat 64 _ = BitVec.ofNat 64 _
  apply BitVec.eq_of_toNat_eq
  rw [BitVec.toNat_or, BitVec.toNat_ofNat, BitVec.toNat_ofNat, BitVec.toNat_ofNat, Nat.mod_eq_of_lt (by omega), Nat.mod_eq_of_lt (by omega), Nat.mod_eq_of_lt (by omega)]
  have h := Nat.two_pow_add_eq_or_of_lt (i := 30) (b := y) hy x
  rw [show x * 1073741824 = 2 ^ 30 * x by omega]
  exact h.symm
/-! limbs -/
abbrev wh (p s : Nat) : va_E := .inr (3, [.ref p, .int (nI s)])
abbrev ar (N : Nat) (a : Nat → Nat) : va_E := .inl (0, N, .inl (fun j => nI (a j)))
def un (a : Nat → Nat) (i x : Nat) : Nat → Nat := fun j => if j = i then x else a j
theorem upd_nI (a : Nat → Nat) (i x : Nat) : upd (fun j => nI (a j)) i (nI x) = fun j => nI (un a i x j) := by
  funext j
  by_cases h : j = i
  · subst h; simp [upd, un]
  · simp [upd, un, h]
def trm (a : Nat → Nat) : Nat → Nat
  | 0 => 0
  | s + 1 => if a s = 0 then trm a s else s + 1
def nv (B : Nat) (a : Nat → Nat) : Nat → Nat
  | 0 => 0
  | s + 1 => nv B a s + a s * B ^ s
theorem nv_congr {B : Nat} {a b : Nat → Nat} : ∀ {s : Nat}, (∀ j, j < s → a j = b j) → nv B a s = nv B b s
  | 0, _ => rfl
  | s + 1, h => by
    show nv B a s + a s * B ^ s = nv B b s + b s * B ^ s
    rw [nv_congr (s := s) (fun j hj => h j (by omega)), h s (by omega)]
theorem nv_lt {B : Nat} {a : Nat → Nat} : ∀ {s : Nat}, (∀ j, j < s → a j < B) → nv B a s < B ^ s
  | 0, _ => by simp [nv]
  | s + 1, h => by
    have h1 := nv_lt (B := B) (a := a) (s := s) (fun j hj => h j (by omega))
    have h2 : a s + 1 ≤ B := h s (by omega)
    have h3 : (a s + 1) * B ^ s ≤ B * B ^ s := Nat.mul_le_mul_right _ h2
    show nv B a s + a s * B ^ s < B ^ (s + 1)
    rw [Nat.pow_succ, Nat.mul_comm (B ^ s) B]
    rw [Nat.add_mul] at h3
    omega
theorem nv_le {B : Nat} {a : Nat → Nat} {s : Nat} : ∀ {t : Nat}, s ≤ t → nv B a s ≤ nv B a t
  | 0, h => by rw [show s = 0 by omega]; exact Nat.le_refl _
  | t + 1, h => by
    by_cases e : s = t + 1
    · subst e; exact Nat.le_refl _
    · exact Nat.le_trans (nv_le (t := t) (by omega)) (Nat.le_add_right _ _)
theorem un_eq {a : Nat → Nat} {i x : Nat} : un a i x i = x := if_pos rfl
theorem un_ne {a : Nat → Nat} {i x j : Nat} (h : j ≠ i) : un a i x j = a j := if_neg h
theorem nv_un {B : Nat} {a : Nat → Nat} {i x s : Nat} (h : s ≤ i) : nv B (un a i x) s = nv B a s := nv_congr fun j hj => un_ne (by omega)
theorem trm_le (a : Nat → Nat) : ∀ s, trm a s ≤ s
  | 0 => Nat.le_refl _
  | s + 1 => by
    show (if a s = 0 then trm a s else s + 1) ≤ s + 1
    split
    · exact Nat.le_trans (trm_le a s) (by omega)
    · exact Nat.le_refl _
theorem trm_nv (B : Nat) (a : Nat → Nat) : ∀ s, nv B a (trm a s) = nv B a s
  | 0 => rfl
  | s + 1 => by
    show nv B a (if a s = 0 then trm a s else s + 1) = nv B a s + a s * B ^ s
    split
    · rename_i h
      rw [trm_nv B a s, h, Nat.zero_mul, Nat.add_zero]
    · rfl
theorem trm_top (B : Nat) (a : Nat → Nat) : ∀ s, trm a s = 0 ∨ B ^ (trm a s - 1) ≤ nv B a (trm a s)
  | 0 => Or.inl rfl
  | s + 1 => by
    show (if a s = 0 then trm a s else s + 1) = 0 ∨ B ^ ((if a s = 0 then trm a s else s + 1) - 1) ≤ nv B a (if a s = 0 then trm a s else s + 1)
    split
    · exact trm_top B a s
    · rename_i h
      refine Or.inr ?_
      show B ^ s ≤ nv B a s + a s * B ^ s
      have : 1 * B ^ s ≤ a s * B ^ s := Nat.mul_le_mul_right _ (Nat.pos_of_ne_zero h)
      omega
/-- the limbs a, s of them in a row of N, are the number v -/
def Rp (B N : Nat) (a : Nat → Nat) (s v : Nat) : Prop := s ≤ N ∧ (∀ j, a j < B) ∧ nv B a s = v ∧ (s = 0 ∨ B ^ (s - 1) ≤ v)
theorem Rp_trm {B N : Nat} {a : Nat → Nat} {s v : Nat} (h1 : s ≤ N) (h2 : ∀ j, a j < B) (h3 : nv B a s = v) : Rp B N a (trm a s) v :=
  ⟨Nat.le_trans (trm_le a s) h1, h2, (trm_nv B a s).trans h3, by have := trm_top B a s; rw [trm_nv, h3] at this; exact this⟩
theorem Rp_lt {B N : Nat} {a : Nat → Nat} {s v : Nat} (h : Rp B N a s v) : v < B ^ s := by
  obtain ⟨-, h2, rfl, -⟩ := h
  exact nv_lt fun j _ => h2 j
theorem Rp_top {B N : Nat} {a : Nat → Nat} {s v : Nat} (hB : 0 < B) (h : Rp B N a (s + 1) v) : a s ≠ 0 := by
  obtain ⟨-, h2, rfl, h4⟩ := h
  intro z
  have h5 : B ^ s ≤ nv B a (s + 1) := by
    rcases h4 with h4 | h4
    · omega
    · exact h4
  have h6 : nv B a (s + 1) = nv B a s := by show nv B a s + a s * B ^ s = _; rw [z, Nat.zero_mul, Nat.add_zero]
  have h7 : nv B a s < B ^ s := nv_lt fun j _ => h2 j
  omega
theorem nv_put {B : Nat} {a : Nat → Nat} {i r : Nat} : nv B (un a i r) (i + 1) = nv B a i + r * B ^ i := by
  show nv B (un a i r) i + un a i r i * B ^ i = _
  rw [nv_un (Nat.le_refl i), un_eq]
theorem nv_s {B : Nat} {a : Nat → Nat} {i : Nat} : nv B a (i + 1) = nv B a i + a i * B ^ i := rfl
theorem carry_step {B x P : Nat} : (x % B) * P + (x / B) * (P * B) = x * P := by
  have h := Nat.mod_add_div x B
  calc (x % B) * P + (x / B) * (P * B) = (x % B + B * (x / B)) * P := by grind
    _ = x * P := by rw [h]
theorem un_lt {B : Nat} {a : Nat → Nat} {i x : Nat} (h : ∀ j, a j < B) (hx : x < B) : ∀ j, un a i x j < B := fun j => by
  by_cases e : j = i
  · rw [e, un_eq]; exact hx
  · rw [un_ne e]; exact h j
theorem scale_step {v c x f q P n : Nat} (h : v + c * P = n * f + q) : v + (c + x * f) * P = (n + x * P) * f + q := by grind
theorem nv_upd {B : Nat} {a : Nat → Nat} {i x : Nat} : ∀ {s : Nat}, i < s → nv B (un a i x) s + a i * B ^ i = nv B a s + x * B ^ i
  | 0, h => absurd h (Nat.not_lt_zero _)
  | s + 1, h => by
    by_cases e : i = s
    · subst e
      rw [nv_put, nv_s]
      omega
    · have h1 := nv_upd (B := B) (a := a) (i := i) (x := x) (s := s) (by omega)
      rw [nv_s, nv_s, un_ne (show s ≠ i by omega)]
      omega
theorem sub_dm (y f : Nat) : y - y / f * f = y % f := by
  have h := Nat.div_add_mod y f
  rw [Nat.mul_comm] at h
  omega
theorem shrink_step {H f B P r x t r' n : Nat} (e : f * t + r' = r * B + x) : H * f * (P * B) + r * (P * B) + (n + x * P) = (H * B + t) * f * P + r' * P + n := by
  have e2 : H * f * (P * B) + r * (P * B) + (n + x * P) = H * f * (P * B) + (r * B + x) * P + n := by grind
  rw [e2, ← e]
  grind
theorem shrink_step2 {H B P n x t : Nat} {m : Nat} (e : m + x * P = n + x * P + H * (P * B) + t * P) : m = n + (H * B + t) * P := by
  have e2 : n + (H * B + t) * P = n + H * (P * B) + t * P := by grind
  omega
def fil (a : Nat → Nat) (p q x : Nat) : Nat → Nat := fun j => if p ≤ j ∧ j < q then x else a j
def lim (a : Nat → Nat) (s : Nat) : Nat → Nat := fun j => if j < s then a j else 0
theorem lim_nv {B : Nat} {a : Nat → Nat} {s : Nat} : ∀ {n : Nat}, s ≤ n → nv B (lim a s) n = nv B a s
  | 0, h => by rw [show s = 0 by omega]; rfl
  | n + 1, h => by
    by_cases e : s = n + 1
    · subst e
      exact nv_congr fun j hj => by unfold lim; rw [if_pos hj]
    · rw [nv_s, lim_nv (n := n) (by omega)]
      unfold lim
      rw [if_neg (by omega), Nat.zero_mul, Nat.add_zero]
theorem lim_lt {B : Nat} {a : Nat → Nat} {s : Nat} (hB : 0 < B) (h : ∀ j, a j < B) : ∀ j, lim a s j < B := fun j => by
  unfold lim
  split
  · exact h j
  · exact hB
/-- the first limb from above that differs decides -/
theorem nv_cmp {B : Nat} {a b : Nat → Nat} {i : Nat} (ha : ∀ j, a j < B) (h : a i < b i) : ∀ {s : Nat}, i < s → (∀ j, i < j → j < s → a j = b j) → nv B a s < nv B b s
  | 0, hi, _ => absurd hi (Nat.not_lt_zero _)
  | s + 1, hi, hj => by
    by_cases e : i = s
    · subst e
      have h1 : nv B a i < B ^ i := nv_lt fun j _ => ha j
      have h2 : (a i + 1) * B ^ i ≤ b i * B ^ i := Nat.mul_le_mul_right _ h
      rw [nv_s, nv_s]
      rw [Nat.add_mul] at h2
      omega
    · have h1 := nv_cmp ha h (s := s) (by omega) (fun j q1 q2 => hj j q1 (by omega))
      rw [nv_s, nv_s, hj s (by omega) (by omega)]
      omega
def ordI (v u : Nat) : Int32 := if v < u then -1 else if v = u then 0 else 1
theorem Rp_size {B N M : Nat} {a b : Nat → Nat} {s t v u : Nat} (hB : 0 < B) (h : Rp B N a s v) (g : Rp B M b t u) (hst : s < t) : v < u := by
  have h1 := Rp_lt h
  obtain ⟨-, -, -, g4⟩ := g
  rcases g4 with g4 | g4
  · omega
  · have : B ^ s ≤ B ^ (t - 1) := Nat.pow_le_pow_right hB (by omega)
    omega
theorem fil_0 {a : Nat → Nat} {p x : Nat} : fil a p p x = a := by
  funext j
  unfold fil
  rw [if_neg (by omega)]
theorem un_fil {a : Nat → Nat} {p q x : Nat} (h : p ≤ q) : un (fil a p q x) q x = fil a p (q + 1) x := by
  funext j
  unfold un fil
  by_cases e : j = q
  · rw [if_pos e, if_pos (by omega)]
  · rw [if_neg e]
    by_cases e2 : p ≤ j ∧ j < q
    · rw [if_pos e2, if_pos (by omega)]
    · rw [if_neg e2, if_neg (by omega)]
theorem add_step {m c x y P n1 n2 : Nat} (h : m + c * P = n1 + n2) : m + (x + y + c) * P = (n1 + x * P) + (n2 + y * P) := by grind
end
section
/-! ROWS AT NUMBERS -/
theorem nI_L {n : Nat} (h : n < 2 ^ 31) : (nI n).toInt64 = lN n := nI_l h
theorem lN_and30 (n : Nat) : lN n &&& lN 1073741823 = lN (n % 1073741824) := by
  rw [lN_lI, lN_lI (n % 1073741824)]
  exact (lI_and30 n).trans (by rw [Int.natCast_emod]; rfl)
theorem lN_and15 (n : Nat) : lN n &&& lN 32767 = lN (n % 32768) := by
  rw [lN_lI, lN_lI (n % 32768)]
  exact (lI_and15 n).trans (by rw [Int.natCast_emod]; rfl)
theorem nI_and30 (n : Nat) : nI n &&& nI 1073741823 = nI (n % 1073741824) := by
  rw [nI_iI, nI_iI (n % 1073741824)]
  exact (iI_and30 n).trans (by rw [Int.natCast_emod]; rfl)
theorem lN_shr30 {n : Nat} (h : n < 2 ^ 63) : lN n >>> ((nI 30).toInt64 &&& 63) = lN (n / 1073741824) := by
  rw [lN_lI, lN_lI (n / 1073741824)]
  exact (lI_shr30 (z := n) (by omega) (by omega)).trans (by rw [Int.natCast_ediv]; rfl)
theorem lN_shr15 {n : Nat} (h : n < 2 ^ 63) : lN n >>> ((nI 15).toInt64 &&& 63) = lN (n / 32768) := by
  rw [lN_lI, lN_lI (n / 32768)]
  exact (lI_shr15 (z := n) (by omega) (by omega)).trans (by rw [Int.natCast_ediv]; rfl)
theorem nI_shr30 {n : Nat} (h : n < 2 ^ 31) : nI n >>> (nI 30 &&& 31) = nI (n / 1073741824) := by
  rw [nI_iI, nI_iI (n / 1073741824)]
  exact (iI_shr30 (z := n) (by omega) (by omega)).trans (by rw [Int.natCast_ediv]; rfl)
theorem lN_shl30 {n : Nat} (h : n < 2 ^ 33) : lN n <<< ((nI 30).toInt64 &&& 63) = lN (n * 1073741824) := by
  rw [lN_lI, lN_lI (n * 1073741824)]
  exact (lI_shl30 (z := n) (by omega) (by omega)).trans (by rw [Int.natCast_mul]; rfl)
theorem lN_shl15 {n : Nat} (h : n < 2 ^ 48) : lN n <<< ((nI 15).toInt64 &&& 63) = lN (n * 32768) := by
  rw [lN_lI, lN_lI (n * 32768)]
  exact (lI_shl15 (z := n) (by omega) (by omega)).trans (by rw [Int.natCast_mul]; rfl)
theorem lN_or30 {x y : Nat} (hx : x < 2 ^ 33) (hy : y < 1073741824) : lN (x * 1073741824) ||| lN y = lN (x * 1073741824 + y) := by
  rw [lN_lI, lN_lI y, lN_lI (x * 1073741824 + y)]
  have h := lI_or30 hx hy
  rw [Int.natCast_add, Int.natCast_mul]
  exact h
section ZN
variable {Z : ZP} {own : String} {cc : ByteArray} {nL : Nat} {R : Room} {k n pc : Nat} {w : List va_E} {lv : List (Nat × Value)} {st : List Value}
theorem z_topi {x y : Int32} (e : x = y) (kk : Z k n w lv pc (.int y :: st)) : Z k n w lv pc (.int x :: st) := by rw [e]; exact kk
theorem z_topl {x y : Int64} (e : x = y) (kk : Z k n w lv pc (.long y :: st)) : Z k n w lv pc (.long x :: st) := by rw [e]; exact kk
theorem z_w {w' : List va_E} (e : w = w') (kk : Z k n w' lv pc st) : Z k n w lv pc st := by rw [e]; exact kk
theorem z_iaddN (h : Cb Z own cc nL R) {x y : Nat} (d : decode cc pc = .ok (.iadd, 1)) (kk : Z k n w lv (pc + 1) (.int (nI (x + y)) :: st)) : Z k n w lv pc (.int (nI y) :: .int (nI x) :: st) := by
  exact z_iadd h d (z_topi (nI_add x y) kk)
theorem z_imulN (h : Cb Z own cc nL R) {x y : Nat} (d : decode cc pc = .ok (.imul, 1)) (kk : Z k n w lv (pc + 1) (.int (nI (x * y)) :: st)) : Z k n w lv pc (.int (nI y) :: .int (nI x) :: st) := by
  exact z_imul h d (z_topi (pk_mul x y) kk)
theorem z_isubN (h : Cb Z own cc nL R) {x y : Nat} (d : decode cc pc = .ok (.isub, 1)) (hle : y ≤ x) (kk : Z k n w lv (pc + 1) (.int (nI (x - y)) :: st)) : Z k n w lv pc (.int (nI y) :: .int (nI x) :: st) := by
  exact z_isub h d (z_topi (pk_sub hle) kk)
theorem z_idivN (h : Cb Z own cc nL R) {x y : Nat} (d : decode cc pc = .ok (.idiv, 1)) (hs : x < 2 ^ 31 ∧ 0 < y ∧ y < 2 ^ 31) (kk : Z k n w lv (pc + 1) (.int (nI (x / y)) :: st)) : Z k n w lv pc (.int (nI y) :: .int (nI x) :: st) := by
  exact z_idiv h d (nI_ne0 hs.2.1 hs.2.2) (z_topi (pk_div hs.1 hs.2.1 hs.2.2) kk)
theorem z_iremN (h : Cb Z own cc nL R) {x y : Nat} (d : decode cc pc = .ok (.irem, 1)) (hs : x < 2 ^ 31 ∧ 0 < y ∧ y < 2 ^ 31) (kk : Z k n w lv (pc + 1) (.int (nI (x % y)) :: st)) : Z k n w lv pc (.int (nI y) :: .int (nI x) :: st) := by
  exact z_irem h d (nI_ne0 hs.2.1 hs.2.2) (z_topi (pk_rem hs.1 hs.2.1 hs.2.2) kk)
theorem z_iand30N (h : Cb Z own cc nL R) {x : Nat} (d : decode cc pc = .ok (.iand, 1)) (kk : Z k n w lv (pc + 1) (.int (nI (x % 1073741824)) :: st)) : Z k n w lv pc (.int (nI 1073741823) :: .int (nI x) :: st) := by
  exact z_iand h d (z_topi (nI_and30 x) kk)
theorem z_ishr30N (h : Cb Z own cc nL R) {x : Nat} (d : decode cc pc = .ok (.ishr, 1)) (hs : x < 2 ^ 31) (kk : Z k n w lv (pc + 1) (.int (nI (x / 1073741824)) :: st)) : Z k n w lv pc (.int (nI 30) :: .int (nI x) :: st) := by
  exact z_ishr h d (z_topi (nI_shr30 hs) kk)
theorem z_laddN (h : Cb Z own cc nL R) {x y : Nat} (d : decode cc pc = .ok (.ladd, 1)) (kk : Z k n w lv (pc + 1) (.long (lN (x + y)) :: st)) : Z k n w lv pc (.long (lN y) :: .long (lN x) :: st) := by
  exact z_ladd h d (z_topl (lN_add x y) kk)
theorem z_lmulN (h : Cb Z own cc nL R) {x y : Nat} (d : decode cc pc = .ok (.lmul, 1)) (kk : Z k n w lv (pc + 1) (.long (lN (x * y)) :: st)) : Z k n w lv pc (.long (lN y) :: .long (lN x) :: st) := by
  exact z_lmul h d (z_topl (lN_mul x y) kk)
theorem z_lsubN (h : Cb Z own cc nL R) {x y : Nat} (d : decode cc pc = .ok (.lsub, 1)) (hle : y ≤ x) (kk : Z k n w lv (pc + 1) (.long (lN (x - y)) :: st)) : Z k n w lv pc (.long (lN y) :: .long (lN x) :: st) := by
  exact z_lsub h d (z_topl (lN_sub hle) kk)
theorem lN_ne0 {n : Nat} (h0 : 0 < n) (h : n < 2 ^ 63) : ¬ lN n = 0 := fun e => by
  have := (pk_lEQ (a := n) (b := 0) h (by decide)).mp e
  omega
theorem z_ldivN (h : Cb Z own cc nL R) {x y : Nat} (d : decode cc pc = .ok (.ldiv, 1)) (hs : x < 2 ^ 63 ∧ 0 < y ∧ y < 2 ^ 63) (kk : Z k n w lv (pc + 1) (.long (lN (x / y)) :: st)) : Z k n w lv pc (.long (lN y) :: .long (lN x) :: st) := by
  exact z_ldiv h d (lN_ne0 hs.2.1 hs.2.2) (z_topl (pk_lDiv hs.1 hs.2.1 hs.2.2) kk)
theorem z_lremN (h : Cb Z own cc nL R) {x y : Nat} (d : decode cc pc = .ok (.lrem, 1)) (hs : x < 2 ^ 63 ∧ 0 < y ∧ y < 2 ^ 63) (kk : Z k n w lv (pc + 1) (.long (lN (x % y)) :: st)) : Z k n w lv pc (.long (lN y) :: .long (lN x) :: st) := by
  exact z_lrem h d (lN_ne0 hs.2.1 hs.2.2) (z_topl (pk_lRem hs.1 hs.2.1 hs.2.2) kk)
theorem z_land30N (h : Cb Z own cc nL R) {x : Nat} (d : decode cc pc = .ok (.land, 1)) (kk : Z k n w lv (pc + 1) (.long (lN (x % 1073741824)) :: st)) : Z k n w lv pc (.long (lN 1073741823) :: .long (lN x) :: st) := by
  exact z_land h d (z_topl (lN_and30 x) kk)
theorem z_lshr30N (h : Cb Z own cc nL R) {x : Nat} (d : decode cc pc = .ok (.lshr, 1)) (hs : x < 2 ^ 63) (kk : Z k n w lv (pc + 1) (.long (lN (x / 1073741824)) :: st)) : Z k n w lv pc (.int (nI 30) :: .long (lN x) :: st) := by
  exact z_lshr h d (z_topl (lN_shr30 hs) kk)
theorem z_lshl30N (h : Cb Z own cc nL R) {x : Nat} (d : decode cc pc = .ok (.lshl, 1)) (hs : x < 2 ^ 33) (kk : Z k n w lv (pc + 1) (.long (lN (x * 1073741824)) :: st)) : Z k n w lv pc (.int (nI 30) :: .long (lN x) :: st) := by
  exact z_lshl h d (z_topl (lN_shl30 hs) kk)
theorem z_land15N (h : Cb Z own cc nL R) {x : Nat} (d : decode cc pc = .ok (.land, 1)) (kk : Z k n w lv (pc + 1) (.long (lN (x % 32768)) :: st)) : Z k n w lv pc (.long (lN 32767) :: .long (lN x) :: st) := by
  exact z_land h d (z_topl (lN_and15 x) kk)
theorem z_lshr15N (h : Cb Z own cc nL R) {x : Nat} (d : decode cc pc = .ok (.lshr, 1)) (hs : x < 2 ^ 63) (kk : Z k n w lv (pc + 1) (.long (lN (x / 32768)) :: st)) : Z k n w lv pc (.int (nI 15) :: .long (lN x) :: st) := by
  exact z_lshr h d (z_topl (lN_shr15 hs) kk)
theorem z_lshl15N (h : Cb Z own cc nL R) {x : Nat} (d : decode cc pc = .ok (.lshl, 1)) (hs : x < 2 ^ 48) (kk : Z k n w lv (pc + 1) (.long (lN (x * 32768)) :: st)) : Z k n w lv pc (.int (nI 15) :: .long (lN x) :: st) := by
  exact z_lshl h d (z_topl (lN_shl15 hs) kk)
theorem z_lorN (h : Cb Z own cc nL R) {x y : Nat} (d : decode cc pc = .ok (.lor, 1)) (hs : x < 2 ^ 33 ∧ y < 1073741824) (kk : Z k n w lv (pc + 1) (.long (lN (x * 1073741824 + y)) :: st)) : Z k n w lv pc (.long (lN y) :: .long (lN (x * 1073741824)) :: st) := by
  exact z_lor h d (z_topl (lN_or30 hs.1 hs.2) kk)
theorem z_i2lN (h : Cb Z own cc nL R) {x : Nat} (d : decode cc pc = .ok (.i2l, 1)) (hs : x < 2 ^ 31) (kk : Z k n w lv (pc + 1) (.long (lN x) :: st)) : Z k n w lv pc (.int (nI x) :: st) := by
  exact z_i2l h d (z_topl (nI_L hs) kk)
theorem z_l2iN (h : Cb Z own cc nL R) {x : Nat} (d : decode cc pc = .ok (.l2i, 1)) (kk : Z k n w lv (pc + 1) (.int (nI x) :: st)) : Z k n w lv pc (.long (lN x) :: st) := by
  exact z_l2i h d (z_topi (lN_i x) kk)
theorem z_iincN (h : Cb Z own cc nL R) {i x : Nat} {b : Int} (c : Nat) (d : decode cc pc = .ok (.iinc i b, 3)) (hg : zg lv i = some (.int (nI x))) (hv : Int32.ofInt b = nI c) (hn : i < nL) (kk : Z k n w (zs1 lv i (.int (nI (x + c)))) (pc + 3) st) : Z k n w lv pc st := by
  refine z_iinc h d hg hv hn ?_
  rw [nI_add]
  exact kk
theorem z_iincD (h : Cb Z own cc nL R) {i x : Nat} (d : decode cc pc = .ok (.iinc i (-1), 3)) (hg : zg lv i = some (.int (nI (x + 1) - 1))) (hn : i < nL) (kk : Z k n w (zs1 lv i (.int (nI x - 1))) (pc + 3) st) : Z k n w lv pc st := by
  refine z_iinc (cst := -1) h d hg (by decide) hn ?_
  rw [nI_pred, show nI x + (-1 : Int32) = nI x - 1 from (Int32.sub_eq_add_neg _ _).symm]
  exact kk
theorem z_ialoadN (h : Cb Z own cc nL R) {a N i : Nat} {f : Nat → Nat} (d : decode cc pc = .ok (.iaload, 1)) (he : w[a]? = some (ar N f)) (hs : i < N ∧ N < 2 ^ 31) (kk : Z k n w lv (pc + 1) (.int (nI (f i)) :: st)) : Z k n w lv pc (.int (nI i) :: .ref a :: st) := by
  refine z_iaload h d he (vp_in_nI hs.1 hs.2) ?_
  rw [nI_clamp (by omega)]
  exact kk
theorem z_iastoreN (h : Cb Z own cc nL R) {a N i x : Nat} {f : Nat → Nat} (d : decode cc pc = .ok (.iastore, 1)) (he : w[a]? = some (ar N f)) (hs : i < N ∧ N < 2 ^ 31) (kk : Z k n (w.set a (ar N (un f i x))) lv (pc + 1) st) : Z k n w lv pc (.int (nI x) :: .int (nI i) :: .ref a :: st) := by
  refine z_iastore h d he (vp_in_nI hs.1 hs.2) ?_
  rw [nI_clamp (by omega), upd_nI]
  exact kk
theorem z_alenN (h : Cb Z own cc nL R) {a N : Nat} {f : Nat → Nat} (d : decode cc pc = .ok (.arraylength, 1)) (he : w[a]? = some (ar N f)) (kk : Z k n w lv (pc + 1) (.int (nI N) :: st)) : Z k n w lv pc (.ref a :: st) := z_alen h d he (by decide) rfl kk
theorem z_mminN (h : Cb Z own cc nL R) {ix x y : Nat} (d : decode cc pc = .ok (.invokestatic ix, 3)) (hl : Cond.methodLink own ix Lib.Math.min.name ∈ TT) (hf : 1 ≤ R.frames) (hlo : (st.map fun v => v.category).sum + 13 ≤ R.locals) (hc : k ≤ R.cells) (hs : n ≤ R.slots) (hb : x < 2 ^ 31 ∧ y < 2 ^ 31) (kk : Z k n w lv (pc + 3) (.int (nI (min x y)) :: st)) : Z k n w lv pc (.int (nI y) :: .int (nI x) :: st) := by
  refine z_mmin h d hl hf hlo hc hs (z_topi (y := nI (min x y)) ?_ kk)
  by_cases q : y < x
  · rw [if_pos ((nI_ltI hb.2 hb.1).mpr q), Nat.min_eq_right (by omega)]
  · rw [if_neg (fun z => q ((nI_ltI hb.2 hb.1).mp z)), Nat.min_eq_left (by omega)]
theorem z_mmaxN (h : Cb Z own cc nL R) {ix x y : Nat} (d : decode cc pc = .ok (.invokestatic ix, 3)) (hl : Cond.methodLink own ix Lib.Math.max.name ∈ TT) (hf : 1 ≤ R.frames) (hlo : (st.map fun v => v.category).sum + 13 ≤ R.locals) (hc : k ≤ R.cells) (hs : n ≤ R.slots) (hb : x < 2 ^ 31 ∧ y < 2 ^ 31) (kk : Z k n w lv (pc + 3) (.int (nI (max x y)) :: st)) : Z k n w lv pc (.int (nI y) :: .int (nI x) :: st) := by
  refine z_mmax h d hl hf hlo hc hs (z_topi (y := nI (max x y)) ?_ kk)
  by_cases q : x < y
  · rw [if_pos ((nI_ltI hb.1 hb.2).mpr q), Nat.max_eq_right (by omega)]
  · rw [if_neg (fun z => q ((nI_ltI hb.1 hb.2).mp z)), Nat.max_eq_left (by omega)]
theorem z_mminlN (h : Cb Z own cc nL R) {ix x y : Nat} (d : decode cc pc = .ok (.invokestatic ix, 3)) (hl : Cond.methodLink own ix Lib.MathLoose.min_long.x ∈ TT) (hf : 1 ≤ R.frames) (hlo : (st.map fun v => v.category).sum + 15 ≤ R.locals) (hc : k ≤ R.cells) (hs : n ≤ R.slots) (hb : x < 2 ^ 63 ∧ y < 2 ^ 63) (kk : Z k n w lv (pc + 3) (.long (lN (min x y)) :: st)) : Z k n w lv pc (.long (lN y) :: .long (lN x) :: st) := by
  refine z_mminl h d hl hf hlo hc hs (z_topl (y := lN (min x y)) ?_ kk)
  by_cases q : y < x
  · rw [if_pos ((pk_lLT hb.2 hb.1).mpr q), Nat.min_eq_right (by omega)]
  · rw [if_neg (fun z => q ((pk_lLT hb.2 hb.1).mp z)), Nat.min_eq_left (by omega)]
theorem z_copyN (h : Cb Z own cc nL R) {ix a b N0 N1 sp dp q : Nat} {f g : Nat → Nat} (d : decode cc pc = .ok (.invokestatic ix, 3)) (hl : Cond.methodLink own ix arraycopyName ∈ TT) (ha : w[a]? = some (ar N0 f)) (hb9 : w[b]? = some (ar N1 g)) (hs : sp + q ≤ N0 ∧ dp + q ≤ N1 ∧ N0 < 2 ^ 31 ∧ N1 < 2 ^ 31) (hf : 1 ≤ R.frames) (hlo : (st.map fun v => v.category).sum + (nativeFrameWords "java/lang/System" "arraycopy" 5 + 11) ≤ R.locals)
    (kk : Z k n (w.set b (ar N1 (va_cpy f g sp dp q))) lv (pc + 3) st) : Z k n w lv pc (.int (nI q) :: .int (nI dp) :: .ref b :: .int (nI sp) :: .ref a :: st) := by
  obtain ⟨g1, g2, g3, g4⟩ := hs
  refine z_copy h d hl ha hb9 (nI_pos (by omega)) (nI_pos (by omega)) (nI_pos (by omega)) (by rw [nI_clamp (by omega), nI_clamp (by omega)]; exact g1) (by rw [nI_clamp (by omega), nI_clamp (by omega)]; exact g2) hf hlo ?_
  rw [nI_clamp (by omega), nI_clamp (by omega), nI_clamp (by omega)]
  have e : va_cpy (fun j => nI (f j)) (fun j => nI (g j)) sp dp q = fun j => nI (va_cpy f g sp dp q j) := by
    funext j
    unfold va_cpy
    split <;> rfl
  rw [e]
  exact kk
theorem z_icmp_eqN (h : Cb Z own cc nL R) {x y tgt : Nat} {off : Int} (d : decode cc pc = .ok (.if_icmp .eq off, 3)) (ht : (pc : Int) + off = (tgt : Int)) (hs : x < 2 ^ 31 ∧ y < 2 ^ 31) (kt : x = y → Z k n w lv tgt st) (kf : ¬ x = y → Z k n w lv (pc + 3) st) : Z k n w lv pc (.int (nI y) :: .int (nI x) :: st) :=
  z_icmp_eq h d ht (fun q => kt ((nI_eq hs.1 hs.2).mp q)) (fun q => kf (fun z => q ((nI_eq hs.1 hs.2).mpr z)))
theorem z_icmp_neN (h : Cb Z own cc nL R) {x y tgt : Nat} {off : Int} (d : decode cc pc = .ok (.if_icmp .ne off, 3)) (ht : (pc : Int) + off = (tgt : Int)) (hs : x < 2 ^ 31 ∧ y < 2 ^ 31) (kt : ¬ x = y → Z k n w lv tgt st) (kf : x = y → Z k n w lv (pc + 3) st) : Z k n w lv pc (.int (nI y) :: .int (nI x) :: st) :=
  z_icmp_ne h d ht (fun q => kt (fun z => q ((nI_eq hs.1 hs.2).mpr z))) (fun q => kf ((nI_eq hs.1 hs.2).mp q))
theorem z_icmp_ltN (h : Cb Z own cc nL R) {x y tgt : Nat} {off : Int} (d : decode cc pc = .ok (.if_icmp .lt off, 3)) (ht : (pc : Int) + off = (tgt : Int)) (hs : x < 2 ^ 31 ∧ y < 2 ^ 31) (kt : x < y → Z k n w lv tgt st) (kf : y ≤ x → Z k n w lv (pc + 3) st) : Z k n w lv pc (.int (nI y) :: .int (nI x) :: st) :=
  z_icmp_lt h d ht (fun q => kt ((nI_ltI hs.1 hs.2).mp q)) (fun q => kf (Nat.le_of_not_lt (fun z => q ((nI_ltI hs.1 hs.2).mpr z))))
theorem z_icmp_geN (h : Cb Z own cc nL R) {x y tgt : Nat} {off : Int} (d : decode cc pc = .ok (.if_icmp .ge off, 3)) (ht : (pc : Int) + off = (tgt : Int)) (hs : x < 2 ^ 31 ∧ y < 2 ^ 31) (kt : y ≤ x → Z k n w lv tgt st) (kf : x < y → Z k n w lv (pc + 3) st) : Z k n w lv pc (.int (nI y) :: .int (nI x) :: st) :=
  z_icmp_ge h d ht (fun q => kt ((nI_leI hs.2 hs.1).mp q)) (fun q => kf (Nat.lt_of_not_le (fun z => q ((nI_leI hs.2 hs.1).mpr z))))
theorem z_icmp_gtN (h : Cb Z own cc nL R) {x y tgt : Nat} {off : Int} (d : decode cc pc = .ok (.if_icmp .gt off, 3)) (ht : (pc : Int) + off = (tgt : Int)) (hs : x < 2 ^ 31 ∧ y < 2 ^ 31) (kt : y < x → Z k n w lv tgt st) (kf : x ≤ y → Z k n w lv (pc + 3) st) : Z k n w lv pc (.int (nI y) :: .int (nI x) :: st) :=
  z_icmp_gt h d ht (fun q => kt ((nI_ltI hs.2 hs.1).mp q)) (fun q => kf (Nat.le_of_not_lt (fun z => q ((nI_ltI hs.2 hs.1).mpr z))))
theorem z_icmp_leN (h : Cb Z own cc nL R) {x y tgt : Nat} {off : Int} (d : decode cc pc = .ok (.if_icmp .le off, 3)) (ht : (pc : Int) + off = (tgt : Int)) (hs : x < 2 ^ 31 ∧ y < 2 ^ 31) (kt : x ≤ y → Z k n w lv tgt st) (kf : y < x → Z k n w lv (pc + 3) st) : Z k n w lv pc (.int (nI y) :: .int (nI x) :: st) :=
  z_icmp_le h d ht (fun q => kt ((nI_leI hs.1 hs.2).mp q)) (fun q => kf (Nat.lt_of_not_le (fun z => q ((nI_leI hs.1 hs.2).mpr z))))
theorem nI_z {x : Nat} (hs : x < 2 ^ 31) : nI x = 0 ↔ x = 0 := by rw [← nI_0]; exact nI_eq hs (by decide)
theorem z_if_eqN (h : Cb Z own cc nL R) {x tgt : Nat} {off : Int} (d : decode cc pc = .ok (.ifCond .eq off, 3)) (ht : (pc : Int) + off = (tgt : Int)) (hs : x < 2 ^ 31) (kt : x = 0 → Z k n w lv tgt st) (kf : ¬ x = 0 → Z k n w lv (pc + 3) st) : Z k n w lv pc (.int (nI x) :: st) :=
  z_if_eq h d ht (fun q => kt ((nI_z hs).mp q)) (fun q => kf (fun z => q ((nI_z hs).mpr z)))
theorem z_if_neN (h : Cb Z own cc nL R) {x tgt : Nat} {off : Int} (d : decode cc pc = .ok (.ifCond .ne off, 3)) (ht : (pc : Int) + off = (tgt : Int)) (hs : x < 2 ^ 31) (kt : ¬ x = 0 → Z k n w lv tgt st) (kf : x = 0 → Z k n w lv (pc + 3) st) : Z k n w lv pc (.int (nI x) :: st) :=
  z_if_ne h d ht (fun q => kt (fun z => q ((nI_z hs).mpr z))) (fun q => kf ((nI_z hs).mp q))
theorem z_if_gtN (h : Cb Z own cc nL R) {x tgt : Nat} {off : Int} (d : decode cc pc = .ok (.ifCond .gt off, 3)) (ht : (pc : Int) + off = (tgt : Int)) (hs : x < 2 ^ 31) (kt : 0 < x → Z k n w lv tgt st) (kf : x = 0 → Z k n w lv (pc + 3) st) : Z k n w lv pc (.int (nI x) :: st) :=
  z_if_gt h d ht (fun q => kt (Nat.pos_of_ne_zero (fun z => by rw [z, nI_0] at q; exact absurd q (by decide)))) (fun q => kf (by rcases Nat.eq_zero_or_pos x with z | z; exact z; exact absurd (by rw [← nI_0]; exact (nI_ltI (by decide) hs).mpr z) q))
theorem z_if_leN (h : Cb Z own cc nL R) {x tgt : Nat} {off : Int} (d : decode cc pc = .ok (.ifCond .le off, 3)) (ht : (pc : Int) + off = (tgt : Int)) (hs : x < 2 ^ 31) (kt : x = 0 → Z k n w lv tgt st) (kf : 0 < x → Z k n w lv (pc + 3) st) : Z k n w lv pc (.int (nI x) :: st) :=
  z_if_le h d ht (fun q => kt (by rcases Nat.eq_zero_or_pos x with z | z; exact z; exact absurd q (nI_nle z hs))) (fun q => kf (Nat.pos_of_ne_zero (fun z => q (by rw [z, nI_0]; decide))))
theorem nI_m1 {x : Nat} (hs : x < 2 ^ 31) : nI x - 1 < 0 ↔ x = 0 := by
  constructor
  · intro q
    rcases Nat.eq_zero_or_pos x with z | z
    · exact z
    · obtain ⟨y, rfl⟩ : ∃ y, x = y + 1 := ⟨x - 1, by omega⟩
      rw [nI_pred] at q
      exact absurd q (nI_pos (by omega))
  · intro z
    rw [z, nI_0]
    decide
theorem z_if_ltD (h : Cb Z own cc nL R) {x tgt : Nat} {off : Int} (d : decode cc pc = .ok (.ifCond .lt off, 3)) (ht : (pc : Int) + off = (tgt : Int)) (hs : x < 2 ^ 31) (kt : x = 0 → Z k n w lv tgt st) (kf : ∀ y, x = y + 1 → Z k n w lv (pc + 3) st) : Z k n w lv pc (.int (nI x - 1) :: st) :=
  z_if_lt h d ht (fun q => kt ((nI_m1 hs).mp q)) (fun q => kf (x - 1) (by have : ¬ x = 0 := fun z => q ((nI_m1 hs).mpr z); omega))
theorem z_lcmp_eqN (h : Cb Z own cc nL R) {x y tgt : Nat} {off : Int} (d1 : decode cc pc = .ok (.lcmp, 1)) (d : decode cc (pc + 1) = .ok (.ifCond .eq off, 3)) (ht : ((pc + 1 : Nat) : Int) + off = (tgt : Int)) (hs : x < 2 ^ 63 ∧ y < 2 ^ 63) (kt : x = y → Z k n w lv tgt st) (kf : ¬ x = y → Z k n w lv (pc + 1 + 3) st) : Z k n w lv pc (.long (lN y) :: .long (lN x) :: st) :=
  z_lcmp h d1 (z_if_eq h d ht (fun q => kt (((lg_cmp_eq (lN x) (lN y)).trans (pk_lEQ hs.1 hs.2)).mp q)) (fun q => kf (fun z => q (((lg_cmp_eq (lN x) (lN y)).trans (pk_lEQ hs.1 hs.2)).mpr z))))
theorem z_lcmp_neN (h : Cb Z own cc nL R) {x y tgt : Nat} {off : Int} (d1 : decode cc pc = .ok (.lcmp, 1)) (d : decode cc (pc + 1) = .ok (.ifCond .ne off, 3)) (ht : ((pc + 1 : Nat) : Int) + off = (tgt : Int)) (hs : x < 2 ^ 63 ∧ y < 2 ^ 63) (kt : ¬ x = y → Z k n w lv tgt st) (kf : x = y → Z k n w lv (pc + 1 + 3) st) : Z k n w lv pc (.long (lN y) :: .long (lN x) :: st) :=
  z_lcmp h d1 (z_if_ne h d ht (fun q => kt (fun z => q (((lg_cmp_eq (lN x) (lN y)).trans (pk_lEQ hs.1 hs.2)).mpr z))) (fun q => kf (((lg_cmp_eq (lN x) (lN y)).trans (pk_lEQ hs.1 hs.2)).mp q)))
theorem z_lcmp_ltN (h : Cb Z own cc nL R) {x y tgt : Nat} {off : Int} (d1 : decode cc pc = .ok (.lcmp, 1)) (d : decode cc (pc + 1) = .ok (.ifCond .lt off, 3)) (ht : ((pc + 1 : Nat) : Int) + off = (tgt : Int)) (hs : x < 2 ^ 63 ∧ y < 2 ^ 63) (kt : x < y → Z k n w lv tgt st) (kf : y ≤ x → Z k n w lv (pc + 1 + 3) st) : Z k n w lv pc (.long (lN y) :: .long (lN x) :: st) :=
  z_lcmp h d1 (z_if_lt h d ht (fun q => kt (((lg_cmp_lt (lN x) (lN y)).trans (pk_lLT hs.1 hs.2)).mp q)) (fun q => kf (Nat.le_of_not_lt (fun z => q (((lg_cmp_lt (lN x) (lN y)).trans (pk_lLT hs.1 hs.2)).mpr z)))))
theorem z_lcmp_geN (h : Cb Z own cc nL R) {x y tgt : Nat} {off : Int} (d1 : decode cc pc = .ok (.lcmp, 1)) (d : decode cc (pc + 1) = .ok (.ifCond .ge off, 3)) (ht : ((pc + 1 : Nat) : Int) + off = (tgt : Int)) (hs : x < 2 ^ 63 ∧ y < 2 ^ 63) (kt : y ≤ x → Z k n w lv tgt st) (kf : x < y → Z k n w lv (pc + 1 + 3) st) : Z k n w lv pc (.long (lN y) :: .long (lN x) :: st) :=
  z_lcmp h d1 (z_if_ge h d ht (fun q => kt (((lg_cmp_ge (lN x) (lN y)).trans (pk_lLE hs.2 hs.1)).mp q)) (fun q => kf (Nat.lt_of_not_le (fun z => q (((lg_cmp_ge (lN x) (lN y)).trans (pk_lLE hs.2 hs.1)).mpr z)))))
theorem z_lcmp_gtN (h : Cb Z own cc nL R) {x y tgt : Nat} {off : Int} (d1 : decode cc pc = .ok (.lcmp, 1)) (d : decode cc (pc + 1) = .ok (.ifCond .gt off, 3)) (ht : ((pc + 1 : Nat) : Int) + off = (tgt : Int)) (hs : x < 2 ^ 63 ∧ y < 2 ^ 63) (kt : y < x → Z k n w lv tgt st) (kf : x ≤ y → Z k n w lv (pc + 1 + 3) st) : Z k n w lv pc (.long (lN y) :: .long (lN x) :: st) :=
  z_lcmp h d1 (z_if_gt h d ht (fun q => kt (((lg_cmp_gt (lN x) (lN y)).trans (pk_lLT hs.2 hs.1)).mp q)) (fun q => kf (Nat.le_of_not_lt (fun z => q (((lg_cmp_gt (lN x) (lN y)).trans (pk_lLT hs.2 hs.1)).mpr z)))))
theorem z_lcmp_leN (h : Cb Z own cc nL R) {x y tgt : Nat} {off : Int} (d1 : decode cc pc = .ok (.lcmp, 1)) (d : decode cc (pc + 1) = .ok (.ifCond .le off, 3)) (ht : ((pc + 1 : Nat) : Int) + off = (tgt : Int)) (hs : x < 2 ^ 63 ∧ y < 2 ^ 63) (kt : x ≤ y → Z k n w lv tgt st) (kf : y < x → Z k n w lv (pc + 1 + 3) st) : Z k n w lv pc (.long (lN y) :: .long (lN x) :: st) :=
  z_lcmp h d1 (z_if_le h d ht (fun q => kt (((lg_cmp_le (lN x) (lN y)).trans (pk_lLE hs.1 hs.2)).mp q)) (fun q => kf (Nat.lt_of_not_le (fun z => q (((lg_cmp_le (lN x) (lN y)).trans (pk_lLE hs.1 hs.2)).mpr z)))))
theorem z_iaddI (h : Cb Z own cc nL R) {x y : Int} (d : decode cc pc = .ok (.iadd, 1)) (kk : Z k n w lv (pc + 1) (.int (iI (x + y)) :: st)) : Z k n w lv pc (.int (iI y) :: .int (iI x) :: st) := by
  exact z_iadd h d (z_topi (iI_add x y) kk)
theorem z_isubI (h : Cb Z own cc nL R) {x y : Int} (d : decode cc pc = .ok (.isub, 1)) (kk : Z k n w lv (pc + 1) (.int (iI (x - y)) :: st)) : Z k n w lv pc (.int (iI y) :: .int (iI x) :: st) := by
  exact z_isub h d (z_topi (iI_sub x y) kk)
theorem z_imulI (h : Cb Z own cc nL R) {x y : Int} (d : decode cc pc = .ok (.imul, 1)) (kk : Z k n w lv (pc + 1) (.int (iI (x * y)) :: st)) : Z k n w lv pc (.int (iI y) :: .int (iI x) :: st) := by
  exact z_imul h d (z_topi (iI_mul x y) kk)
theorem z_laddI (h : Cb Z own cc nL R) {x y : Int} (d : decode cc pc = .ok (.ladd, 1)) (kk : Z k n w lv (pc + 1) (.long (lI (x + y)) :: st)) : Z k n w lv pc (.long (lI y) :: .long (lI x) :: st) := by
  exact z_ladd h d (z_topl (lI_add x y) kk)
theorem z_lsubI (h : Cb Z own cc nL R) {x y : Int} (d : decode cc pc = .ok (.lsub, 1)) (kk : Z k n w lv (pc + 1) (.long (lI (x - y)) :: st)) : Z k n w lv pc (.long (lI y) :: .long (lI x) :: st) := by
  exact z_lsub h d (z_topl (lI_sub x y) kk)
theorem z_lmulI (h : Cb Z own cc nL R) {x y : Int} (d : decode cc pc = .ok (.lmul, 1)) (kk : Z k n w lv (pc + 1) (.long (lI (x * y)) :: st)) : Z k n w lv pc (.long (lI y) :: .long (lI x) :: st) := by
  exact z_lmul h d (z_topl (lI_mul x y) kk)
end ZN
end
section
/-! more rows at numbers -/
theorem sh_amt : ∀ r : Nat, r < 32 → ((nI r &&& 31).toBitVec.smod 32).toNat = r := by decide +kernel
theorem nI_shl {x r : Nat} (hr : r < 32) (h : x * 2 ^ r < 2 ^ 32) : nI x <<< (nI r &&& 31) = nI (x * 2 ^ r) := pk_shlN (nI r &&& 31) r (sh_amt r hr) h
theorem ush_amt : ∀ r : Nat, r < 32 → (((nI r).toUInt32 &&& Int32.toUInt32 31).toBitVec % 32).toNat = r := by decide +kernel
theorem emod_nat (z : Int) : ((z % 1073741824).toNat : Int) = z % 1073741824 := Int.toNat_of_nonneg (Int.emod_nonneg z (by decide))
theorem emod_lt (z : Int) : (z % 1073741824).toNat < 1073741824 := by
  have h1 := emod_nat z
  have h2 := Int.emod_lt_of_pos z (show (0 : Int) < 1073741824 by decide)
  omega
section ZN2
variable {Z : ZP} {own : String} {cc : ByteArray} {nL : Nat} {R : Room} {k n pc : Nat} {w : List va_E} {lv : List (Nat × Value)} {st : List Value}
theorem z_ishlN (h : Cb Z own cc nL R) {x r : Nat} (d : decode cc pc = .ok (.ishl, 1)) (hs : r < 32 ∧ x * 2 ^ r < 2 ^ 32) (kk : Z k n w lv (pc + 1) (.int (nI (x * 2 ^ r)) :: st)) : Z k n w lv pc (.int (nI r) :: .int (nI x) :: st) := z_ishl h d (z_topi (nI_shl hs.1 hs.2) kk)
theorem z_iushrN (h : Cb Z own cc nL R) {x r : Nat} (d : decode cc pc = .ok (.iushr, 1)) (hs : r < 32 ∧ x < 2 ^ 32) (kk : Z k n w lv (pc + 1) (.int (nI (x / 2 ^ r)) :: st)) : Z k n w lv pc (.int (nI r) :: .int (nI x) :: st) := z_iushr h d (z_topi (pk_ushrN hs.2 (nI r) r (ush_amt r hs.1)) kk)
theorem z_iincS (h : Cb Z own cc nL R) {i x : Nat} {b : Int} (c : Nat) (d : decode cc pc = .ok (.iinc i b, 3)) (hg : zg lv i = some (.int (nI x))) (hv : Int32.ofInt b = -nI c) (hn : i < nL) (hle : c ≤ x) (kk : Z k n w (zs1 lv i (.int (nI (x - c)))) (pc + 3) st) : Z k n w lv pc st := by
  refine z_iinc h d hg hv hn ?_
  rw [show nI x + -nI c = nI x - nI c from (Int32.sub_eq_add_neg _ _).symm, pk_sub hle]
  exact kk
theorem z_i2lI (h : Cb Z own cc nL R) {x : Nat} (d : decode cc pc = .ok (.i2l, 1)) (hs : x < 2 ^ 31) (kk : Z k n w lv (pc + 1) (.long (lI x) :: st)) : Z k n w lv pc (.int (nI x) :: st) := z_i2lN h d hs (by rw [lN_lI]; exact kk)
theorem z_land30I (h : Cb Z own cc nL R) {z : Int} (d : decode cc pc = .ok (.land, 1)) (kk : Z k n w lv (pc + 1) (.long (lI (z % 1073741824)) :: st)) : Z k n w lv pc (.long 1073741823 :: .long (lI z) :: st) := z_land h d (z_topl (lI_and30 z) kk)
theorem z_lshr30I (h : Cb Z own cc nL R) {z : Int} (d : decode cc pc = .ok (.lshr, 1)) (hs : -2 ^ 63 ≤ z ∧ z < 2 ^ 63) (kk : Z k n w lv (pc + 1) (.long (lI (z / 1073741824)) :: st)) : Z k n w lv pc (.int 30 :: .long (lI z) :: st) := z_lshr h d (z_topl (lI_shr30 hs.1 hs.2) kk)
theorem z_l2iI (h : Cb Z own cc nL R) {z : Int} (d : decode cc pc = .ok (.l2i, 1)) (kk : Z k n w lv (pc + 1) (.int (iI z) :: st)) : Z k n w lv pc (.long (lI z) :: st) := z_l2i h d (z_topi (lI_i z) kk)
theorem z_l2iM (h : Cb Z own cc nL R) {z : Int} (d : decode cc pc = .ok (.l2i, 1)) (kk : Z k n w lv (pc + 1) (.int (nI (z % 1073741824).toNat) :: st)) : Z k n w lv pc (.long (lI (z % 1073741824)) :: st) := z_l2i h d (z_topi (by rw [lI_i, nI_iI, emod_nat]) kk)
end ZN2
/-! bits of a number -/
def bl (x : Nat) : Nat := if x = 0 then 0 else Nat.log2 x + 1
theorem bl_pos {x : Nat} (h : 0 < x) : bl x = Nat.log2 x + 1 := if_neg (by omega)
theorem bl_lt {x k : Nat} (h : x < 2 ^ k) : bl x ≤ k := by
  unfold bl
  split
  · exact Nat.zero_le _
  · rename_i h0
    have := (Nat.log2_lt h0).mpr h
    omega
theorem bl_ub (x : Nat) : x < 2 ^ bl x := by
  unfold bl
  split
  · rename_i h; rw [h]; decide
  · exact Nat.lt_log2_self
theorem bl_lb {x : Nat} (h : 0 < x) : 2 ^ (bl x - 1) ≤ x := by
  rw [bl_pos h]
  exact Nat.log2_self_le (by omega)
theorem bl_eq {x k : Nat} (h1 : 2 ^ k ≤ x) (h2 : x < 2 ^ (k + 1)) : bl x = k + 1 := by
  have h0 : 0 < x := Nat.lt_of_lt_of_le (Nat.pow_pos (by decide)) h1
  have a1 := bl_lt h2
  have a2 : k < bl x := by
    apply Nat.lt_of_not_le
    intro q
    have a3 := bl_ub x
    have a4 : 2 ^ bl x ≤ 2 ^ k := Nat.pow_le_pow_right (by decide) q
    omega
  omega
theorem bl_div {x k : Nat} (h : 2 ^ k ≤ x) : bl x = bl (x / 2 ^ k) + k := by
  have hp : 0 < 2 ^ k := Nat.pow_pos (by decide)
  have h0 : 0 < x / 2 ^ k := Nat.div_pos h hp
  have a1 := bl_lb h0
  have a2 := bl_ub (x / 2 ^ k)
  have a3 : 1 ≤ bl (x / 2 ^ k) := by rw [bl_pos h0]; omega
  have e : bl (x / 2 ^ k) + k = (bl (x / 2 ^ k) - 1 + k) + 1 := by omega
  rw [e]
  apply bl_eq
  · rw [Nat.pow_add]
    exact Nat.le_trans (Nat.mul_le_mul_right _ a1) (Nat.div_mul_le_self x (2 ^ k))
  · rw [show bl (x / 2 ^ k) - 1 + k + 1 = bl (x / 2 ^ k) + k by omega, Nat.pow_add]
    exact (Nat.div_lt_iff_lt_mul hp).mp a2
theorem bl_small4 : ∀ x, x < 4 → 0 < x → bl x = 1 + x / 2 := by decide +kernel
theorem bl_small (x : Nat) (h1 : 0 < x) (h2 : x < 4) : bl x = 1 + x / 2 := bl_small4 x h2 h1
theorem bl_ge1 {x : Nat} (h : 0 < x) : 1 ≤ bl x := by rw [bl_pos h]; omega
end
section
/-! DigitMill$Whole: the small ones -/
set_option maxRecDepth 100000 in
set_option maxHeartbeats 4000000 in
theorem ms_H_limbAt (N s i : Nat) (a : Nat → Nat) (hN : N < 2 ^ 31) (hs : s ≤ N) (hi : i < 2 ^ 31) : MS y_H_limbAt c_H_limbAt 2 (some .int) (rm 1) [.ref 0, .int (nI i)] [wh 1 s, ar N a] (zP (X := Unit) (fun _ => some (.int (nI (if i < s then a i else 0)))) (fun _ => [wh 1 s, ar N a]) (fun _ => True)) := by
  refine MS_of (own := R_H) (by decide) rfl (fun _ => Nat.le_of_ble_eq_true rfl) (fun Z h hr => ?_)
  refine z_iload_n h d_H_limbAt_0 rfl ?_
  refine z_aload_n h d_H_limbAt_1 rfl ?_
  refine z_get (C := R_H) (T := F_H) (N := 2) h 1 d_H_limbAt_2 in_H rfl (by decide) wf_H_15 rfl rfl ?_
  refine z_icmp_geN (tgt := 17) h d_H_limbAt_5 (by decide) (by omega) (fun c_5 => ?_) (fun c_5 => ?_)
  · refine z_iconst (v := nI 0) h d_H_limbAt_17 (by decide) ?_
    refine hr.1 _ _ _ _ _ _ (Nat.le_refl _) (Nat.le_refl _) rfl d_H_limbAt_18 ?_
    exact ⟨(), by rw [if_neg (by omega)], rfl, trivial⟩
  · refine z_aload_n h d_H_limbAt_8 rfl ?_
    refine z_get (C := R_H) (T := F_H) (N := 2) h 0 d_H_limbAt_9 in_H rfl (by decide) wf_H_9 rfl rfl ?_
    refine z_iload_n h d_H_limbAt_12 rfl ?_
    refine z_ialoadN h d_H_limbAt_13 rfl (by omega) ?_
    refine z_goto (tgt := 18) h d_H_limbAt_14 (by decide) ?_
    refine hr.1 _ _ _ _ _ _ (Nat.le_refl _) (Nat.le_refl _) rfl d_H_limbAt_18 ?_
    exact ⟨(), by rw [if_pos (by omega)], rfl, trivial⟩
set_option maxRecDepth 100000 in
set_option maxHeartbeats 4000000 in
theorem ms_H_trim (N s : Nat) (a : Nat → Nat) (hN : N < 2 ^ 31) (hs : s ≤ N) (ha : ∀ j, a j < 2 ^ 31) : MS y_H_trim c_H_trim 1 none (rm 1) [.ref 0] [wh 1 s, ar N a] (zP (X := Unit) (fun _ => none) (fun _ => [wh 1 (trm a s), ar N a]) (fun _ => True)) := by
  refine MS_of (own := R_H) (by decide) rfl (fun _ => Nat.le_of_ble_eq_true rfl) (fun Z h hr => ?_)
  show Z 0 0 [wh 1 s, ar N a] [(0, .ref 0)] 0 []
  induction s with
  | zero =>
    refine z_aload_n h d_H_trim_0 rfl ?_
    refine z_get (C := R_H) (T := F_H) (N := 2) h 1 d_H_trim_1 in_H rfl (by decide) wf_H_15 rfl rfl ?_
    refine z_if_leN (tgt := 34) h d_H_trim_4 (by decide) (by omega) (fun c_4 => ?_) (fun c_4 => ?_)
    · refine hr.2.2.2.1 _ _ _ _ _ (Nat.le_refl _) (Nat.le_refl _) rfl d_H_trim_34 ?_
      exact ⟨(), rfl, rfl, trivial⟩
    · exact absurd c_4 (by omega)
  | succ s ih =>
    refine z_aload_n h d_H_trim_0 rfl ?_
    refine z_get (C := R_H) (T := F_H) (N := 2) h 1 d_H_trim_1 in_H rfl (by decide) wf_H_15 rfl rfl ?_
    refine z_if_leN (tgt := 34) h d_H_trim_4 (by decide) (by omega) (fun c_4 => ?_) (fun c_4 => ?_)
    · exact absurd c_4 (by omega)
    · refine z_aload_n h d_H_trim_7 rfl ?_
      refine z_get (C := R_H) (T := F_H) (N := 2) h 0 d_H_trim_8 in_H rfl (by decide) wf_H_9 rfl rfl ?_
      refine z_aload_n h d_H_trim_11 rfl ?_
      refine z_get (C := R_H) (T := F_H) (N := 2) h 1 d_H_trim_12 in_H rfl (by decide) wf_H_15 rfl rfl ?_
      refine z_iconst (v := nI 1) h d_H_trim_15 (by decide) ?_
      refine z_isubN h d_H_trim_16 (by omega) ?_
      refine z_ialoadN h d_H_trim_17 rfl (by omega) ?_
      rw [Nat.add_sub_cancel]
      have hs18 := ha s
      refine z_if_neN (tgt := 34) h d_H_trim_18 (by decide) (by omega) (fun c_18 => ?_) (fun c_18 => ?_)
      · refine hr.2.2.2.1 _ _ _ _ _ (Nat.le_refl _) (Nat.le_refl _) rfl d_H_trim_34 ?_
        refine ⟨(), rfl, ?_, trivial⟩
        show [wh 1 (s + 1), ar N a] = [wh 1 (if a s = 0 then trm a s else s + 1), ar N a]
        rw [if_neg c_18]
      · refine z_aload_n h d_H_trim_21 rfl ?_
        refine z_dup h d_H_trim_22 rfl ?_
        refine z_get (C := R_H) (T := F_H) (N := 2) h 1 d_H_trim_23 in_H rfl (by decide) wf_H_15 rfl rfl ?_
        refine z_iconst (v := nI 1) h d_H_trim_26 (by decide) ?_
        refine z_isubN h d_H_trim_27 (by omega) ?_
        refine z_put (C := R_H) (T := F_H) (N := 2) (ty := .int) h 1 d_H_trim_28 in_H rfl ft_H_ok n_H (by decide) wf_H_15 rfl rfl rfl rfl rfl (Nat.le_of_ble_eq_true rfl) ?_
        refine z_goto (tgt := 0) h d_H_trim_31 (by decide) ?_
        have et : trm a (s + 1) = trm a s := by show (if a s = 0 then trm a s else s + 1) = _; rw [if_pos c_18]
        rw [et] at hr
        rw [Nat.add_sub_cancel]
        exact ih (by omega) hr
set_option maxRecDepth 100000 in
set_option maxHeartbeats 4000000 in
theorem ms_H_append (N s x : Nat) (a : Nat → Nat) (hN : N < 2 ^ 31) (hs : s ≤ N) (hx : x < 2 ^ 31) : MS y_H_append c_H_append 2 none (rm 1) [.ref 0, .int (nI x)] [wh 1 s, ar N a] (zP (X := Unit) (fun _ => none) (fun _ => [wh 1 (if x = 0 ∨ N ≤ s then s else s + 1), ar N (if x = 0 ∨ N ≤ s then a else un a s x)]) (fun _ => True)) := by
  refine MS_of (own := R_H) (by decide) rfl (fun _ => Nat.le_of_ble_eq_true rfl) (fun Z h hr => ?_)
  refine z_iload_n h d_H_append_0 rfl ?_
  refine z_if_eqN (tgt := 36) h d_H_append_1 (by decide) (by omega) (fun c_1 => ?_) (fun c_1 => ?_)
  · refine hr.2.2.2.1 _ _ _ _ _ (Nat.le_refl _) (Nat.le_refl _) rfl d_H_append_36 ?_
    exact ⟨(), rfl, by rw [if_pos (Or.inl c_1), if_pos (Or.inl c_1)], trivial⟩
  · refine z_aload_n h d_H_append_4 rfl ?_
    refine z_get (C := R_H) (T := F_H) (N := 2) h 1 d_H_append_5 in_H rfl (by decide) wf_H_15 rfl rfl ?_
    refine z_aload_n h d_H_append_8 rfl ?_
    refine z_get (C := R_H) (T := F_H) (N := 2) h 0 d_H_append_9 in_H rfl (by decide) wf_H_9 rfl rfl ?_
    refine z_alenN h d_H_append_12 rfl ?_
    refine z_icmp_geN (tgt := 36) h d_H_append_13 (by decide) (by omega) (fun c_13 => ?_) (fun c_13 => ?_)
    · refine hr.2.2.2.1 _ _ _ _ _ (Nat.le_refl _) (Nat.le_refl _) rfl d_H_append_36 ?_
      exact ⟨(), rfl, by rw [if_pos (Or.inr c_13), if_pos (Or.inr c_13)], trivial⟩
    · refine z_aload_n h d_H_append_16 rfl ?_
      refine z_get (C := R_H) (T := F_H) (N := 2) h 0 d_H_append_17 in_H rfl (by decide) wf_H_9 rfl rfl ?_
      refine z_aload_n h d_H_append_20 rfl ?_
      refine z_get (C := R_H) (T := F_H) (N := 2) h 1 d_H_append_21 in_H rfl (by decide) wf_H_15 rfl rfl ?_
      refine z_iload_n h d_H_append_24 rfl ?_
      refine z_iastoreN h d_H_append_25 rfl (by omega) ?_
      refine z_aload_n h d_H_append_26 rfl ?_
      refine z_dup h d_H_append_27 rfl ?_
      refine z_get (C := R_H) (T := F_H) (N := 2) h 1 d_H_append_28 in_H rfl (by decide) wf_H_15 rfl rfl ?_
      refine z_iconst (v := nI 1) h d_H_append_31 (by decide) ?_
      refine z_iaddN h d_H_append_32 ?_
      refine z_put (C := R_H) (T := F_H) (N := 2) (ty := .int) h 1 d_H_append_33 in_H rfl ft_H_ok n_H (by decide) wf_H_15 rfl rfl rfl rfl rfl (Nat.le_of_ble_eq_true rfl) ?_
      refine hr.2.2.2.1 _ _ _ _ _ (Nat.le_refl _) (Nat.le_refl _) rfl d_H_append_36 ?_
      exact ⟨(), rfl, by rw [if_neg (by omega), if_neg (by omega)]; rfl, trivial⟩
set_option maxRecDepth 100000 in
set_option maxHeartbeats 4000000 in
theorem ms_H_openTop (N s : Nat) (a : Nat → Nat) (hN : N < 2 ^ 31) (hs : s < N) : MS y_H_openTop c_H_openTop 1 none (rm 1) [.ref 0] [wh 1 s, ar N a] (zP (X := Unit) (fun _ => none) (fun _ => [wh 1 s, ar N (un a s 0)]) (fun _ => True)) := by
  refine MS_of (own := R_H) (by decide) rfl (fun _ => Nat.le_of_ble_eq_true rfl) (fun Z h hr => ?_)
  refine z_aload_n h d_H_openTop_0 rfl ?_
  refine z_get (C := R_H) (T := F_H) (N := 2) h 1 d_H_openTop_1 in_H rfl (by decide) wf_H_15 rfl rfl ?_
  refine z_aload_n h d_H_openTop_4 rfl ?_
  refine z_get (C := R_H) (T := F_H) (N := 2) h 0 d_H_openTop_5 in_H rfl (by decide) wf_H_9 rfl rfl ?_
  refine z_alenN h d_H_openTop_8 rfl ?_
  refine z_icmp_geN (tgt := 22) h d_H_openTop_9 (by decide) (by omega) (fun c_9 => ?_) (fun c_9 => ?_)
  · exact absurd c_9 (by omega)
  · refine z_aload_n h d_H_openTop_12 rfl ?_
    refine z_get (C := R_H) (T := F_H) (N := 2) h 0 d_H_openTop_13 in_H rfl (by decide) wf_H_9 rfl rfl ?_
    refine z_aload_n h d_H_openTop_16 rfl ?_
    refine z_get (C := R_H) (T := F_H) (N := 2) h 1 d_H_openTop_17 in_H rfl (by decide) wf_H_15 rfl rfl ?_
    refine z_iconst (v := nI 0) h d_H_openTop_20 (by decide) ?_
    refine z_iastoreN h d_H_openTop_21 rfl (by omega) ?_
    refine hr.2.2.2.1 _ _ _ _ _ (Nat.le_refl _) (Nat.le_refl _) rfl d_H_openTop_22 ?_
    exact ⟨(), rfl, rfl, trivial⟩
set_option maxRecDepth 100000 in
set_option maxHeartbeats 4000000 in
/-- load: limbs of a row, trimmed -/
theorem ms_H_load (N s M t : Nat) (a b : Nat → Nat) (hN : N < 2 ^ 31) (hM : M < 2 ^ 31) (ht : t ≤ M ∧ t ≤ N) (ha : ∀ j, a j < 2 ^ 31) (hb : ∀ j, b j < 2 ^ 31) : MS y_H_load c_H_load 3 none (rm 2) [.ref 0, .ref 2, .int (nI t)] [wh 1 s, ar N a, ar M b] (zP (X := Unit) (fun _ => none) (fun _ => [wh 1 (trm (va_cpy b a 0 0 t) t), ar N (va_cpy b a 0 0 t), ar M b]) (fun _ => True)) := by
  refine MS_of (own := R_H) (by decide) rfl (fun _ => Nat.le_of_ble_eq_true rfl) (fun Z h hr => ?_)
  have e : min t (min M N) = t := by omega
  refine z_aload_n h d_H_load_0 rfl ?_
  refine z_iload_n h d_H_load_1 rfl ?_
  refine z_aload_n h d_H_load_2 rfl ?_
  refine z_alenN h d_H_load_3 rfl ?_
  refine z_aload_n h d_H_load_4 rfl ?_
  refine z_get (C := R_H) (T := F_H) (N := 2) h 0 d_H_load_5 in_H rfl (by decide) wf_H_9 rfl rfl ?_
  refine z_alenN h d_H_load_8 rfl ?_
  refine z_mminN h d_H_load_9 wq_H_25 (by decide) (Nat.le_of_ble_eq_true rfl) (by decide) (by decide) (by omega) ?_
  refine z_mminN h d_H_load_12 wq_H_25 (by decide) (Nat.le_of_ble_eq_true rfl) (by decide) (by decide) (by omega) ?_
  rw [e]
  refine z_put (C := R_H) (T := F_H) (N := 2) (ty := .int) h 1 d_H_load_15 in_H rfl ft_H_ok n_H (by decide) wf_H_15 rfl rfl rfl rfl rfl (Nat.le_of_ble_eq_true rfl) ?_
  refine z_aload_n h d_H_load_18 rfl ?_
  refine z_iconst (v := nI 0) h d_H_load_19 (by decide) ?_
  refine z_aload_n h d_H_load_20 rfl ?_
  refine z_get (C := R_H) (T := F_H) (N := 2) h 0 d_H_load_21 in_H rfl (by decide) wf_H_9 rfl rfl ?_
  refine z_iconst (v := nI 0) h d_H_load_24 (by decide) ?_
  refine z_aload_n h d_H_load_25 rfl ?_
  refine z_get (C := R_H) (T := F_H) (N := 2) h 1 d_H_load_26 in_H rfl (by decide) wf_H_15 rfl rfl ?_
  refine z_copyN h d_H_load_29 wm_H_31 rfl rfl (by omega) (by decide) (Nat.le_of_ble_eq_true rfl) ?_
  refine z_aload_n h d_H_load_32 rfl ?_
  refine z_cV (C := R_H) (ci := 3) h (ms_H_trim N t (va_cpy b a 0 0 t) hN ht.2 (fun j => by unfold va_cpy; split; exact hb _; exact ha _)) (zf_H_trim (by decide)) wm_H_37 wi_H_trim ws_H_trim rfl ⟨_, rfl⟩ d_H_load_33 [0, 1] (by decide) rfl (Nat.le_of_ble_eq_true rfl) rfl (fun _ => rfl) (fun x_33 hx_33 => ?_)
  refine hr.2.2.2.1 _ _ _ _ _ (Nat.le_refl _) (Nat.le_refl _) rfl d_H_load_36 ?_
  exact ⟨(), rfl, rfl, trivial⟩
end
section
/-! DigitMill$Whole: scale, copy, assign -/
set_option maxRecDepth 100000 in
set_option maxHeartbeats 4000000 in
/-- times f, and plus q -/
theorem ms_H_scale (N s v f q : Nat) (a : Nat → Nat) (hN : N < 2 ^ 31) (hR : Rp 1073741824 N a s v) (hf : f ≤ 1073741824) (hq : q < f) (hv : v * f + q < 1073741824 ^ N) : MS y_H_scale c_H_scale 6 none (rm 2) [.ref 0, .int (nI f), .int (nI q)] [wh 1 s, ar N a] (zP (X := (Nat → Nat) × Nat) (fun _ => none) (fun x => [wh 1 x.2, ar N x.1]) (fun x => Rp 1073741824 N x.1 x.2 (v * f + q))) := by
  refine MS_of (own := R_H) (by decide) rfl (fun _ => Nat.le_of_ble_eq_true rfl) (fun Z h hr => ?_)
  obtain ⟨hsN, ha, hnv, htop⟩ := hR
  have L : ∀ (m i c : Nat) (a' : Nat → Nat), i + m = s → (∀ j, a' j < 1073741824) → (∀ j, i ≤ j → a' j = a j) → c < f → nv 1073741824 a' i + c * 1073741824 ^ i = nv 1073741824 a i * f + q → Z 0 0 [wh 1 s, ar N a'] [(0, .ref 0), (1, .int (nI f)), (2, .int (nI q)), (3, .long (lN c)), (5, .int (nI i))] 6 [] := by
    intro m
    induction m with
    | zero =>
      intro i c a' him hb hj hc hval
      obtain rfl : i = s := by omega
      rw [hnv] at hval
      refine z_iload h d_H_scale_6 rfl ?_
      refine z_aload_n h d_H_scale_8 rfl ?_
      refine z_get (C := R_H) (T := F_H) (N := 2) h 1 d_H_scale_9 in_H rfl (by decide) wf_H_15 rfl rfl ?_
      refine z_icmp_geN (tgt := 53) h d_H_scale_12 (by decide) (by omega) (fun c_12 => ?_) (fun c_12 => ?_)
      · refine z_aload_n h d_H_scale_53 rfl ?_
        refine z_lload_n h d_H_scale_54 rfl ?_
        refine z_l2iN h d_H_scale_55 ?_
        refine z_cV (C := R_H) (ci := 3) h (ms_H_append N i c a' hN hsN (by omega)) (zf_H_append (by decide)) wm_H_51 wi_H_append ws_H_append rfl ⟨_, rfl⟩ d_H_scale_56 [0, 1] (by decide) rfl (Nat.le_of_ble_eq_true rfl) rfl (fun _ => rfl) (fun x_56 hx_56 => ?_)
        refine hr.2.2.2.1 _ _ _ _ _ (Nat.le_refl _) (Nat.le_refl _) rfl d_H_scale_59 ?_
        by_cases hc0 : c = 0 ∨ N ≤ i
        · have hc1 : c = 0 := by
            rcases hc0 with e | e
            · exact e
            · rcases Nat.eq_zero_or_pos c with e2 | e2
              · exact e2
              · have e3 : i = N := by omega
                have e4 : 1 * 1073741824 ^ i ≤ c * 1073741824 ^ i := Nat.mul_le_mul_right _ e2
                rw [e3] at e4 hval
                omega
          refine ⟨(a', i), rfl, by rw [if_pos hc0, if_pos hc0]; rfl, hsN, hb, by rw [hc1, Nat.zero_mul] at hval; exact hval, ?_⟩
          rcases htop with e | e
          · exact Or.inl e
          · have e5 : v * 1 ≤ v * f := Nat.mul_le_mul_left _ (by omega)
            exact Or.inr (Nat.le_trans e (by omega))
        · refine ⟨(un a' i c, i + 1), rfl, by rw [if_neg hc0, if_neg hc0]; rfl, by omega, un_lt hb (by omega), by rw [nv_put]; exact hval, Or.inr ?_⟩
          have e4 : 1 * 1073741824 ^ i ≤ c * 1073741824 ^ i := Nat.mul_le_mul_right _ (by omega)
          rw [Nat.add_sub_cancel]
          omega
      · exact absurd c_12 (by omega)
    | succ m ih =>
      intro i c a' him hb hj hc hval
      have hbi := hb i
      have hmul : a' i * f ≤ 1073741823 * f := Nat.mul_le_mul_right _ (by omega)
      have hs_45 : c + a' i * f < 2 ^ 63 := by omega
      refine z_iload h d_H_scale_6 rfl ?_
      refine z_aload_n h d_H_scale_8 rfl ?_
      refine z_get (C := R_H) (T := F_H) (N := 2) h 1 d_H_scale_9 in_H rfl (by decide) wf_H_15 rfl rfl ?_
      refine z_icmp_geN (tgt := 53) h d_H_scale_12 (by decide) (by omega) (fun c_12 => ?_) (fun c_12 => ?_)
      · exact absurd c_12 (by omega)
      · refine z_lload_n h d_H_scale_15 rfl ?_
        refine z_aload_n h d_H_scale_16 rfl ?_
        refine z_get (C := R_H) (T := F_H) (N := 2) h 0 d_H_scale_17 in_H rfl (by decide) wf_H_9 rfl rfl ?_
        refine z_iload h d_H_scale_20 rfl ?_
        refine z_ialoadN h d_H_scale_22 rfl (by omega) ?_
        refine z_i2lN h d_H_scale_23 (by omega) ?_
        refine z_iload_n h d_H_scale_24 rfl ?_
        refine z_i2lN h d_H_scale_25 (by omega) ?_
        refine z_lmulN h d_H_scale_26 ?_
        refine z_laddN h d_H_scale_27 ?_
        refine z_lstore_n h d_H_scale_28 (by decide) ?_
        refine z_aload_n h d_H_scale_29 rfl ?_
        refine z_get (C := R_H) (T := F_H) (N := 2) h 0 d_H_scale_30 in_H rfl (by decide) wf_H_9 rfl rfl ?_
        refine z_iload h d_H_scale_33 rfl ?_
        refine z_lload_n h d_H_scale_35 rfl ?_
        refine z_ldc2_w (v := lN 1073741823) h d_H_scale_36 wv_H_19 ?_
        refine z_land30N h d_H_scale_39 ?_
        refine z_l2iN h d_H_scale_40 ?_
        refine z_iastoreN h d_H_scale_41 rfl (by omega) ?_
        refine z_lload_n h d_H_scale_42 rfl ?_
        refine z_bipush (v := nI 30) h d_H_scale_43 (by decide) ?_
        refine z_lshr30N h d_H_scale_45 hs_45 ?_
        refine z_lstore_n h d_H_scale_46 (by decide) ?_
        refine z_iincN h 1 d_H_scale_47 rfl (by decide) (by decide) ?_
        refine z_goto (tgt := 6) h d_H_scale_50 (by decide) ?_
        refine z_lv (lv' := [(0, .ref 0), (1, .int (nI f)), (2, .int (nI q)), (3, .long (lN ((c + a' i * f) / 1073741824))), (5, .int (nI (i + 1)))]) h rfl ?_
        refine ih (i + 1) ((c + a' i * f) / 1073741824) (un a' i ((c + a' i * f) % 1073741824)) (by omega) (un_lt hb (by omega)) (fun j hj2 => by rw [un_ne (by omega)]; exact hj j (by omega)) (by omega) ?_
        rw [nv_put, nv_s, Nat.pow_succ, Nat.add_assoc, carry_step, hj i (Nat.le_refl i)]
        exact scale_step hval
  refine z_iload_n h d_H_scale_0 rfl ?_
  refine z_i2lN h d_H_scale_1 (by omega) ?_
  refine z_lstore_n h d_H_scale_2 (by decide) ?_
  refine z_iconst (v := nI 0) h d_H_scale_3 (by decide) ?_
  refine z_istore h d_H_scale_4 (by decide) ?_
  refine z_lv (lv' := [(0, .ref 0), (1, .int (nI f)), (2, .int (nI q)), (3, .long (lN q)), (5, .int (nI 0))]) h rfl ?_
  exact L s 0 q a (by omega) ha (fun _ _ => rfl) hq (by simp [nv])
theorem Rp_cpy {N M s v : Nat} {a b : Nat → Nat} (h : Rp 1073741824 M b s v) (hs : s ≤ N) (ha : ∀ j, a j < 1073741824) : Rp 1073741824 N (va_cpy b a 0 0 s) (trm (va_cpy b a 0 0 s) s) v := by
  obtain ⟨-, hb, hv, -⟩ := h
  refine Rp_trm hs (fun j => by unfold va_cpy; split; exact hb _; exact ha _) ?_
  rw [← hv]
  exact nv_congr fun j hj => by unfold va_cpy; rw [if_pos (by omega)]; congr 1; omega
set_option maxRecDepth 100000 in
set_option maxHeartbeats 4000000 in
/-- this becomes the other number -/
theorem ms_H_copy (N s M t v : Nat) (a b : Nat → Nat) (hN : N < 2 ^ 31) (hM : M < 2 ^ 31) (ht : t ≤ N) (ha : ∀ j, a j < 1073741824) (hb : Rp 1073741824 M b t v) : MS y_H_copy c_H_copy 2 none (rm 3) [.ref 0, .ref 2] [wh 1 s, ar N a, wh 3 t, ar M b] (zP (X := (Nat → Nat) × Nat) (fun _ => none) (fun x => [wh 1 x.2, ar N x.1, wh 3 t, ar M b]) (fun x => Rp 1073741824 N x.1 x.2 v)) := by
  refine MS_of (own := R_H) (by decide) rfl (fun _ => Nat.le_of_ble_eq_true rfl) (fun Z h hr => ?_)
  refine z_aload_n h d_H_copy_0 rfl ?_
  refine z_aload_n h d_H_copy_1 rfl ?_
  refine z_get (C := R_H) (T := F_H) (N := 2) h 0 d_H_copy_2 in_H rfl (by decide) wf_H_9 rfl rfl ?_
  refine z_aload_n h d_H_copy_5 rfl ?_
  refine z_get (C := R_H) (T := F_H) (N := 2) h 1 d_H_copy_6 in_H rfl (by decide) wf_H_15 rfl rfl ?_
  refine z_cV (C := R_H) (ci := 3) h (ms_H_load N s M t a b hN hM ⟨hb.1, ht⟩ (fun j => Nat.lt_trans (ha j) (by decide)) (fun j => Nat.lt_trans (hb.2.1 j) (by decide))) (zf_H_load (by decide)) wm_H_21 wi_H_load ws_H_load rfl ⟨_, rfl⟩ d_H_copy_9 [0, 1, 3] (by decide) rfl (Nat.le_of_ble_eq_true rfl) rfl (fun _ => rfl) (fun x_9 hx_9 => ?_)
  refine hr.2.2.2.1 _ _ _ _ _ (Nat.le_refl _) (Nat.le_refl _) rfl d_H_copy_12 ?_
  exact ⟨(va_cpy b a 0 0 t, trm (va_cpy b a 0 0 t) t), rfl, rfl, Rp_cpy hb ht ha⟩
set_option maxRecDepth 100000 in
set_option maxHeartbeats 4000000 in
/-- divided by what is above 0; the answer is what is left -/
theorem ms_H_shrink (N s v f : Nat) (a : Nat → Nat) (hN : N < 2 ^ 31) (hs : s ≤ N) (ha : ∀ j, a j < 1073741824) (hv : nv 1073741824 a s = v) (hf : 0 < f ∧ f ≤ 1073741824) : MS y_H_shrink c_H_shrink 9 (some .int) (rm 2) [.ref 0, .int (nI f)] [wh 1 s, ar N a] (zP (X := (Nat → Nat) × Nat) (fun _ => some (.int (nI (v % f)))) (fun x => [wh 1 x.2, ar N x.1]) (fun x => Rp 1073741824 N x.1 x.2 (v / f))) := by
  refine MS_of (own := R_H) (by decide) rfl (fun _ => Nat.le_of_ble_eq_true rfl) (fun Z h hr => ?_)
  obtain ⟨hf0, hf1⟩ := hf
  have L : ∀ (i r H : Nat) (a' : Nat → Nat), i ≤ s → (∀ j, a' j < 1073741824) → (∀ j, j < i → a' j = a j) → r < f → nv 1073741824 a' s = nv 1073741824 a' i + H * 1073741824 ^ i → v = H * f * 1073741824 ^ i + r * 1073741824 ^ i + nv 1073741824 a i → Z 0 0 [wh 1 s, ar N a'] [(0, .ref 0), (1, .int (nI f)), (2, .long (lN r)), (4, .int (nI i - 1))] 10 [] := by
    intro i
    induction i with
    | zero =>
      intro r q a' hi hb hj hr0 e1 e2
      simp only [nv, Nat.pow_zero, Nat.mul_one, Nat.zero_add, Nat.add_zero] at e1 e2
      refine z_iload h d_H_shrink_10 rfl ?_
      refine z_if_ltD (tgt := 62) h d_H_shrink_12 (by decide) (by omega) (fun c_12 => ?_) (fun y_12 c_12 => ?_)
      · refine z_aload_n h d_H_shrink_62 rfl ?_
        refine z_cV (C := R_H) (ci := 3) h (ms_H_trim N s a' hN hs (fun j => Nat.lt_trans (hb j) (by decide))) (zf_H_trim (by decide)) wm_H_37 wi_H_trim ws_H_trim rfl ⟨_, rfl⟩ d_H_shrink_63 [0, 1] (by decide) rfl (Nat.le_of_ble_eq_true rfl) rfl (fun _ => rfl) (fun x_63 hx_63 => ?_)
        refine z_lload_n h d_H_shrink_66 rfl ?_
        refine z_l2iN h d_H_shrink_67 ?_
        refine hr.1 _ _ _ _ _ _ (Nat.le_refl _) (Nat.le_refl _) rfl d_H_shrink_68 ?_
        have e3 : v / f = q := by rw [e2, Nat.mul_comm q f, Nat.mul_add_div hf0, Nat.div_eq_of_lt hr0, Nat.add_zero]
        have e4 : v % f = r := by rw [e2, Nat.mul_comm q f, Nat.mul_add_mod, Nat.mod_eq_of_lt hr0]
        exact ⟨(a', trm a' s), by rw [e4], rfl, Rp_trm hs hb (by rw [e1, e3])⟩
      · exact absurd c_12 (by omega)
    | succ i ih =>
      intro r q a' hi hb hj hr0 e1 e2
      have hbi := hb i
      have hs_18 : r < 2 ^ 33 := by omega
      have hs_27 : r < 2 ^ 33 ∧ a' i < 1073741824 := by omega
      have hs_34 : r * 1073741824 + a' i < 2 ^ 63 ∧ 0 < f ∧ f < 2 ^ 63 := by omega
      have hlt : (r * 1073741824 + a' i) / f < 1073741824 := by
        rw [Nat.div_lt_iff_lt_mul hf0]
        have : (r + 1) * 1073741824 ≤ f * 1073741824 := Nat.mul_le_mul_right _ (by omega)
        omega
      have hmd := Nat.div_add_mod (r * 1073741824 + a' i) f
      have hml := Nat.mod_lt (r * 1073741824 + a' i) hf0
      have hs_54 : (r * 1073741824 + a' i) / f * f ≤ r * 1073741824 + a' i := Nat.div_mul_le_self _ _
      have em := sub_dm (r * 1073741824 + a' i) f
      have e0 : nI (i + 1) - 1 = nI i := nI_pred i
      refine z_iload h d_H_shrink_10 rfl ?_
      refine z_if_ltD (tgt := 62) h d_H_shrink_12 (by decide) (by omega) (fun c_12 => ?_) (fun y_12 c_12 => ?_)
      · exact absurd c_12 (by omega)
      · rw [e0]
        refine z_lload_n h d_H_shrink_15 rfl ?_
        refine z_bipush (v := nI 30) h d_H_shrink_16 (by decide) ?_
        refine z_lshl30N h d_H_shrink_18 hs_18 ?_
        refine z_aload_n h d_H_shrink_19 rfl ?_
        refine z_get (C := R_H) (T := F_H) (N := 2) h 0 d_H_shrink_20 in_H rfl (by decide) wf_H_9 rfl rfl ?_
        refine z_iload h d_H_shrink_23 rfl ?_
        refine z_ialoadN h d_H_shrink_25 rfl (by omega) ?_
        refine z_i2lN h d_H_shrink_26 (by omega) ?_
        refine z_lorN h d_H_shrink_27 hs_27 ?_
        refine z_lstore h d_H_shrink_28 (by decide) ?_
        refine z_lload h d_H_shrink_30 rfl ?_
        refine z_iload_n h d_H_shrink_32 rfl ?_
        refine z_i2lN h d_H_shrink_33 (by omega) ?_
        refine z_ldivN h d_H_shrink_34 hs_34 ?_
        refine z_lstore h d_H_shrink_35 (by decide) ?_
        refine z_aload_n h d_H_shrink_37 rfl ?_
        refine z_get (C := R_H) (T := F_H) (N := 2) h 0 d_H_shrink_38 in_H rfl (by decide) wf_H_9 rfl rfl ?_
        refine z_iload h d_H_shrink_41 rfl ?_
        refine z_lload h d_H_shrink_43 rfl ?_
        refine z_l2iN h d_H_shrink_45 ?_
        refine z_iastoreN h d_H_shrink_46 rfl (by omega) ?_
        refine z_lload h d_H_shrink_47 rfl ?_
        refine z_lload h d_H_shrink_49 rfl ?_
        refine z_iload_n h d_H_shrink_51 rfl ?_
        refine z_i2lN h d_H_shrink_52 (by omega) ?_
        refine z_lmulN h d_H_shrink_53 ?_
        refine z_lsubN h d_H_shrink_54 hs_54 ?_
        rw [em]
        refine z_lstore_n h d_H_shrink_55 (by decide) ?_
        rw [← e0]
        refine z_iincD h d_H_shrink_56 rfl (by decide) ?_
        refine z_goto (tgt := 10) h d_H_shrink_59 (by decide) ?_
        refine z_lv (lv' := [(0, .ref 0), (1, .int (nI f)), (2, .long (lN ((r * 1073741824 + a' i) % f))), (4, .int (nI i - 1))]) h rfl ?_
        refine ih _ (q * 1073741824 + (r * 1073741824 + a' i) / f) (un a' i ((r * 1073741824 + a' i) / f)) (by omega) (un_lt hb hlt) (fun j hj2 => by rw [un_ne (by omega)]; exact hj j (by omega)) hml ?_ ?_
        · rw [nv_un (Nat.le_refl i)]
          have h9 := nv_upd (B := 1073741824) (a := a') (i := i) (x := (r * 1073741824 + a' i) / f) (s := s) (by omega)
          rw [e1, nv_s, Nat.pow_succ] at h9
          exact shrink_step2 h9
        · rw [e2, nv_s, Nat.pow_succ, ← hj i (by omega)]
          exact shrink_step hmd
  refine z_lconst (v := lN 0) h d_H_shrink_0 (by decide) ?_
  refine z_lstore_n h d_H_shrink_1 (by decide) ?_
  refine z_aload_n h d_H_shrink_2 rfl ?_
  refine z_get (C := R_H) (T := F_H) (N := 2) h 1 d_H_shrink_3 in_H rfl (by decide) wf_H_15 rfl rfl ?_
  refine z_iconst (v := 1) h d_H_shrink_6 (by decide) ?_
  refine z_isub h d_H_shrink_7 ?_
  refine z_istore h d_H_shrink_8 (by decide) ?_
  refine z_lv (lv' := [(0, .ref 0), (1, .int (nI f)), (2, .long (lN 0)), (4, .int (nI s - 1))]) h rfl ?_
  exact L s 0 0 a (Nat.le_refl s) ha (fun _ _ => rfl) hf0 (by omega) (by rw [hv]; omega)
end
section
/-! DigitMill$Whole: assign, zero, order, increase -/
set_option maxRecDepth 100000 in
set_option maxHeartbeats 4000000 in
theorem ms_H_assign (N s v : Nat) (a : Nat → Nat) (hN : 3 ≤ N ∧ N < 2 ^ 31) (ha : ∀ j, a j < 1073741824) (hv : v < 2 ^ 63) : MS y_H_assign c_H_assign 5 none (rm 1) [.ref 0, .long (lN v)] [wh 1 s, ar N a] (zP (X := (Nat → Nat) × Nat) (fun _ => none) (fun x => [wh 1 x.2, ar N x.1]) (fun x => Rp 1073741824 N x.1 x.2 v)) := by
  refine MS_of (own := R_H) (by decide) rfl (fun _ => Nat.le_of_ble_eq_true rfl) (fun Z h hr => ?_)
  have L : ∀ (m i r : Nat) (a' : Nat → Nat), i + m = 3 → r < 1073741824 ^ m → (∀ j, a' j < 1073741824) → v = nv 1073741824 a' i + r * 1073741824 ^ i → (i = 0 ∨ 1073741824 ^ (i - 1) ≤ v) → Z 0 0 [wh 1 i, ar N a'] [(0, .ref 0), (1, .long (lN v)), (3, .long (lN r))] 7 [] := by
    intro m
    induction m with
    | zero =>
      intro i r a' him hr0 hb hval htop
      have hr1 : r = 0 := by rw [Nat.pow_zero] at hr0; omega
      subst hr1
      refine z_lload_n h d_H_assign_7 rfl ?_
      refine z_lconst (v := lN 0) h d_H_assign_8 (by decide) ?_
      refine z_lcmp_leN (tgt := 58) h d_H_assign_9 d_H_assign_10 (by decide) (by omega) (fun c_9 => ?_) (fun c_9 => ?_)
      · refine hr.2.2.2.1 _ _ _ _ _ (Nat.le_refl _) (Nat.le_refl _) rfl d_H_assign_58 ?_
        exact ⟨(a', i), rfl, rfl, by omega, hb, by rw [Nat.zero_mul, Nat.add_zero] at hval; exact hval.symm, htop⟩
      · exact absurd c_9 (by omega)
    | succ m ih =>
      intro i r a' him hr0 hb hval htop
      have hrv : r ≤ v := by
        have : r * 1 ≤ r * 1073741824 ^ i := Nat.mul_le_mul_left _ (Nat.pow_pos (by decide))
        omega
      have hs_53 : r < 2 ^ 63 := by omega
      refine z_lload_n h d_H_assign_7 rfl ?_
      refine z_lconst (v := lN 0) h d_H_assign_8 (by decide) ?_
      refine z_lcmp_leN (tgt := 58) h d_H_assign_9 d_H_assign_10 (by decide) (by omega) (fun c_9 => ?_) (fun c_9 => ?_)
      · have hr1 : r = 0 := by omega
        subst hr1
        refine hr.2.2.2.1 _ _ _ _ _ (Nat.le_refl _) (Nat.le_refl _) rfl d_H_assign_58 ?_
        exact ⟨(a', i), rfl, rfl, by omega, hb, by rw [Nat.zero_mul, Nat.add_zero] at hval; exact hval.symm, htop⟩
      · refine z_aload_n h d_H_assign_13 rfl ?_
        refine z_get (C := R_H) (T := F_H) (N := 2) h 1 d_H_assign_14 in_H rfl (by decide) wf_H_15 rfl rfl ?_
        refine z_aload_n h d_H_assign_17 rfl ?_
        refine z_get (C := R_H) (T := F_H) (N := 2) h 0 d_H_assign_18 in_H rfl (by decide) wf_H_9 rfl rfl ?_
        refine z_alenN h d_H_assign_21 rfl ?_
        refine z_icmp_geN (tgt := 58) h d_H_assign_22 (by decide) (by omega) (fun c_22 => ?_) (fun c_22 => ?_)
        · exact absurd c_22 (by omega)
        · refine z_aload_n h d_H_assign_25 rfl ?_
          refine z_get (C := R_H) (T := F_H) (N := 2) h 0 d_H_assign_26 in_H rfl (by decide) wf_H_9 rfl rfl ?_
          refine z_aload_n h d_H_assign_29 rfl ?_
          refine z_get (C := R_H) (T := F_H) (N := 2) h 1 d_H_assign_30 in_H rfl (by decide) wf_H_15 rfl rfl ?_
          refine z_lload_n h d_H_assign_33 rfl ?_
          refine z_ldc2_w (v := lN 1073741823) h d_H_assign_34 wv_H_19 ?_
          refine z_land30N h d_H_assign_37 ?_
          refine z_l2iN h d_H_assign_38 ?_
          refine z_iastoreN h d_H_assign_39 rfl (by omega) ?_
          refine z_aload_n h d_H_assign_40 rfl ?_
          refine z_dup h d_H_assign_41 rfl ?_
          refine z_get (C := R_H) (T := F_H) (N := 2) h 1 d_H_assign_42 in_H rfl (by decide) wf_H_15 rfl rfl ?_
          refine z_iconst (v := nI 1) h d_H_assign_45 (by decide) ?_
          refine z_iaddN h d_H_assign_46 ?_
          refine z_put (C := R_H) (T := F_H) (N := 2) (ty := .int) h 1 d_H_assign_47 in_H rfl ft_H_ok n_H (by decide) wf_H_15 rfl rfl rfl rfl rfl (Nat.le_of_ble_eq_true rfl) ?_
          refine z_lload_n h d_H_assign_50 rfl ?_
          refine z_bipush (v := nI 30) h d_H_assign_51 (by decide) ?_
          refine z_lshr30N h d_H_assign_53 hs_53 ?_
          refine z_lstore_n h d_H_assign_54 (by decide) ?_
          refine z_goto (tgt := 7) h d_H_assign_55 (by decide) ?_
          refine z_lv (lv' := [(0, .ref 0), (1, .long (lN v)), (3, .long (lN (r / 1073741824)))]) h rfl ?_
          refine ih (i + 1) (r / 1073741824) (un a' i (r % 1073741824)) (by omega) ?_ (un_lt hb (by omega)) ?_ (Or.inr ?_)
          · rw [Nat.div_lt_iff_lt_mul (by decide), ← Nat.pow_succ]
            exact hr0
          · rw [nv_put, Nat.pow_succ, Nat.add_assoc, carry_step]
            exact hval
          · have : 1 * 1073741824 ^ i ≤ r * 1073741824 ^ i := Nat.mul_le_mul_right _ (by omega)
            rw [Nat.add_sub_cancel]
            omega
  refine z_aload_n h d_H_assign_0 rfl ?_
  refine z_iconst (v := nI 0) h d_H_assign_1 (by decide) ?_
  refine z_put (C := R_H) (T := F_H) (N := 2) (ty := .int) h 1 d_H_assign_2 in_H rfl ft_H_ok n_H (by decide) wf_H_15 rfl rfl rfl rfl rfl (Nat.le_of_ble_eq_true rfl) ?_
  refine z_lload_n h d_H_assign_5 rfl ?_
  refine z_lstore_n h d_H_assign_6 (by decide) ?_
  refine z_lv (lv' := [(0, .ref 0), (1, .long (lN v)), (3, .long (lN v))]) h rfl ?_
  exact L 3 0 v a rfl (by omega) ha (by simp [nv]) (Or.inl rfl)
set_option maxRecDepth 100000 in
set_option maxHeartbeats 4000000 in
theorem ms_JA_rangeCheck (N p q : Nat) (h1 : p ≤ q) (h2 : q ≤ N) (hN : N < 2 ^ 31) (w : List va_E) : MS y_JA_rangeCheck c_JA_rangeCheck 3 none (rm 1) [.int (nI N), .int (nI p), .int (nI q)] w (zP (X := Unit) (fun _ => none) (fun _ => w) (fun _ => True)) := by
  refine MS_of (own := "java/util/Arrays") (by decide) rfl (fun _ => Nat.le_of_ble_eq_true rfl) (fun Z h hr => ?_)
  refine z_iload_n h d_JA_rangeCheck_0 rfl ?_
  refine z_iload_n h d_JA_rangeCheck_1 rfl ?_
  refine z_icmp_leN (tgt := 46) h d_JA_rangeCheck_2 (by decide) (by omega) (fun c_2 => ?_) (fun c_2 => ?_)
  · refine z_iload_n h d_JA_rangeCheck_46 rfl ?_
    refine z_if_ge (tgt := 59) h d_JA_rangeCheck_47 (by decide) (fun c_47 => ?_) (fun c_47 => ?_)
    · refine z_iload_n h d_JA_rangeCheck_59 rfl ?_
      refine z_iload_n h d_JA_rangeCheck_60 rfl ?_
      refine z_icmp_leN (tgt := 73) h d_JA_rangeCheck_61 (by decide) (by omega) (fun c_61 => ?_) (fun c_61 => ?_)
      · refine hr.2.2.2.1 _ _ _ _ _ (Nat.le_refl _) (Nat.le_refl _) rfl d_JA_rangeCheck_73 ?_
        exact ⟨(), rfl, rfl, trivial⟩
      · exact absurd c_61 (by omega)
    · exact absurd (nI_pos' (by omega)) c_47
  · exact absurd c_2 (by omega)
set_option maxRecDepth 100000 in
set_option maxHeartbeats 4000000 in
theorem ms_JA_fillI (N p q x : Nat) (a : Nat → Nat) (h1 : p ≤ q) (h2 : q ≤ N) (hN : N < 2 ^ 31) : MS y_JA_fillI c_JA_fillI 5 none (rm 2) [.ref 0, .int (nI p), .int (nI q), .int (nI x)] [ar N a] (zP (X := Unit) (fun _ => none) (fun _ => [ar N (fil a p q x)]) (fun _ => True)) := by
  refine MS_of (own := "java/util/Arrays") (by decide) rfl (fun _ => Nat.le_of_ble_eq_true rfl) (fun Z h hr => ?_)
  have L : ∀ (m i : Nat), i + m = q → p ≤ i → Z 0 0 [ar N (fil a p i x)] [(0, .ref 0), (1, .int (nI p)), (2, .int (nI q)), (3, .int (nI x)), (4, .int (nI i))] 10 [] := by
    intro m
    induction m with
    | zero =>
      intro i him hi
      obtain rfl : i = q := by omega
      refine z_iload h d_JA_fillI_10 rfl ?_
      refine z_iload_n h d_JA_fillI_12 rfl ?_
      refine z_icmp_geN (tgt := 27) h d_JA_fillI_13 (by decide) (by omega) (fun c_13 => ?_) (fun c_13 => ?_)
      · refine hr.2.2.2.1 _ _ _ _ _ (Nat.le_refl _) (Nat.le_refl _) rfl d_JA_fillI_27 ?_
        exact ⟨(), rfl, rfl, trivial⟩
      · exact absurd c_13 (by omega)
    | succ m ih =>
      intro i him hi
      refine z_iload h d_JA_fillI_10 rfl ?_
      refine z_iload_n h d_JA_fillI_12 rfl ?_
      refine z_icmp_geN (tgt := 27) h d_JA_fillI_13 (by decide) (by omega) (fun c_13 => ?_) (fun c_13 => ?_)
      · exact absurd c_13 (by omega)
      · refine z_aload_n h d_JA_fillI_16 rfl ?_
        refine z_iload h d_JA_fillI_17 rfl ?_
        refine z_iload_n h d_JA_fillI_19 rfl ?_
        refine z_iastoreN h d_JA_fillI_20 rfl (by omega) ?_
        refine z_iincN h 1 d_JA_fillI_21 rfl (by decide) (by decide) ?_
        refine z_goto (tgt := 10) h d_JA_fillI_24 (by decide) ?_
        refine z_lv (lv' := [(0, .ref 0), (1, .int (nI p)), (2, .int (nI q)), (3, .int (nI x)), (4, .int (nI (i + 1)))]) h rfl ?_
        refine z_w (w' := [ar N (fil a p (i + 1) x)]) ?_ (ih (i + 1) (by omega) (by omega))
        rw [← un_fil hi]
        rfl
  refine z_aload_n h d_JA_fillI_0 rfl ?_
  refine z_alenN h d_JA_fillI_1 rfl ?_
  refine z_iload_n h d_JA_fillI_2 rfl ?_
  refine z_iload_n h d_JA_fillI_3 rfl ?_
  refine z_cS h (ms_JA_rangeCheck N p q h1 h2 hN []) (zf_JA_rangeCheck (by decide)) wm_JA_13 wt_JA_rangeCheck d_JA_fillI_4 [] (by decide) rfl (Nat.le_of_ble_eq_true rfl) rfl (fun _ => rfl) (fun x_4 hx_4 => ?_)
  refine z_iload_n h d_JA_fillI_7 rfl ?_
  refine z_istore h d_JA_fillI_8 (by decide) ?_
  refine z_lv (lv' := [(0, .ref 0), (1, .int (nI p)), (2, .int (nI q)), (3, .int (nI x)), (4, .int (nI p))]) h rfl ?_
  refine z_w (w' := [ar N (fil a p p x)]) ?_ (L (q - p) p (by omega) (Nat.le_refl p))
  rw [fil_0]
  rfl
set_option maxRecDepth 100000 in
set_option maxHeartbeats 4000000 in
theorem ms_H_zero (N s t : Nat) (a : Nat → Nat) (hN : N < 2 ^ 31) (ht : t ≤ N) : MS y_H_zero c_H_zero 2 none (rm 3) [.ref 0, .int (nI t)] [wh 1 s, ar N a] (zP (X := Unit) (fun _ => none) (fun _ => [wh 1 t, ar N (fil a 0 t 0)]) (fun _ => True)) := by
  refine MS_of (own := R_H) (by decide) rfl (fun _ => Nat.le_of_ble_eq_true rfl) (fun Z h hr => ?_)
  have e : min t N = t := by omega
  refine z_aload_n h d_H_zero_0 rfl ?_
  refine z_iload_n h d_H_zero_1 rfl ?_
  refine z_aload_n h d_H_zero_2 rfl ?_
  refine z_get (C := R_H) (T := F_H) (N := 2) h 0 d_H_zero_3 in_H rfl (by decide) wf_H_9 rfl rfl ?_
  refine z_alenN h d_H_zero_6 rfl ?_
  refine z_mminN h d_H_zero_7 wq_H_25 (by decide) (Nat.le_of_ble_eq_true rfl) (by decide) (by decide) (by omega) ?_
  rw [e]
  refine z_put (C := R_H) (T := F_H) (N := 2) (ty := .int) h 1 d_H_zero_10 in_H rfl ft_H_ok n_H (by decide) wf_H_15 rfl rfl rfl rfl rfl (Nat.le_of_ble_eq_true rfl) ?_
  refine z_aload_n h d_H_zero_13 rfl ?_
  refine z_get (C := R_H) (T := F_H) (N := 2) h 0 d_H_zero_14 in_H rfl (by decide) wf_H_9 rfl rfl ?_
  refine z_iconst (v := nI 0) h d_H_zero_17 (by decide) ?_
  refine z_aload_n h d_H_zero_18 rfl ?_
  refine z_get (C := R_H) (T := F_H) (N := 2) h 1 d_H_zero_19 in_H rfl (by decide) wf_H_15 rfl rfl ?_
  refine z_iconst (v := nI 0) h d_H_zero_22 (by decide) ?_
  refine z_cS h (ms_JA_fillI N 0 t 0 a (Nat.zero_le t) ht hN) (zf_JA_fillI (by decide)) wm_H_69 wt_JA_fillI d_H_zero_23 [1] (by decide) rfl (Nat.le_of_ble_eq_true rfl) rfl (fun _ => rfl) (fun x_23 hx_23 => ?_)
  refine hr.2.2.2.1 _ _ _ _ _ (Nat.le_refl _) (Nat.le_refl _) rfl d_H_zero_26 ?_
  exact ⟨(), rfl, rfl, trivial⟩
set_option maxRecDepth 100000 in
set_option maxHeartbeats 4000000 in
/-- -1, 0 or 1 -/
theorem ms_H_order (N s M t v u : Nat) (a b : Nat → Nat) (hN : N < 2 ^ 31) (hM : M < 2 ^ 31) (ha : Rp 1073741824 N a s v) (hb : Rp 1073741824 M b t u) : MS y_H_order c_H_order 3 (some .int) (rm 1) [.ref 0, .ref 2] [wh 1 s, ar N a, wh 3 t, ar M b] (zP (X := Unit) (fun _ => some (.int (ordI v u))) (fun _ => [wh 1 s, ar N a, wh 3 t, ar M b]) (fun _ => True)) := by
  refine MS_of (own := R_H) (by decide) rfl (fun _ => Nat.le_of_ble_eq_true rfl) (fun Z h hr => ?_)
  have hs := ha.1
  have ht := hb.1
  refine z_aload_n h d_H_order_0 rfl ?_
  refine z_get (C := R_H) (T := F_H) (N := 2) h 1 d_H_order_1 in_H rfl (by decide) wf_H_15 rfl rfl ?_
  refine z_aload_n h d_H_order_4 rfl ?_
  refine z_get (C := R_H) (T := F_H) (N := 2) h 1 d_H_order_5 in_H rfl (by decide) wf_H_15 rfl rfl ?_
  refine z_icmp_eqN (tgt := 28) h d_H_order_8 (by decide) (by omega) (fun c_8 => ?_) (fun c_8 => ?_)
  · obtain rfl : s = t := c_8
    have L : ∀ i, i ≤ s → (∀ j, i ≤ j → j < s → a j = b j) → Z 0 0 [wh 1 s, ar N a, wh 3 s, ar M b] [(0, .ref 0), (1, .ref 2), (2, .int (nI i - 1))] 35 [] := by
      intro i
      induction i with
      | zero =>
        intro _ hj
        refine z_iload_n h d_H_order_35 rfl ?_
        refine z_if_ltD (tgt := 81) h d_H_order_36 (by decide) (by omega) (fun c_36 => ?_) (fun y_36 c_36 => ?_)
        · refine z_iconst (v := nI 0) h d_H_order_81 (by decide) ?_
          refine hr.1 _ _ _ _ _ _ (Nat.le_refl _) (Nat.le_refl _) rfl d_H_order_82 ?_
          have e : v = u := by rw [← ha.2.2.1, ← hb.2.2.1]; exact nv_congr fun j q => hj j (Nat.zero_le j) q
          exact ⟨(), by rw [ordI, if_neg (by omega), if_pos e]; rfl, rfl, trivial⟩
        · exact absurd c_36 (by omega)
      | succ i ih =>
        intro hi hj
        have e0 : nI (i + 1) - 1 = nI i := nI_pred i
        have hai := ha.2.1 i
        have hbi := hb.2.1 i
        refine z_iload_n h d_H_order_35 rfl ?_
        refine z_if_ltD (tgt := 81) h d_H_order_36 (by decide) (by omega) (fun c_36 => ?_) (fun y_36 c_36 => ?_)
        · exact absurd c_36 (by omega)
        · rw [e0]
          refine z_aload_n h d_H_order_39 rfl ?_
          refine z_get (C := R_H) (T := F_H) (N := 2) h 0 d_H_order_40 in_H rfl (by decide) wf_H_9 rfl rfl ?_
          refine z_iload_n h d_H_order_43 rfl ?_
          refine z_ialoadN h d_H_order_44 rfl (by omega) ?_
          refine z_aload_n h d_H_order_45 rfl ?_
          refine z_get (C := R_H) (T := F_H) (N := 2) h 0 d_H_order_46 in_H rfl (by decide) wf_H_9 rfl rfl ?_
          refine z_iload_n h d_H_order_49 rfl ?_
          refine z_ialoadN h d_H_order_50 rfl (by omega) ?_
          refine z_icmp_eqN (tgt := 75) h d_H_order_51 (by decide) (by omega) (fun c_51 => ?_) (fun c_51 => ?_)
          · rw [← e0]
            refine z_iincD h d_H_order_75 rfl (by decide) ?_
            refine z_goto (tgt := 35) h d_H_order_78 (by decide) ?_
            refine z_lv (lv' := [(0, .ref 0), (1, .ref 2), (2, .int (nI i - 1))]) h rfl (ih (by omega) (fun j q1 q2 => ?_))
            by_cases e : j = i
            · rw [e]; exact c_51
            · exact hj j (by omega) q2
          · refine z_aload_n h d_H_order_54 rfl ?_
            refine z_get (C := R_H) (T := F_H) (N := 2) h 0 d_H_order_55 in_H rfl (by decide) wf_H_9 rfl rfl ?_
            refine z_iload_n h d_H_order_58 rfl ?_
            refine z_ialoadN h d_H_order_59 rfl (by omega) ?_
            refine z_aload_n h d_H_order_60 rfl ?_
            refine z_get (C := R_H) (T := F_H) (N := 2) h 0 d_H_order_61 in_H rfl (by decide) wf_H_9 rfl rfl ?_
            refine z_iload_n h d_H_order_64 rfl ?_
            refine z_ialoadN h d_H_order_65 rfl (by omega) ?_
            refine z_icmp_geN (tgt := 73) h d_H_order_66 (by decide) (by omega) (fun c_66 => ?_) (fun c_66 => ?_)
            · refine z_iconst (v := nI 1) h d_H_order_73 (by decide) ?_
              refine hr.1 _ _ _ _ _ _ (Nat.le_refl _) (Nat.le_refl _) rfl d_H_order_74 ?_
              have e : u < v := by rw [← ha.2.2.1, ← hb.2.2.1]; exact nv_cmp (i := i) hb.2.1 (by omega) (by omega) (fun j q1 q2 => (hj j (by omega) q2).symm)
              exact ⟨(), by rw [ordI, if_neg (by omega), if_neg (by omega)]; rfl, rfl, trivial⟩
            · refine z_iconst (v := (-1)) h d_H_order_69 (by decide) ?_
              refine z_goto (tgt := 74) h d_H_order_70 (by decide) ?_
              refine hr.1 _ _ _ _ _ _ (Nat.le_refl _) (Nat.le_refl _) rfl d_H_order_74 ?_
              have e : v < u := by rw [← ha.2.2.1, ← hb.2.2.1]; exact nv_cmp ha.2.1 c_66 (by omega) (fun j q1 q2 => hj j (by omega) q2)
              exact ⟨(), by rw [ordI, if_pos e], rfl, trivial⟩
    refine z_aload_n h d_H_order_28 rfl ?_
    refine z_get (C := R_H) (T := F_H) (N := 2) h 1 d_H_order_29 in_H rfl (by decide) wf_H_15 rfl rfl ?_
    refine z_iconst (v := 1) h d_H_order_32 (by decide) ?_
    refine z_isub h d_H_order_33 ?_
    refine z_istore_n h d_H_order_34 (by decide) ?_
    refine z_lv (lv' := [(0, .ref 0), (1, .ref 2), (2, .int (nI s - 1))]) h rfl (L s (Nat.le_refl s) (fun j q1 q2 => absurd q1 (by omega)))
  · refine z_aload_n h d_H_order_11 rfl ?_
    refine z_get (C := R_H) (T := F_H) (N := 2) h 1 d_H_order_12 in_H rfl (by decide) wf_H_15 rfl rfl ?_
    refine z_aload_n h d_H_order_15 rfl ?_
    refine z_get (C := R_H) (T := F_H) (N := 2) h 1 d_H_order_16 in_H rfl (by decide) wf_H_15 rfl rfl ?_
    refine z_icmp_geN (tgt := 26) h d_H_order_19 (by decide) (by omega) (fun c_19 => ?_) (fun c_19 => ?_)
    · refine z_iconst (v := nI 1) h d_H_order_26 (by decide) ?_
      refine hr.1 _ _ _ _ _ _ (Nat.le_refl _) (Nat.le_refl _) rfl d_H_order_27 ?_
      have e : u < v := Rp_size (by decide) hb ha (by omega)
      exact ⟨(), by rw [ordI, if_neg (by omega), if_neg (by omega)]; rfl, rfl, trivial⟩
    · refine z_iconst (v := (-1)) h d_H_order_22 (by decide) ?_
      refine z_goto (tgt := 27) h d_H_order_23 (by decide) ?_
      refine hr.1 _ _ _ _ _ _ (Nat.le_refl _) (Nat.le_refl _) rfl d_H_order_27 ?_
      have e : v < u := Rp_size (by decide) ha hb (by omega)
      exact ⟨(), by rw [ordI, if_pos e], rfl, trivial⟩
set_option maxRecDepth 100000 in
set_option maxHeartbeats 4000000 in
theorem ms_H_increase (N s M t v u : Nat) (a b : Nat → Nat) (hN : N < 2 ^ 31) (hM : M < 2 ^ 31) (ha : Rp 1073741824 N a s v) (hb : Rp 1073741824 M b t u) (ht : t ≤ N) (hv : v + u < 1073741824 ^ N) : MS y_H_increase c_H_increase 6 none (rm 2) [.ref 0, .ref 2] [wh 1 s, ar N a, wh 3 t, ar M b] (zP (X := (Nat → Nat) × Nat) (fun _ => none) (fun x => [wh 1 x.2, ar N x.1, wh 3 t, ar M b]) (fun x => Rp 1073741824 N x.1 x.2 (v + u))) := by
  refine MS_of (own := R_H) (by decide) rfl (fun _ => Nat.le_of_ble_eq_true rfl) (fun Z h hr => ?_)
  obtain ⟨hs, ha1, ha2, ha3⟩ := ha
  obtain ⟨ht1, hb1, hb2, hb3⟩ := hb
  have e : min (max s t) N = max s t := by omega
  have L : ∀ (m i c : Nat) (a' : Nat → Nat), i + m = max s t → (∀ j, a' j < 1073741824) → (∀ j, i ≤ j → a' j = a j) → c ≤ 1 → nv 1073741824 a' i + c * 1073741824 ^ i = nv 1073741824 (lim a s) i + nv 1073741824 (lim b t) i → Z 0 0 [wh 1 s, ar N a', wh 3 t, ar M b] [(0, .ref 0), (1, .ref 2), (2, .int (nI (max s t))), (3, .int (nI c)), (4, .int (nI i))] 25 [] := by
    intro m
    induction m with
    | zero =>
      intro i c a' him hb' hj hc hval
      obtain rfl : i = max s t := by omega
      rw [lim_nv (by omega), lim_nv (by omega), ha2, hb2] at hval
      refine z_iload h d_H_increase_25 rfl ?_
      refine z_iload_n h d_H_increase_27 rfl ?_
      refine z_icmp_geN (tgt := 72) h d_H_increase_28 (by decide) (by omega) (fun c_28 => ?_) (fun c_28 => ?_)
      · refine z_aload_n h d_H_increase_72 rfl ?_
        refine z_iload_n h d_H_increase_73 rfl ?_
        refine z_put (C := R_H) (T := F_H) (N := 2) (ty := .int) h 1 d_H_increase_74 in_H rfl ft_H_ok n_H (by decide) wf_H_15 rfl rfl rfl rfl rfl (Nat.le_of_ble_eq_true rfl) ?_
        refine z_aload_n h d_H_increase_77 rfl ?_
        refine z_iload_n h d_H_increase_78 rfl ?_
        refine z_cV (C := R_H) (ci := 3) h (ms_H_append N (max s t) c a' hN (by omega) (by omega)) (zf_H_append (by decide)) wm_H_51 wi_H_append ws_H_append rfl ⟨_, rfl⟩ d_H_increase_79 [0, 1] (by decide) rfl (Nat.le_of_ble_eq_true rfl) rfl (fun _ => rfl) (fun x_79 hx_79 => ?_)
        refine hr.2.2.2.1 _ _ _ _ _ (Nat.le_refl _) (Nat.le_refl _) rfl d_H_increase_82 ?_
        by_cases hc0 : c = 0 ∨ N ≤ max s t
        · have hc1 : c = 0 := by
            rcases hc0 with e | e
            · exact e
            · rcases Nat.eq_zero_or_pos c with e2 | e2
              · exact e2
              · have e3 : max s t = N := by omega
                have e4 : 1 * 1073741824 ^ (max s t) ≤ c * 1073741824 ^ (max s t) := Nat.mul_le_mul_right _ e2
                rw [e3] at e4 hval
                omega
          refine ⟨(a', max s t), rfl, by rw [if_pos hc0, if_pos hc0]; rfl, by omega, hb', by rw [hc1, Nat.zero_mul] at hval; exact hval, ?_⟩
          show max s t = 0 ∨ 1073741824 ^ (max s t - 1) ≤ v + u
          rcases Nat.le_total s t with q | q
          · rw [Nat.max_eq_right q]
            rcases hb3 with e | e
            · exact Or.inl e
            · exact Or.inr (Nat.le_trans e (by omega))
          · rw [Nat.max_eq_left q]
            rcases ha3 with e | e
            · exact Or.inl e
            · exact Or.inr (Nat.le_trans e (by omega))
        · refine ⟨(un a' (max s t) c, max s t + 1), rfl, by rw [if_neg hc0, if_neg hc0]; rfl, by omega, un_lt hb' (by omega), by rw [nv_put]; exact hval, Or.inr ?_⟩
          have e4 : 1 * 1073741824 ^ (max s t) ≤ c * 1073741824 ^ (max s t) := Nat.mul_le_mul_right _ (by omega)
          show 1073741824 ^ (max s t + 1 - 1) ≤ v + u
          rw [Nat.add_sub_cancel]
          omega
      · exact absurd c_28 (by omega)
    | succ m ih =>
      intro i c a' him hb' hj hc hval
      have hla : (if i < s then a' i else 0) = lim a s i := by rw [hj i (Nat.le_refl i)]; rfl
      have hlb : (if i < t then b i else 0) = lim b t i := rfl
      have h1 := lim_lt (s := s) (by decide) ha1 i
      have h2 := lim_lt (s := t) (by decide) hb1 i
      have hs_64 : lim a s i + lim b t i + c < 2 ^ 31 := by omega
      refine z_iload h d_H_increase_25 rfl ?_
      refine z_iload_n h d_H_increase_27 rfl ?_
      refine z_icmp_geN (tgt := 72) h d_H_increase_28 (by decide) (by omega) (fun c_28 => ?_) (fun c_28 => ?_)
      · exact absurd c_28 (by omega)
      · refine z_aload_n h d_H_increase_31 rfl ?_
        refine z_iload h d_H_increase_32 rfl ?_
        refine z_cV (C := R_H) (ci := 3) h (ms_H_limbAt N s i a' hN hs (by omega)) (zf_H_limbAt (by decide)) wm_H_47 wi_H_limbAt ws_H_limbAt rfl ⟨_, rfl⟩ d_H_increase_34 [0, 1] (by decide) rfl (Nat.le_of_ble_eq_true rfl) rfl (fun _ => rfl) (fun x_34 hx_34 => ?_)
        rw [hla]
        refine z_aload_n h d_H_increase_37 rfl ?_
        refine z_iload h d_H_increase_38 rfl ?_
        refine z_cV (C := R_H) (ci := 3) h (ms_H_limbAt M t i b hM ht1 (by omega)) (zf_H_limbAt (by decide)) wm_H_47 wi_H_limbAt ws_H_limbAt rfl ⟨_, rfl⟩ d_H_increase_40 [2, 3] (by decide) rfl (Nat.le_of_ble_eq_true rfl) rfl (fun _ => rfl) (fun x_40 hx_40 => ?_)
        rw [hlb]
        refine z_iaddN h d_H_increase_43 ?_
        refine z_iload_n h d_H_increase_44 rfl ?_
        refine z_iaddN h d_H_increase_45 ?_
        refine z_istore h d_H_increase_46 (by decide) ?_
        refine z_aload_n h d_H_increase_48 rfl ?_
        refine z_get (C := R_H) (T := F_H) (N := 2) h 0 d_H_increase_49 in_H rfl (by decide) wf_H_9 rfl rfl ?_
        refine z_iload h d_H_increase_52 rfl ?_
        refine z_iload h d_H_increase_54 rfl ?_
        refine z_ldc (v := nI 1073741823) h d_H_increase_56 wv_H_50 ?_
        refine z_iand30N h d_H_increase_58 ?_
        refine z_iastoreN h d_H_increase_59 rfl (by omega) ?_
        refine z_iload h d_H_increase_60 rfl ?_
        refine z_bipush (v := nI 30) h d_H_increase_62 (by decide) ?_
        refine z_ishr30N h d_H_increase_64 hs_64 ?_
        refine z_istore_n h d_H_increase_65 (by decide) ?_
        refine z_iincN h 1 d_H_increase_66 rfl (by decide) (by decide) ?_
        refine z_goto (tgt := 25) h d_H_increase_69 (by decide) ?_
        refine z_lv (lv' := [(0, .ref 0), (1, .ref 2), (2, .int (nI (max s t))), (3, .int (nI ((lim a s i + lim b t i + c) / 1073741824))), (4, .int (nI (i + 1)))]) h rfl ?_
        refine ih (i + 1) ((lim a s i + lim b t i + c) / 1073741824) (un a' i ((lim a s i + lim b t i + c) % 1073741824)) (by omega) (un_lt hb' (by omega)) (fun j hj2 => by rw [un_ne (by omega)]; exact hj j (by omega)) (by omega) ?_
        rw [nv_put, nv_s, nv_s, Nat.pow_succ, Nat.add_assoc, carry_step]
        exact add_step hval
  refine z_aload_n h d_H_increase_0 rfl ?_
  refine z_get (C := R_H) (T := F_H) (N := 2) h 1 d_H_increase_1 in_H rfl (by decide) wf_H_15 rfl rfl ?_
  refine z_aload_n h d_H_increase_4 rfl ?_
  refine z_get (C := R_H) (T := F_H) (N := 2) h 1 d_H_increase_5 in_H rfl (by decide) wf_H_15 rfl rfl ?_
  refine z_mmaxN h d_H_increase_8 wq_H_44 (by decide) (Nat.le_of_ble_eq_true rfl) (by decide) (by decide) (by omega) ?_
  refine z_aload_n h d_H_increase_11 rfl ?_
  refine z_get (C := R_H) (T := F_H) (N := 2) h 0 d_H_increase_12 in_H rfl (by decide) wf_H_9 rfl rfl ?_
  refine z_alenN h d_H_increase_15 rfl ?_
  refine z_mminN h d_H_increase_16 wq_H_25 (by decide) (Nat.le_of_ble_eq_true rfl) (by decide) (by decide) (by omega) ?_
  rw [e]
  refine z_istore_n h d_H_increase_19 (by decide) ?_
  refine z_iconst (v := nI 0) h d_H_increase_20 (by decide) ?_
  refine z_istore_n h d_H_increase_21 (by decide) ?_
  refine z_iconst (v := nI 0) h d_H_increase_22 (by decide) ?_
  refine z_istore h d_H_increase_23 (by decide) ?_
  refine z_lv (lv' := [(0, .ref 0), (1, .ref 2), (2, .int (nI (max s t))), (3, .int (nI 0)), (4, .int (nI 0))]) h rfl ?_
  exact L (max s t) 0 0 a (by omega) ha1 (fun _ _ => rfl) (by omega) (by simp [nv])
end
section
/-! bits; powers -/
set_option maxRecDepth 100000 in
set_option maxHeartbeats 4000000 in
theorem ms_JI_nlz (x : Nat) (hx : x < 2 ^ 31) : MS y_JI_numberOfLeadingZeros c_JI_numberOfLeadingZeros 2 (some .int) (rm 1) [.int (nI x)] [] (zP (X := Unit) (fun _ => some (.int (nI (32 - bl x)))) (fun _ => []) (fun _ => True)) := by
  refine MS_of (own := "java/lang/Integer") (by decide) rfl (fun _ => Nat.le_of_ble_eq_true rfl) (fun Z h hr => ?_)
  show Z 0 0 [] [(0, .int (nI x))] 0 []
  have J73 : ∀ y q, 0 < y → y < 4 → q ≤ 31 → bl y ≤ q + 1 → bl x = bl y + (31 - q) → Z 0 0 [] [(0, .int (nI y)), (1, .int (nI q))] 73 [] := by
    intro y q h1 h2 h3 h4 h5
    have h6 := bl_small y h1 h2
    refine z_iload_n h d_JI_numberOfLeadingZeros_73 rfl ?_
    refine z_iload_n h d_JI_numberOfLeadingZeros_74 rfl ?_
    refine z_iconst (v := nI 1) h d_JI_numberOfLeadingZeros_75 (by decide) ?_
    refine z_iushrN h d_JI_numberOfLeadingZeros_76 (by omega) ?_
    refine z_isubN h d_JI_numberOfLeadingZeros_77 (by omega) ?_
    refine hr.1 _ _ _ _ _ _ (Nat.le_refl _) (Nat.le_refl _) rfl d_JI_numberOfLeadingZeros_78 ?_
    exact ⟨(), by rw [show q - y / 2 ^ 1 = 32 - bl x by omega], rfl, trivial⟩
  have J61 : ∀ y q, 0 < y → y < 16 → q ≤ 31 → bl y ≤ q + 1 → bl x = bl y + (31 - q) → Z 0 0 [] [(0, .int (nI y)), (1, .int (nI q))] 61 [] := by
    intro y q h1 h2 h3 h4 h5
    refine z_iload_n h d_JI_numberOfLeadingZeros_61 rfl ?_
    refine z_iconst (v := nI 4) h d_JI_numberOfLeadingZeros_62 (by decide) ?_
    refine z_icmp_ltN (tgt := 73) h d_JI_numberOfLeadingZeros_63 (by decide) (by omega) (fun c_63 => ?_) (fun c_63 => ?_)
    · exact J73 y q h1 c_63 h3 h4 h5
    · have e := bl_div (x := y) (k := 2) c_63
      have e2 : 0 < y / 2 ^ 2 := by omega
      have e3 := bl_ge1 e2
      refine z_iincS h 2 d_JI_numberOfLeadingZeros_66 rfl (by decide) (by decide) (by omega) ?_
      refine z_iload_n h d_JI_numberOfLeadingZeros_69 rfl ?_
      refine z_iconst (v := nI 2) h d_JI_numberOfLeadingZeros_70 (by decide) ?_
      refine z_iushrN h d_JI_numberOfLeadingZeros_71 (by omega) ?_
      refine z_istore_n h d_JI_numberOfLeadingZeros_72 (by decide) ?_
      exact z_lv h rfl (J73 (y / 2 ^ 2) (q - 2) e2 (by omega) (by omega) (by omega) (by omega))
  have J48 : ∀ y q, 0 < y → y < 256 → q ≤ 31 → bl y ≤ q + 1 → bl x = bl y + (31 - q) → Z 0 0 [] [(0, .int (nI y)), (1, .int (nI q))] 48 [] := by
    intro y q h1 h2 h3 h4 h5
    refine z_iload_n h d_JI_numberOfLeadingZeros_48 rfl ?_
    refine z_bipush (v := nI 16) h d_JI_numberOfLeadingZeros_49 (by decide) ?_
    refine z_icmp_ltN (tgt := 61) h d_JI_numberOfLeadingZeros_51 (by decide) (by omega) (fun c_51 => ?_) (fun c_51 => ?_)
    · exact J61 y q h1 c_51 h3 h4 h5
    · have e := bl_div (x := y) (k := 4) c_51
      have e2 : 0 < y / 2 ^ 4 := by omega
      have e3 := bl_ge1 e2
      refine z_iincS h 4 d_JI_numberOfLeadingZeros_54 rfl (by decide) (by decide) (by omega) ?_
      refine z_iload_n h d_JI_numberOfLeadingZeros_57 rfl ?_
      refine z_iconst (v := nI 4) h d_JI_numberOfLeadingZeros_58 (by decide) ?_
      refine z_iushrN h d_JI_numberOfLeadingZeros_59 (by omega) ?_
      refine z_istore_n h d_JI_numberOfLeadingZeros_60 (by decide) ?_
      exact z_lv h rfl (J61 (y / 2 ^ 4) (q - 4) e2 (by omega) (by omega) (by omega) (by omega))
  have J33 : ∀ y q, 0 < y → y < 65536 → q ≤ 31 → bl y ≤ q + 1 → bl x = bl y + (31 - q) → Z 0 0 [] [(0, .int (nI y)), (1, .int (nI q))] 33 [] := by
    intro y q h1 h2 h3 h4 h5
    refine z_iload_n h d_JI_numberOfLeadingZeros_33 rfl ?_
    refine z_sipush (v := nI 256) h d_JI_numberOfLeadingZeros_34 (by decide) ?_
    refine z_icmp_ltN (tgt := 48) h d_JI_numberOfLeadingZeros_37 (by decide) (by omega) (fun c_37 => ?_) (fun c_37 => ?_)
    · exact J48 y q h1 c_37 h3 h4 h5
    · have e := bl_div (x := y) (k := 8) c_37
      have e2 : 0 < y / 2 ^ 8 := by omega
      have e3 := bl_ge1 e2
      refine z_iincS h 8 d_JI_numberOfLeadingZeros_40 rfl (by decide) (by decide) (by omega) ?_
      refine z_iload_n h d_JI_numberOfLeadingZeros_43 rfl ?_
      refine z_bipush (v := nI 8) h d_JI_numberOfLeadingZeros_44 (by decide) ?_
      refine z_iushrN h d_JI_numberOfLeadingZeros_46 (by omega) ?_
      refine z_istore_n h d_JI_numberOfLeadingZeros_47 (by decide) ?_
      exact z_lv h rfl (J48 (y / 2 ^ 8) (q - 8) e2 (by omega) (by omega) (by omega) (by omega))
  refine z_iload_n h d_JI_numberOfLeadingZeros_0 rfl ?_
  refine z_if_gtN (tgt := 15) h d_JI_numberOfLeadingZeros_1 (by decide) (by omega) (fun c_1 => ?_) (fun c_1 => ?_)
  · have hb := bl_lt hx
    refine z_bipush (v := nI 31) h d_JI_numberOfLeadingZeros_15 (by decide) ?_
    refine z_istore_n h d_JI_numberOfLeadingZeros_17 (by decide) ?_
    refine z_iload_n h d_JI_numberOfLeadingZeros_18 rfl ?_
    refine z_ldc_w (v := nI 65536) h d_JI_numberOfLeadingZeros_19 wv_JI_264 ?_
    refine z_icmp_ltN (tgt := 33) h d_JI_numberOfLeadingZeros_22 (by decide) (by omega) (fun c_22 => ?_) (fun c_22 => ?_)
    · exact z_lv h rfl (J33 x 31 c_1 c_22 (by omega) (by omega) (by omega))
    · have e := bl_div (x := x) (k := 16) c_22
      have e2 : 0 < x / 2 ^ 16 := by omega
      have e3 := bl_ge1 e2
      refine z_iincS h 16 d_JI_numberOfLeadingZeros_25 rfl (by decide) (by decide) (by omega) ?_
      refine z_iload_n h d_JI_numberOfLeadingZeros_28 rfl ?_
      refine z_bipush (v := nI 16) h d_JI_numberOfLeadingZeros_29 (by decide) ?_
      refine z_iushrN h d_JI_numberOfLeadingZeros_31 (by omega) ?_
      refine z_istore_n h d_JI_numberOfLeadingZeros_32 (by decide) ?_
      exact z_lv h rfl (J33 (x / 2 ^ 16) (31 - 16) e2 (by omega) (by omega) (by omega) (by omega))
  · subst c_1
    refine z_iload_n h d_JI_numberOfLeadingZeros_4 rfl ?_
    refine z_if_neN (tgt := 13) h d_JI_numberOfLeadingZeros_5 (by decide) (by omega) (fun c_5 => ?_) (fun c_5 => ?_)
    · exact absurd rfl c_5
    · refine z_bipush (v := nI 32) h d_JI_numberOfLeadingZeros_8 (by decide) ?_
      refine z_goto (tgt := 14) h d_JI_numberOfLeadingZeros_10 (by decide) ?_
      refine hr.1 _ _ _ _ _ _ (Nat.le_refl _) (Nat.le_refl _) rfl d_JI_numberOfLeadingZeros_14 ?_
      exact ⟨(), rfl, rfl, trivial⟩
set_option maxRecDepth 100000 in
set_option maxHeartbeats 4000000 in
theorem ms_D_bitsOf (x : Nat) (hx : x < 2 ^ 31) : MS y_D_bitsOf c_D_bitsOf 1 (some .int) (rm 2) [.int (nI x)] [] (zP (X := Unit) (fun _ => some (.int (nI (bl x)))) (fun _ => []) (fun _ => True)) := by
  refine MS_of (own := R_D) (by decide) rfl (fun _ => Nat.le_of_ble_eq_true rfl) (fun Z h hr => ?_)
  have hb := bl_lt hx
  refine z_bipush (v := nI 32) h d_D_bitsOf_0 (by decide) ?_
  refine z_iload_n h d_D_bitsOf_2 rfl ?_
  refine z_cS h (ms_JI_nlz x hx) (zf_JI_numberOfLeadingZeros (by decide)) wm_D_202 wt_JI_numberOfLeadingZeros d_D_bitsOf_3 [] (by decide) rfl (Nat.le_of_ble_eq_true rfl) rfl (fun _ => rfl) (fun x_3 hx_3 => ?_)
  refine z_isubN h d_D_bitsOf_6 (by omega) ?_
  refine hr.1 _ _ _ _ _ _ (Nat.le_refl _) (Nat.le_refl _) rfl d_D_bitsOf_7 ?_
  exact ⟨(), by rw [show 32 - (32 - bl x) = bl x by omega], rfl, trivial⟩
set_option maxRecDepth 100000 in
set_option maxHeartbeats 4000000 in
theorem ms_D_bitsPerDigit (b : Nat) (hb : 1 ≤ b ∧ b < 2 ^ 31) : MS y_D_bitsPerDigit c_D_bitsPerDigit 1 (some .int) (rm 3) [.int (nI b)] [] (zP (X := Unit) (fun _ => some (.int (nI (bl (b - 1))))) (fun _ => []) (fun _ => True)) := by
  refine MS_of (own := R_D) (by decide) rfl (fun _ => Nat.le_of_ble_eq_true rfl) (fun Z h hr => ?_)
  refine z_iload_n h d_D_bitsPerDigit_0 rfl ?_
  refine z_iconst (v := nI 1) h d_D_bitsPerDigit_1 (by decide) ?_
  refine z_isubN h d_D_bitsPerDigit_2 (by omega) ?_
  refine z_cS h (ms_D_bitsOf (b - 1) (by omega)) (zf_D_bitsOf (by decide)) wm_D_199 wt_D_bitsOf d_D_bitsPerDigit_3 [] (by decide) rfl (Nat.le_of_ble_eq_true rfl) rfl (fun _ => rfl) (fun x_3 hx_3 => ?_)
  refine hr.1 _ _ _ _ _ _ (Nat.le_refl _) (Nat.le_refl _) rfl d_D_bitsPerDigit_6 ?_
  exact ⟨(), rfl, rfl, trivial⟩
set_option maxRecDepth 100000 in
set_option maxHeartbeats 4000000 in
theorem ms_D_power (b e : Nat) (hb : b < 2 ^ 31) (he : e < 2 ^ 31) : MS y_D_power c_D_power 5 (some .long) (rm 1) [.int (nI b), .int (nI e)] [] (zP (X := Unit) (fun _ => some (.long (lN (b ^ e)))) (fun _ => []) (fun _ => True)) := by
  refine MS_of (own := R_D) (by decide) rfl (fun _ => Nat.le_of_ble_eq_true rfl) (fun Z h hr => ?_)
  have L : ∀ (m i : Nat), i + m = e → Z 0 0 [] [(0, .int (nI b)), (1, .int (nI e)), (2, .long (lN (b ^ i))), (4, .int (nI i))] 5 [] := by
    intro m
    induction m with
    | zero =>
      intro i him
      obtain rfl : i = e := by omega
      refine z_iload h d_D_power_5 rfl ?_
      refine z_iload_n h d_D_power_7 rfl ?_
      refine z_icmp_geN (tgt := 22) h d_D_power_8 (by decide) (by omega) (fun c_8 => ?_) (fun c_8 => ?_)
      · refine z_lload_n h d_D_power_22 rfl ?_
        refine hr.2.2.1 _ _ _ _ _ _ (Nat.le_refl _) (Nat.le_refl _) rfl d_D_power_23 ?_
        exact ⟨(), rfl, rfl, trivial⟩
      · exact absurd c_8 (by omega)
    | succ m ih =>
      intro i him
      refine z_iload h d_D_power_5 rfl ?_
      refine z_iload_n h d_D_power_7 rfl ?_
      refine z_icmp_geN (tgt := 22) h d_D_power_8 (by decide) (by omega) (fun c_8 => ?_) (fun c_8 => ?_)
      · exact absurd c_8 (by omega)
      · refine z_lload_n h d_D_power_11 rfl ?_
        refine z_iload_n h d_D_power_12 rfl ?_
        refine z_i2lN h d_D_power_13 (by omega) ?_
        refine z_lmulN h d_D_power_14 ?_
        refine z_lstore_n h d_D_power_15 (by decide) ?_
        refine z_iincN h 1 d_D_power_16 rfl (by decide) (by decide) ?_
        refine z_goto (tgt := 5) h d_D_power_19 (by decide) ?_
        rw [← Nat.pow_succ]
        exact z_lv h rfl (ih (i + 1) (by omega))
  refine z_lconst (v := lN 1) h d_D_power_0 (by decide) ?_
  refine z_lstore_n h d_D_power_1 (by decide) ?_
  refine z_iconst (v := nI 0) h d_D_power_2 (by decide) ?_
  refine z_istore h d_D_power_3 (by decide) ?_
  refine z_lv (lv' := [(0, .int (nI b)), (1, .int (nI e)), (2, .long (lN (b ^ 0))), (4, .int (nI 0))]) h rfl (L e 0 (by omega))
def dpgF (b : Nat) : Nat → Nat → Nat → Nat
  | 0, d, _ => d
  | m + 1, d, x => if x ≤ 1073741824 ∧ d < 30 then dpgF b m (d + 1) (x * b) else d
/-- digits of base b to a group -/
def dpg (b : Nat) : Nat := dpgF b 30 1 (b * b)
theorem dpg_ok : ∀ b, b < 37 → 2 ≤ b → 1 ≤ dpg b ∧ dpg b ≤ 30 ∧ b ^ dpg b ≤ 1073741824 := by decide +kernel
set_option maxRecDepth 100000 in
set_option maxHeartbeats 4000000 in
theorem ms_D_digitsPerGroup (b : Nat) (hb : b < 37) : MS y_D_digitsPerGroup c_D_digitsPerGroup 4 (some .int) (rm 1) [.int (nI b)] [] (zP (X := Unit) (fun _ => some (.int (nI (dpg b)))) (fun _ => []) (fun _ => True)) := by
  refine MS_of (own := R_D) (by decide) rfl (fun _ => Nat.le_of_ble_eq_true rfl) (fun Z h hr => ?_)
  have L : ∀ (m d x : Nat), d + m = 31 → x ≤ 1073741824 * 36 → dpgF b m d x = dpg b → Z 0 0 [] [(0, .int (nI b)), (1, .int (nI d)), (2, .long (lN x))] 8 [] := by
    intro m
    induction m with
    | zero =>
      intro d x hd hx he
      have he2 : d = dpg b := he
      refine z_lload_n h d_D_digitsPerGroup_8 rfl ?_
      refine z_ldc2_w (v := lN 1073741824) h d_D_digitsPerGroup_9 wv_D_207 ?_
      refine z_lcmp_gtN (tgt := 33) h d_D_digitsPerGroup_12 d_D_digitsPerGroup_13 (by decide) (by omega) (fun c_12 => ?_) (fun c_12 => ?_)
      · refine z_iload_n h d_D_digitsPerGroup_33 rfl ?_
        refine hr.1 _ _ _ _ _ _ (Nat.le_refl _) (Nat.le_refl _) rfl d_D_digitsPerGroup_34 ?_
        exact ⟨(), by rw [he2], rfl, trivial⟩
      · refine z_iload_n h d_D_digitsPerGroup_16 rfl ?_
        refine z_bipush (v := nI 30) h d_D_digitsPerGroup_17 (by decide) ?_
        refine z_icmp_geN (tgt := 33) h d_D_digitsPerGroup_19 (by decide) (by omega) (fun c_19 => ?_) (fun c_19 => ?_)
        · refine z_iload_n h d_D_digitsPerGroup_33 rfl ?_
          refine hr.1 _ _ _ _ _ _ (Nat.le_refl _) (Nat.le_refl _) rfl d_D_digitsPerGroup_34 ?_
          exact ⟨(), by rw [he2], rfl, trivial⟩
        · exact absurd c_19 (by omega)
    | succ m ih =>
      intro d x hd hx he
      have he2 : (if x ≤ 1073741824 ∧ d < 30 then dpgF b m (d + 1) (x * b) else d) = dpg b := he
      refine z_lload_n h d_D_digitsPerGroup_8 rfl ?_
      refine z_ldc2_w (v := lN 1073741824) h d_D_digitsPerGroup_9 wv_D_207 ?_
      refine z_lcmp_gtN (tgt := 33) h d_D_digitsPerGroup_12 d_D_digitsPerGroup_13 (by decide) (by omega) (fun c_12 => ?_) (fun c_12 => ?_)
      · rw [if_neg (by omega)] at he2
        refine z_iload_n h d_D_digitsPerGroup_33 rfl ?_
        refine hr.1 _ _ _ _ _ _ (Nat.le_refl _) (Nat.le_refl _) rfl d_D_digitsPerGroup_34 ?_
        exact ⟨(), by rw [he2], rfl, trivial⟩
      · refine z_iload_n h d_D_digitsPerGroup_16 rfl ?_
        refine z_bipush (v := nI 30) h d_D_digitsPerGroup_17 (by decide) ?_
        refine z_icmp_geN (tgt := 33) h d_D_digitsPerGroup_19 (by decide) (by omega) (fun c_19 => ?_) (fun c_19 => ?_)
        · rw [if_neg (by omega)] at he2
          refine z_iload_n h d_D_digitsPerGroup_33 rfl ?_
          refine hr.1 _ _ _ _ _ _ (Nat.le_refl _) (Nat.le_refl _) rfl d_D_digitsPerGroup_34 ?_
          exact ⟨(), by rw [he2], rfl, trivial⟩
        · rw [if_pos (by omega)] at he2
          have h9 : x * b ≤ 1073741824 * 36 := Nat.mul_le_mul c_12 (by omega)
          refine z_iincN h 1 d_D_digitsPerGroup_22 rfl (by decide) (by decide) ?_
          refine z_lload_n h d_D_digitsPerGroup_25 rfl ?_
          refine z_iload_n h d_D_digitsPerGroup_26 rfl ?_
          refine z_i2lN h d_D_digitsPerGroup_27 (by omega) ?_
          refine z_lmulN h d_D_digitsPerGroup_28 ?_
          refine z_lstore_n h d_D_digitsPerGroup_29 (by decide) ?_
          refine z_goto (tgt := 8) h d_D_digitsPerGroup_30 (by decide) ?_
          exact z_lv h rfl (ih (d + 1) (x * b) (by omega) h9 he2)
  have h9 : b * b ≤ 36 * 36 := Nat.mul_le_mul (by omega) (by omega)
  refine z_iconst (v := nI 1) h d_D_digitsPerGroup_0 (by decide) ?_
  refine z_istore_n h d_D_digitsPerGroup_1 (by decide) ?_
  refine z_iload_n h d_D_digitsPerGroup_2 rfl ?_
  refine z_i2lN h d_D_digitsPerGroup_3 (by omega) ?_
  refine z_iload_n h d_D_digitsPerGroup_4 rfl ?_
  refine z_i2lN h d_D_digitsPerGroup_5 (by omega) ?_
  refine z_lmulN h d_D_digitsPerGroup_6 ?_
  refine z_lstore_n h d_D_digitsPerGroup_7 (by decide) ?_
  exact z_lv h rfl (L 30 1 (b * b) rfl (by omega) rfl)
set_option maxRecDepth 100000 in
set_option maxHeartbeats 4000000 in
/-- how many bits the number has -/
theorem ms_H_length (N s v : Nat) (a : Nat → Nat) (hN : N < 2 ^ 20) (hR : Rp 1073741824 N a s v) : MS y_H_length c_H_length 1 (some .int) (rm 3) [.ref 0] [wh 1 s, ar N a] (zP (X := Unit) (fun _ => some (.int (nI (bl v)))) (fun _ => [wh 1 s, ar N a]) (fun _ => True)) := by
  refine MS_of (own := R_H) (by decide) rfl (fun _ => Nat.le_of_ble_eq_true rfl) (fun Z h hr => ?_)
  have hs := hR.1
  refine z_aload_n h d_H_length_0 rfl ?_
  refine z_get (C := R_H) (T := F_H) (N := 2) h 1 d_H_length_1 in_H rfl (by decide) wf_H_15 rfl rfl ?_
  refine z_if_neN (tgt := 11) h d_H_length_4 (by decide) (by omega) (fun c_4 => ?_) (fun c_4 => ?_)
  · obtain ⟨s, rfl⟩ : ∃ t, s = t + 1 := ⟨s - 1, by omega⟩
    have ht := Rp_top (by decide) hR
    have hb := hR.2.1 s
    refine z_aload_n h d_H_length_11 rfl ?_
    refine z_get (C := R_H) (T := F_H) (N := 2) h 1 d_H_length_12 in_H rfl (by decide) wf_H_15 rfl rfl ?_
    refine z_iconst (v := nI 1) h d_H_length_15 (by decide) ?_
    refine z_isubN h d_H_length_16 (by omega) ?_
    refine z_bipush (v := nI 30) h d_H_length_17 (by decide) ?_
    refine z_imulN h d_H_length_19 ?_
    refine z_aload_n h d_H_length_20 rfl ?_
    refine z_get (C := R_H) (T := F_H) (N := 2) h 0 d_H_length_21 in_H rfl (by decide) wf_H_9 rfl rfl ?_
    refine z_aload_n h d_H_length_24 rfl ?_
    refine z_get (C := R_H) (T := F_H) (N := 2) h 1 d_H_length_25 in_H rfl (by decide) wf_H_15 rfl rfl ?_
    refine z_iconst (v := nI 1) h d_H_length_28 (by decide) ?_
    refine z_isubN h d_H_length_29 (by omega) ?_
    refine z_ialoadN h d_H_length_30 rfl (by omega) ?_
    rw [Nat.add_sub_cancel]
    refine z_cSN h (ms_D_bitsOf (a s) (by omega)) (zf_D_bitsOf (by decide)) wm_H_40 wt_D_bitsOf d_H_length_31 [] (by decide) rfl (Nat.le_of_ble_eq_true rfl) rfl (fun _ => rfl) (fun x_31 hx_31 => ?_)
    refine z_iaddN h d_H_length_34 ?_
    refine hr.1 _ _ _ _ _ _ (Nat.le_refl _) (Nat.le_refl _) rfl d_H_length_35 ?_
    refine ⟨(), ?_, rfl, trivial⟩
    have e : bl v = s * 30 + bl (a s) := by
      have h0 : 0 < a s := Nat.pos_of_ne_zero ht
      have a1 := bl_lb h0
      have a2 := bl_ub (a s)
      have a3 : 1 ≤ bl (a s) := by rw [bl_pos h0]; omega
      have hlo : nv 1073741824 a s < 1073741824 ^ s := nv_lt fun j _ => hR.2.1 j
      have hv : v = nv 1073741824 a s + a s * 1073741824 ^ s := hR.2.2.1.symm
      have hp : (1073741824 : Nat) ^ s = 2 ^ (s * 30) := by rw [show (1073741824 : Nat) = 2 ^ 30 by decide, ← Nat.pow_mul, Nat.mul_comm]
      rw [show s * 30 + bl (a s) = (s * 30 + (bl (a s) - 1)) + 1 by omega]
      rw [hp] at hlo hv
      apply bl_eq
      · rw [Nat.pow_add, Nat.mul_comm]
        have := Nat.mul_le_mul_right (2 ^ (s * 30)) a1
        omega
      · rw [show s * 30 + (bl (a s) - 1) + 1 = bl (a s) + s * 30 by omega, Nat.pow_add]
        have := Nat.mul_le_mul_right (2 ^ (s * 30)) (show a s + 1 ≤ 2 ^ bl (a s) from a2)
        rw [Nat.add_mul] at this
        omega
    rw [e]
  · subst c_4
    have hv : v = 0 := hR.2.2.1.symm
    refine z_iconst (v := nI 0) h d_H_length_7 (by decide) ?_
    refine z_goto (tgt := 35) h d_H_length_8 (by decide) ?_
    refine hr.1 _ _ _ _ _ _ (Nat.le_refl _) (Nat.le_refl _) rfl d_H_length_35 ?_
    exact ⟨(), by rw [hv]; rfl, rfl, trivial⟩
end
section
/-! DigitMill$Whole: raise, drop, lower, lift -/
set_option maxRecDepth 100000 in
set_option maxHeartbeats 4000000 in
/-- times b^e -/
theorem ms_H_raise (N s v b e : Nat) (a : Nat → Nat) (hN : N < 2 ^ 31) (hR : Rp 1073741824 N a s v) (hb : 2 ≤ b ∧ b < 37) (he : e < 2 ^ 31) (hv : v * b ^ e < 1073741824 ^ N) : MS y_H_raise c_H_raise 6 none (rm 3) [.ref 0, .int (nI b), .int (nI e)] [wh 1 s, ar N a] (zP (X := (Nat → Nat) × Nat) (fun _ => none) (fun x => [wh 1 x.2, ar N x.1]) (fun x => Rp 1073741824 N x.1 x.2 (v * b ^ e))) := by
  refine MS_of (own := R_H) (by decide) rfl (fun _ => Nat.le_of_ble_eq_true rfl) (fun Z h hr => ?_)
  obtain ⟨hg1, hg2, hg3⟩ := dpg_ok b hb.2 hb.1
  have hbp : ∀ k, 1 ≤ b ^ k := fun k => Nat.pow_pos (by omega)
  have hs_20 : e < 2 ^ 31 ∧ 0 < dpg b ∧ dpg b < 2 ^ 31 := by omega
  have hs_41 : e < 2 ^ 31 ∧ 0 < dpg b ∧ dpg b < 2 ^ 31 := by omega
  have hdm := Nat.div_add_mod e (dpg b)
  have hml := Nat.mod_lt e (show 0 < dpg b by omega)
  have hle : e / dpg b ≤ e := Nat.div_le_self _ _
  have hle2 : e % dpg b ≤ e := Nat.mod_le _ _
  have hup : ∀ k, k ≤ e → v * b ^ k < 1073741824 ^ N := fun k hk => by
    have : b ^ k ≤ b ^ e := Nat.pow_le_pow_right (by omega) hk
    exact Nat.lt_of_le_of_lt (Nat.mul_le_mul_left _ this) hv
  have L : ∀ (m i t : Nat) (a' : Nat → Nat), i + m = e / dpg b → Rp 1073741824 N a' t (v * b ^ (dpg b * i)) → Z 0 0 [wh 1 t, ar N a'] [(0, .ref 0), (1, .int (nI b)), (2, .int (nI e)), (3, .int (nI (dpg b))), (4, .int (nI (b ^ dpg b))), (5, .int (nI i))] 16 [] := by
    intro m
    induction m with
    | zero =>
      intro i t a' him hR'
      obtain rfl : i = e / dpg b := by omega
      have e1 : v * b ^ (dpg b * (e / dpg b)) * b ^ (e % dpg b) = v * b ^ e := by rw [Nat.mul_assoc, ← Nat.pow_add, hdm]
      have hpm : b ^ (e % dpg b) ≤ b ^ dpg b := Nat.pow_le_pow_right (by omega) (by omega)
      refine z_iload h d_H_raise_16 rfl ?_
      refine z_iload_n h d_H_raise_18 rfl ?_
      refine z_iload_n h d_H_raise_19 rfl ?_
      refine z_idivN h d_H_raise_20 hs_20 ?_
      refine z_icmp_geN (tgt := 37) h d_H_raise_21 (by decide) (by omega) (fun c_21 => ?_) (fun c_21 => ?_)
      · refine z_aload_n h d_H_raise_37 rfl ?_
        refine z_iload_n h d_H_raise_38 rfl ?_
        refine z_iload_n h d_H_raise_39 rfl ?_
        refine z_iload_n h d_H_raise_40 rfl ?_
        refine z_iremN h d_H_raise_41 hs_41 ?_
        refine z_cSN h (ms_D_power b (e % dpg b) (by omega) (by omega)) (zf_D_power (by decide)) wm_H_58 wt_D_power d_H_raise_42 [] (by decide) rfl (Nat.le_of_ble_eq_true rfl) rfl (fun _ => rfl) (fun x_42 hx_42 => ?_)
        refine z_l2iN h d_H_raise_45 ?_
        refine z_iconst (v := nI 0) h d_H_raise_46 (by decide) ?_
        refine z_cV (C := R_H) (ci := 3) h (ms_H_scale N t (v * b ^ (dpg b * (e / dpg b))) (b ^ (e % dpg b)) 0 a' hN hR' (by omega) (hbp _) (by rw [e1]; exact hv)) (zf_H_scale (by decide)) wm_H_62 wi_H_scale ws_H_scale rfl ⟨_, rfl⟩ d_H_raise_47 [0, 1] (by decide) rfl (Nat.le_of_ble_eq_true rfl) rfl (fun _ => rfl) (fun x_47 hx_47 => ?_)
        refine hr.2.2.2.1 _ _ _ _ _ (Nat.le_refl _) (Nat.le_refl _) rfl d_H_raise_50 ?_
        exact ⟨x_47, rfl, rfl, by have h9 := hx_47; rw [e1] at h9; exact h9⟩
      · exact absurd c_21 (by omega)
    | succ m ih =>
      intro i t a' him hR'
      have e1 : v * b ^ (dpg b * i) * b ^ dpg b = v * b ^ (dpg b * (i + 1)) := by rw [Nat.mul_assoc, ← Nat.pow_add]; rfl
      have hk : dpg b * (i + 1) ≤ e := by
        have : dpg b * (i + 1) ≤ dpg b * (e / dpg b) := Nat.mul_le_mul_left _ (by omega)
        omega
      refine z_iload h d_H_raise_16 rfl ?_
      refine z_iload_n h d_H_raise_18 rfl ?_
      refine z_iload_n h d_H_raise_19 rfl ?_
      refine z_idivN h d_H_raise_20 hs_20 ?_
      refine z_icmp_geN (tgt := 37) h d_H_raise_21 (by decide) (by omega) (fun c_21 => ?_) (fun c_21 => ?_)
      · exact absurd c_21 (by omega)
      · refine z_aload_n h d_H_raise_24 rfl ?_
        refine z_iload h d_H_raise_25 rfl ?_
        refine z_iconst (v := nI 0) h d_H_raise_27 (by decide) ?_
        refine z_cV (C := R_H) (ci := 3) h (ms_H_scale N t (v * b ^ (dpg b * i)) (b ^ dpg b) 0 a' hN hR' hg3 (hbp _) (by rw [e1]; exact hup _ hk)) (zf_H_scale (by decide)) wm_H_62 wi_H_scale ws_H_scale rfl ⟨_, rfl⟩ d_H_raise_28 [0, 1] (by decide) rfl (Nat.le_of_ble_eq_true rfl) rfl (fun _ => rfl) (fun x_28 hx_28 => ?_)
        refine z_iincN h 1 d_H_raise_31 rfl (by decide) (by decide) ?_
        refine z_goto (tgt := 16) h d_H_raise_34 (by decide) ?_
        refine z_lv (lv' := [(0, .ref 0), (1, .int (nI b)), (2, .int (nI e)), (3, .int (nI (dpg b))), (4, .int (nI (b ^ dpg b))), (5, .int (nI (i + 1)))]) h rfl ?_
        exact ih (i + 1) x_28.2 x_28.1 (by omega) (by have h9 := hx_28; rw [e1] at h9; exact h9)
  refine z_iload_n h d_H_raise_0 rfl ?_
  refine z_cSN h (ms_D_digitsPerGroup b hb.2) (zf_D_digitsPerGroup (by decide)) wm_H_55 wt_D_digitsPerGroup d_H_raise_1 [] (by decide) rfl (Nat.le_of_ble_eq_true rfl) rfl (fun _ => rfl) (fun x_1 hx_1 => ?_)
  refine z_istore_n h d_H_raise_4 (by decide) ?_
  refine z_iload_n h d_H_raise_5 rfl ?_
  refine z_iload_n h d_H_raise_6 rfl ?_
  refine z_cSN h (ms_D_power b (dpg b) (by omega) (by omega)) (zf_D_power (by decide)) wm_H_58 wt_D_power d_H_raise_7 [] (by decide) rfl (Nat.le_of_ble_eq_true rfl) rfl (fun _ => rfl) (fun x_7 hx_7 => ?_)
  refine z_l2iN h d_H_raise_10 ?_
  refine z_istore h d_H_raise_11 (by decide) ?_
  refine z_iconst (v := nI 0) h d_H_raise_13 (by decide) ?_
  refine z_istore h d_H_raise_14 (by decide) ?_
  refine z_lv (lv' := [(0, .ref 0), (1, .int (nI b)), (2, .int (nI e)), (3, .int (nI (dpg b))), (4, .int (nI (b ^ dpg b))), (5, .int (nI 0))]) h rfl ?_
  exact L (e / dpg b) 0 s a (by omega) (by rw [Nat.mul_zero, Nat.pow_zero, Nat.mul_one]; exact hR)
def sh (a : Nat → Nat) (k : Nat) : Nat → Nat := fun j => a (k + j)
theorem nv_split {B : Nat} {a : Nat → Nat} {k : Nat} : ∀ {m : Nat}, nv B a (k + m) = nv B a k + nv B (sh a k) m * B ^ k
  | 0 => by simp [nv]
  | m + 1 => by
    show nv B a (k + m) + a (k + m) * B ^ (k + m) = _
    rw [nv_split (m := m), nv_s, Nat.pow_add]
    show _ + a (k + m) * (B ^ k * B ^ m) = nv B a k + (nv B (sh a k) m + a (k + m) * B ^ m) * B ^ k
    grind
theorem max0 {s k : Nat} (hs : s < 2 ^ 30) (hk : k < 2 ^ 30) : (if (nI 0) < nI s - nI k then nI s - nI k else nI 0) = nI (s - k) := by
  by_cases e : k ≤ s
  · rw [pk_sub e]
    rcases Nat.eq_zero_or_pos (s - k) with q | q
    · rw [q, if_neg (by decide)]
    · rw [if_pos ((nI_ltI (by decide) (by omega)).mpr q)]
  · rw [if_neg (fun z => ?_), show s - k = 0 by omega]
    have := pk_sneg (a := s) (b := k) hk (by omega)
    rw [nI_0] at z
    exact absurd z (by rw [Int32.lt_iff_toInt_lt] at *; omega)
set_option maxRecDepth 100000 in
set_option maxHeartbeats 4000000 in
theorem ms_H_drop (N s k : Nat) (a : Nat → Nat) (hN : N < 2 ^ 30) (hs : s ≤ N) (hk : k < 2 ^ 30) : MS y_H_drop c_H_drop 3 none (rm 1) [.ref 0, .int (nI k)] [wh 1 s, ar N a] (zP (X := Unit) (fun _ => none) (fun _ => [wh 1 (s - k), ar N (va_cpy a a (s - (s - k)) 0 (s - k))]) (fun _ => True)) := by
  refine MS_of (own := R_H) (by decide) rfl (fun _ => Nat.le_of_ble_eq_true rfl) (fun Z h hr => ?_)
  refine z_iconst (v := nI 0) h d_H_drop_0 (by decide) ?_
  refine z_aload_n h d_H_drop_1 rfl ?_
  refine z_get (C := R_H) (T := F_H) (N := 2) h 1 d_H_drop_2 in_H rfl (by decide) wf_H_15 rfl rfl ?_
  refine z_iload_n h d_H_drop_5 rfl ?_
  refine z_isub h d_H_drop_6 ?_
  refine z_mmax h d_H_drop_7 wq_H_44 (by decide) (Nat.le_of_ble_eq_true rfl) (by decide) (by decide) ?_
  rw [max0 (by omega) hk]
  refine z_istore_n h d_H_drop_10 (by decide) ?_
  refine z_aload_n h d_H_drop_11 rfl ?_
  refine z_get (C := R_H) (T := F_H) (N := 2) h 0 d_H_drop_12 in_H rfl (by decide) wf_H_9 rfl rfl ?_
  refine z_aload_n h d_H_drop_15 rfl ?_
  refine z_get (C := R_H) (T := F_H) (N := 2) h 1 d_H_drop_16 in_H rfl (by decide) wf_H_15 rfl rfl ?_
  refine z_iload_n h d_H_drop_19 rfl ?_
  refine z_isubN h d_H_drop_20 (by omega) ?_
  refine z_aload_n h d_H_drop_21 rfl ?_
  refine z_get (C := R_H) (T := F_H) (N := 2) h 0 d_H_drop_22 in_H rfl (by decide) wf_H_9 rfl rfl ?_
  refine z_iconst (v := nI 0) h d_H_drop_25 (by decide) ?_
  refine z_iload_n h d_H_drop_26 rfl ?_
  refine z_copyN h d_H_drop_27 wm_H_31 rfl rfl (by omega) (by decide) (Nat.le_of_ble_eq_true rfl) ?_
  refine z_aload_n h d_H_drop_30 rfl ?_
  refine z_iload_n h d_H_drop_31 rfl ?_
  refine z_put (C := R_H) (T := F_H) (N := 2) (ty := .int) h 1 d_H_drop_32 in_H rfl ft_H_ok n_H (by decide) wf_H_15 rfl rfl rfl rfl rfl (Nat.le_of_ble_eq_true rfl) ?_
  refine hr.2.2.2.1 _ _ _ _ _ (Nat.le_refl _) (Nat.le_refl _) rfl d_H_drop_35 ?_
  exact ⟨(), rfl, rfl, trivial⟩
theorem drop_nv {N s k v : Nat} {a : Nat → Nat} (ha : ∀ j, a j < 1073741824) (hv : nv 1073741824 a s = v) : nv 1073741824 (va_cpy a a (s - (s - k)) 0 (s - k)) (s - k) = v / 1073741824 ^ k := by
  by_cases e : k ≤ s
  · have e1 : nv 1073741824 (va_cpy a a (s - (s - k)) 0 (s - k)) (s - k) = nv 1073741824 (sh a k) (s - k) := nv_congr fun j hj => by
      unfold va_cpy sh
      rw [if_pos (by omega)]
      congr 1
      omega
    have e2 := nv_split (B := 1073741824) (a := a) (k := k) (m := s - k)
    rw [show k + (s - k) = s by omega, hv] at e2
    have e3 : nv 1073741824 a k < 1073741824 ^ k := nv_lt fun j _ => ha j
    rw [e1, e2, Nat.add_mul_div_right _ _ (Nat.pow_pos (by decide)), Nat.div_eq_of_lt e3, Nat.zero_add]
  · rw [show s - k = 0 by omega]
    have e3 : v < 1073741824 ^ s := by rw [← hv]; exact nv_lt fun j _ => ha j
    have e4 : (1073741824 : Nat) ^ s ≤ 1073741824 ^ k := Nat.pow_le_pow_right (by decide) (by omega)
    rw [Nat.div_eq_of_lt (by omega)]
    rfl
theorem pow30 (q r : Nat) : (1073741824 : Nat) ^ q * 2 ^ r = 2 ^ (30 * q + r) := by
  rw [show (1073741824 : Nat) = 2 ^ 30 by decide, ← Nat.pow_mul, ← Nat.pow_add]
set_option maxRecDepth 100000 in
set_option maxHeartbeats 4000000 in
/-- divided by 2^k -/
theorem ms_H_lower (N s v k : Nat) (a : Nat → Nat) (hN : N < 2 ^ 30) (hs : s ≤ N) (ha : ∀ j, a j < 1073741824) (hv : nv 1073741824 a s = v) (hk : k < 2 ^ 30) : MS y_H_lower c_H_lower 2 none (rm 3) [.ref 0, .int (nI k)] [wh 1 s, ar N a] (zP (X := (Nat → Nat) × Nat) (fun _ => none) (fun x => [wh 1 x.2, ar N x.1]) (fun x => Rp 1073741824 N x.1 x.2 (v / 2 ^ k))) := by
  refine MS_of (own := R_H) (by decide) rfl (fun _ => Nat.le_of_ble_eq_true rfl) (fun Z h hr => ?_)
  have hs_4 : k < 2 ^ 31 ∧ 0 < 30 ∧ 30 < 2 ^ 31 := by omega
  have hs_13 : k < 2 ^ 31 ∧ 0 < 30 ∧ 30 < 2 ^ 31 := by omega
  have hp : 2 ^ (k % 30) ≤ 2 ^ 29 := Nat.pow_le_pow_right (by decide) (by omega)
  have hp0 : 0 < 2 ^ (k % 30) := Nat.pow_pos (by decide)
  have e1 : v / 1073741824 ^ (k / 30) / 2 ^ (k % 30) = v / 2 ^ k := by
    rw [Nat.div_div_eq_div_mul, pow30, show 30 * (k / 30) + k % 30 = k by omega]
  refine z_aload_n h d_H_lower_0 rfl ?_
  refine z_iload_n h d_H_lower_1 rfl ?_
  refine z_bipush (v := nI 30) h d_H_lower_2 (by decide) ?_
  refine z_idivN h d_H_lower_4 hs_4 ?_
  refine z_cV (C := R_H) (ci := 3) h (ms_H_drop N s (k / 30) a hN hs (by omega)) (zf_H_drop (by decide)) wm_H_75 wi_H_drop ws_H_drop rfl ⟨_, rfl⟩ d_H_lower_5 [0, 1] (by decide) rfl (Nat.le_of_ble_eq_true rfl) rfl (fun _ => rfl) (fun x_5 hx_5 => ?_)
  refine z_aload_n h d_H_lower_8 rfl ?_
  refine z_iconst (v := nI 1) h d_H_lower_9 (by decide) ?_
  refine z_iload_n h d_H_lower_10 rfl ?_
  refine z_bipush (v := nI 30) h d_H_lower_11 (by decide) ?_
  refine z_iremN h d_H_lower_13 hs_13 ?_
  refine z_ishlN h d_H_lower_14 ⟨by omega, by omega⟩ ?_
  rw [Nat.one_mul]
  refine z_cV (C := R_H) (ci := 3) h (ms_H_shrink N (s - k / 30) (v / 1073741824 ^ (k / 30)) (2 ^ (k % 30)) (va_cpy a a (s - (s - k / 30)) 0 (s - k / 30)) (by omega) (by omega) (fun j => by unfold va_cpy; split; exact ha _; exact ha _) (drop_nv (N := N) ha hv) ⟨hp0, by omega⟩) (zf_H_shrink (by decide)) wm_H_78 wi_H_shrink ws_H_shrink rfl ⟨_, rfl⟩ d_H_lower_15 [0, 1] (by decide) rfl (Nat.le_of_ble_eq_true rfl) rfl (fun _ => rfl) (fun x_15 hx_15 => ?_)
  refine z_pop h d_H_lower_18 rfl ?_
  refine hr.2.2.2.1 _ _ _ _ _ (Nat.le_refl _) (Nat.le_refl _) rfl d_H_lower_19 ?_
  exact ⟨x_15, rfl, rfl, by have h9 := hx_15; rw [e1] at h9; exact h9⟩
theorem lift_nv {s q v : Nat} {a : Nat → Nat} (hv : nv 1073741824 a s = v) : nv 1073741824 (fil (va_cpy a a 0 q s) 0 q 0) (s + q) = v * 1073741824 ^ q := by
  rw [Nat.add_comm, nv_split]
  have e1 : nv 1073741824 (fil (va_cpy a a 0 q s) 0 q 0) q = 0 := by
    have e2 : nv 1073741824 (fil (va_cpy a a 0 q s) 0 q 0) q = nv 1073741824 (lim a 0) q := nv_congr fun j hj => by unfold fil lim; rw [if_pos (by omega), if_neg (by omega)]
    rw [e2, lim_nv (Nat.zero_le q)]
    rfl
  have e3 : nv 1073741824 (sh (fil (va_cpy a a 0 q s) 0 q 0) q) s = nv 1073741824 a s := nv_congr fun j hj => by
    unfold sh fil va_cpy
    rw [if_neg (by omega), if_pos (by omega)]
    congr 1
    omega
  rw [e1, e3, hv, Nat.zero_add]
set_option maxRecDepth 100000 in
set_option maxHeartbeats 4000000 in
/-- times 2^k -/
theorem ms_H_lift (N s v k : Nat) (a : Nat → Nat) (hN : N < 2 ^ 30) (hR : Rp 1073741824 N a s v) (hk : k < 2 ^ 30) (hv : v * 2 ^ k < 1073741824 ^ N) : MS y_H_lift c_H_lift 3 none (rm 3) [.ref 0, .int (nI k)] [wh 1 s, ar N a] (zP (X := (Nat → Nat) × Nat) (fun _ => none) (fun x => [wh 1 x.2, ar N x.1]) (fun x => Rp 1073741824 N x.1 x.2 (v * 2 ^ k))) := by
  refine MS_of (own := R_H) (by decide) rfl (fun _ => Nat.le_of_ble_eq_true rfl) (fun Z h hr => ?_)
  have hs_3 : k < 2 ^ 31 ∧ 0 < 30 ∧ 30 < 2 ^ 31 := by omega
  have hs_68 : k < 2 ^ 31 ∧ 0 < 30 ∧ 30 < 2 ^ 31 := by omega
  have hsN := hR.1
  refine z_iload_n h d_H_lift_0 rfl ?_
  refine z_bipush (v := nI 30) h d_H_lift_1 (by decide) ?_
  refine z_idivN h d_H_lift_3 hs_3 ?_
  refine z_istore_n h d_H_lift_4 (by decide) ?_
  refine z_aload_n h d_H_lift_5 rfl ?_
  refine z_get (C := R_H) (T := F_H) (N := 2) h 1 d_H_lift_6 in_H rfl (by decide) wf_H_15 rfl rfl ?_
  refine z_if_leN (tgt := 74) h d_H_lift_9 (by decide) (by omega) (fun c_9 => ?_) (fun c_9 => ?_)
  · subst c_9
    have hv0 : v = 0 := hR.2.2.1.symm
    refine hr.2.2.2.1 _ _ _ _ _ (Nat.le_refl _) (Nat.le_refl _) rfl d_H_lift_74 ?_
    exact ⟨(a, 0), rfl, rfl, by rw [hv0, Nat.zero_mul]; rw [hv0] at hR; exact hR⟩
  · have hlow : 1073741824 ^ (s - 1) ≤ v := by
      rcases hR.2.2.2 with q | q
      · omega
      · exact q
    have hp0 : 0 < 2 ^ (k % 30) := Nat.pow_pos (by decide)
    have hp : 2 ^ (k % 30) ≤ 2 ^ 29 := Nat.pow_le_pow_right (by decide) (by omega)
    have ek : v * 1073741824 ^ (k / 30) * 2 ^ (k % 30) = v * 2 ^ k := by
      rw [Nat.mul_assoc, pow30, show 30 * (k / 30) + k % 30 = k by omega]
    have hfit : s + k / 30 ≤ N := by
      apply Nat.le_of_not_lt
      intro q
      have h1 : 1073741824 ^ (s - 1) * 1073741824 ^ (k / 30) ≤ v * 1073741824 ^ (k / 30) := Nat.mul_le_mul_right _ hlow
      rw [← Nat.pow_add] at h1
      have h2 : (1073741824 : Nat) ^ N ≤ 1073741824 ^ (s - 1 + k / 30) := Nat.pow_le_pow_right (by decide) (by omega)
      have h3 : v * 1073741824 ^ (k / 30) * 1 ≤ v * 1073741824 ^ (k / 30) * 2 ^ (k % 30) := Nat.mul_le_mul_left _ hp0
      omega
    have hR2 : Rp 1073741824 N (fil (va_cpy a a 0 (k / 30) s) 0 (k / 30) 0) (s + k / 30) (v * 1073741824 ^ (k / 30)) := by
      refine ⟨hfit, fun j => ?_, lift_nv hR.2.2.1, Or.inr ?_⟩
      · unfold fil va_cpy
        split
        · decide
        · split
          · exact hR.2.1 _
          · exact hR.2.1 _
      · have h1 : 1073741824 ^ (s - 1) * 1073741824 ^ (k / 30) ≤ v * 1073741824 ^ (k / 30) := Nat.mul_le_mul_right _ hlow
        rw [← Nat.pow_add] at h1
        rw [show s + k / 30 - 1 = s - 1 + k / 30 by omega]
        exact h1
    refine z_aload_n h d_H_lift_12 rfl ?_
    refine z_get (C := R_H) (T := F_H) (N := 2) h 1 d_H_lift_13 in_H rfl (by decide) wf_H_15 rfl rfl ?_
    refine z_iload_n h d_H_lift_16 rfl ?_
    refine z_iaddN h d_H_lift_17 ?_
    refine z_aload_n h d_H_lift_18 rfl ?_
    refine z_get (C := R_H) (T := F_H) (N := 2) h 0 d_H_lift_19 in_H rfl (by decide) wf_H_9 rfl rfl ?_
    refine z_alenN h d_H_lift_22 rfl ?_
    refine z_icmp_gtN (tgt := 74) h d_H_lift_23 (by decide) (by omega) (fun c_23 => ?_) (fun c_23 => ?_)
    · exact absurd c_23 (by omega)
    · refine z_aload_n h d_H_lift_26 rfl ?_
      refine z_get (C := R_H) (T := F_H) (N := 2) h 0 d_H_lift_27 in_H rfl (by decide) wf_H_9 rfl rfl ?_
      refine z_iconst (v := nI 0) h d_H_lift_30 (by decide) ?_
      refine z_aload_n h d_H_lift_31 rfl ?_
      refine z_get (C := R_H) (T := F_H) (N := 2) h 0 d_H_lift_32 in_H rfl (by decide) wf_H_9 rfl rfl ?_
      refine z_iload_n h d_H_lift_35 rfl ?_
      refine z_aload_n h d_H_lift_36 rfl ?_
      refine z_get (C := R_H) (T := F_H) (N := 2) h 1 d_H_lift_37 in_H rfl (by decide) wf_H_15 rfl rfl ?_
      refine z_copyN h d_H_lift_40 wm_H_31 rfl rfl (by omega) (by decide) (Nat.le_of_ble_eq_true rfl) ?_
      refine z_aload_n h d_H_lift_43 rfl ?_
      refine z_get (C := R_H) (T := F_H) (N := 2) h 0 d_H_lift_44 in_H rfl (by decide) wf_H_9 rfl rfl ?_
      refine z_iconst (v := nI 0) h d_H_lift_47 (by decide) ?_
      refine z_iload_n h d_H_lift_48 rfl ?_
      refine z_iconst (v := nI 0) h d_H_lift_49 (by decide) ?_
      refine z_cS h (ms_JA_fillI N 0 (k / 30) 0 (va_cpy a a 0 (k / 30) s) (Nat.zero_le _) (by omega) (by omega)) (zf_JA_fillI (by decide)) wm_H_69 wt_JA_fillI d_H_lift_50 [1] (by decide) rfl (Nat.le_of_ble_eq_true rfl) rfl (fun _ => rfl) (fun x_50 hx_50 => ?_)
      refine z_aload_n h d_H_lift_53 rfl ?_
      refine z_dup h d_H_lift_54 rfl ?_
      refine z_get (C := R_H) (T := F_H) (N := 2) h 1 d_H_lift_55 in_H rfl (by decide) wf_H_15 rfl rfl ?_
      refine z_iload_n h d_H_lift_58 rfl ?_
      refine z_iaddN h d_H_lift_59 ?_
      refine z_put (C := R_H) (T := F_H) (N := 2) (ty := .int) h 1 d_H_lift_60 in_H rfl ft_H_ok n_H (by decide) wf_H_15 rfl rfl rfl rfl rfl (Nat.le_of_ble_eq_true rfl) ?_
      refine z_aload_n h d_H_lift_63 rfl ?_
      refine z_iconst (v := nI 1) h d_H_lift_64 (by decide) ?_
      refine z_iload_n h d_H_lift_65 rfl ?_
      refine z_bipush (v := nI 30) h d_H_lift_66 (by decide) ?_
      refine z_iremN h d_H_lift_68 hs_68 ?_
      refine z_ishlN h d_H_lift_69 ⟨by omega, by omega⟩ ?_
      rw [Nat.one_mul]
      refine z_iconst (v := nI 0) h d_H_lift_70 (by decide) ?_
      refine z_cV (C := R_H) (ci := 3) h (ms_H_scale N (s + k / 30) (v * 1073741824 ^ (k / 30)) (2 ^ (k % 30)) 0 (fil (va_cpy a a 0 (k / 30) s) 0 (k / 30) 0) (by omega) hR2 (by omega) hp0 (by rw [ek]; exact hv)) (zf_H_scale (by decide)) wm_H_62 wi_H_scale ws_H_scale rfl ⟨_, rfl⟩ d_H_lift_71 [0, 1] (by decide) rfl (Nat.le_of_ble_eq_true rfl) rfl (fun _ => rfl) (fun x_71 hx_71 => ?_)
      refine hr.2.2.2.1 _ _ _ _ _ (Nat.le_refl _) (Nat.le_refl _) rfl d_H_lift_74 ?_
      exact ⟨x_71, rfl, rfl, by have h9 := hx_71; rw [ek] at h9; exact h9⟩
end
section
/-! DigitMill$Whole: absorbsCarry, decrease, multiply -/
set_option maxRecDepth 100000 in
set_option maxHeartbeats 4000000 in
/-- whether a limb of lo .. hi - 1 isn't the greatest -/
theorem ms_H_absorbsCarry (N s lo hi : Nat) (a : Nat → Nat) (hN : N < 2 ^ 31) (hs : s ≤ N) (ha : ∀ j, a j < 1073741824) (hh : lo < 2 ^ 31 ∧ hi < 2 ^ 31) : MS y_H_absorbsCarry c_H_absorbsCarry 4 (some .boolean) (rm 2) [.ref 0, .int (nI lo), .int (nI hi)] [wh 1 s, ar N a] (zP (X := Nat) (fun x => some (.int (nI x))) (fun _ => [wh 1 s, ar N a]) (fun x => (x = 1 ∧ ∃ j, lo ≤ j ∧ j < hi ∧ lim a s j ≠ 1073741823) ∨ (x = 0 ∧ ∀ j, lo ≤ j → j < hi → lim a s j = 1073741823))) := by
  refine MS_of (own := R_H) (by decide) rfl (fun _ => Nat.le_of_ble_eq_true rfl) (fun Z h hr => ?_)
  have L : ∀ (m i : Nat), (hi ≤ i ∧ m = 0) ∨ i + m = hi → lo ≤ i → i < 2 ^ 31 → (∀ j, lo ≤ j → j < i → lim a s j = 1073741823) → Z 0 0 [wh 1 s, ar N a] [(0, .ref 0), (1, .int (nI lo)), (2, .int (nI hi)), (3, .int (nI i))] 2 [] := by
    intro m
    induction m with
    | zero =>
      intro i him hli hi31 hj
      refine z_iload_n h d_H_absorbsCarry_2 rfl ?_
      refine z_iload_n h d_H_absorbsCarry_3 rfl ?_
      refine z_icmp_geN (tgt := 25) h d_H_absorbsCarry_4 (by decide) (by omega) (fun c_4 => ?_) (fun c_4 => ?_)
      · refine z_iconst (v := nI 0) h d_H_absorbsCarry_25 (by decide) ?_
        refine hr.2.1 _ _ _ _ _ _ (Nat.le_refl _) (Nat.le_refl _) rfl rfl d_H_absorbsCarry_26 ?_
        exact ⟨0, rfl, rfl, Or.inr ⟨rfl, fun j q1 q2 => hj j q1 (by omega)⟩⟩
      · exact absurd c_4 (by omega)
    | succ m ih =>
      intro i him hli hi31 hj
      have hlb : (if i < s then a i else 0) = lim a s i := rfl
      have h2 := lim_lt (s := s) (by decide) ha i
      refine z_iload_n h d_H_absorbsCarry_2 rfl ?_
      refine z_iload_n h d_H_absorbsCarry_3 rfl ?_
      refine z_icmp_geN (tgt := 25) h d_H_absorbsCarry_4 (by decide) (by omega) (fun c_4 => ?_) (fun c_4 => ?_)
      · exact absurd c_4 (by omega)
      · refine z_aload_n h d_H_absorbsCarry_7 rfl ?_
        refine z_iload_n h d_H_absorbsCarry_8 rfl ?_
        refine z_cV (C := R_H) (ci := 3) h (ms_H_limbAt N s i a hN hs hi31) (zf_H_limbAt (by decide)) wm_H_47 wi_H_limbAt ws_H_limbAt rfl ⟨_, rfl⟩ d_H_absorbsCarry_9 [0, 1] (by decide) rfl (Nat.le_of_ble_eq_true rfl) rfl (fun _ => rfl) (fun x_9 hx_9 => ?_)
        rw [hlb]
        refine z_ldc (v := nI 1073741823) h d_H_absorbsCarry_12 wv_H_50 ?_
        refine z_icmp_eqN (tgt := 19) h d_H_absorbsCarry_14 (by decide) (by omega) (fun c_14 => ?_) (fun c_14 => ?_)
        · refine z_iincN h 1 d_H_absorbsCarry_19 rfl (by decide) (by decide) ?_
          refine z_goto (tgt := 2) h d_H_absorbsCarry_22 (by decide) ?_
          refine z_lv h rfl (ih (i + 1) (by omega) (by omega) (by omega) (fun j q1 q2 => ?_))
          by_cases e : j = i
          · rw [e]; exact c_14
          · exact hj j q1 (by omega)
        · refine z_iconst (v := nI 1) h d_H_absorbsCarry_17 (by decide) ?_
          refine hr.2.1 _ _ _ _ _ _ (Nat.le_refl _) (Nat.le_refl _) rfl rfl d_H_absorbsCarry_18 ?_
          exact ⟨1, rfl, rfl, Or.inl ⟨rfl, i, hli, by omega, c_14⟩⟩
  refine z_iload_n h d_H_absorbsCarry_0 rfl ?_
  refine z_istore_n h d_H_absorbsCarry_1 (by decide) ?_
  refine z_lv (lv' := [(0, .ref 0), (1, .int (nI lo)), (2, .int (nI hi)), (3, .int (nI lo))]) h rfl ?_
  exact L (hi - lo) lo (by omega) (Nat.le_refl lo) hh.1 (fun j q1 q2 => absurd q1 (by omega))
theorem dec_and {x y b : Nat} (hx : x < 1073741824) (hy : y < 1073741824) (hb : b ≤ 1) : (nI x - nI y + iI (-(b : Int))) &&& 1073741823 = nI (if x < y + b then x + 1073741824 - y - b else x - y - b) := by
  rw [nI_iI x, nI_iI y, iI_sub, iI_add, iI_and30, nI_iI]
  congr 1
  split <;> omega
theorem dec_shr {x y b : Nat} (hx : x < 1073741824) (hy : y < 1073741824) (hb : b ≤ 1) : (nI x - nI y + iI (-(b : Int))) >>> ((30 : Int32) &&& 31) = iI (-((if x < y + b then 1 else 0 : Nat) : Int)) := by
  rw [nI_iI x, nI_iI y, iI_sub, iI_add, iI_shr30 (by omega) (by omega)]
  congr 1
  split <;> omega
theorem dec_step {m b x y P n1 n2 r b' B : Nat} (h : m + n2 = n1 + b * P) (hr : r + y + b = x + b' * B) : (m + r * P) + (n2 + y * P) = (n1 + x * P) + b' * (P * B) := by
  have e : (r + y + b) * P = (x + b' * B) * P := by rw [hr]
  grind
set_option maxRecDepth 100000 in
set_option maxHeartbeats 4000000 in
theorem ms_H_decrease (N s M t v u : Nat) (a b : Nat → Nat) (hN : N < 2 ^ 31) (hM : M < 2 ^ 31) (ha : Rp 1073741824 N a s v) (hb : Rp 1073741824 M b t u) (hvu : u ≤ v) : MS y_H_decrease c_H_decrease 5 none (rm 2) [.ref 0, .ref 2] [wh 1 s, ar N a, wh 3 t, ar M b] (zP (X := (Nat → Nat) × Nat) (fun _ => none) (fun x => [wh 1 x.2, ar N x.1, wh 3 t, ar M b]) (fun x => Rp 1073741824 N x.1 x.2 (v - u))) := by
  refine MS_of (own := R_H) (by decide) rfl (fun _ => Nat.le_of_ble_eq_true rfl) (fun Z h hr => ?_)
  have hts : t ≤ s := by
    apply Nat.le_of_not_lt
    intro q
    have := Rp_size (by decide) ha hb q
    omega
  obtain ⟨hs, ha1, ha2, ha3⟩ := ha
  obtain ⟨ht1, hb1, hb2, hb3⟩ := hb
  have L : ∀ (m i c : Nat) (a' : Nat → Nat), i + m = s → (∀ j, a' j < 1073741824) → (∀ j, i ≤ j → a' j = a j) → c ≤ 1 → nv 1073741824 a' i + nv 1073741824 (lim b t) i = nv 1073741824 a i + c * 1073741824 ^ i → Z 0 0 [wh 1 s, ar N a', wh 3 t, ar M b] [(0, .ref 0), (1, .ref 2), (2, .int (iI (-(c : Int)))), (3, .int (nI i))] 4 [] := by
    intro m
    induction m with
    | zero =>
      intro i c a' him hb' hj hc hval
      obtain rfl : i = s := by omega
      rw [lim_nv hts, ha2, hb2] at hval
      have hlt : nv 1073741824 a' i < 1073741824 ^ i := nv_lt fun j _ => hb' j
      have hc0 : c = 0 := by
        rcases Nat.eq_zero_or_pos c with q | q
        · exact q
        · have : 1 * 1073741824 ^ i ≤ c * 1073741824 ^ i := Nat.mul_le_mul_right _ q
          omega
      subst hc0
      refine z_iload_n h d_H_decrease_4 rfl ?_
      refine z_aload_n h d_H_decrease_5 rfl ?_
      refine z_get (C := R_H) (T := F_H) (N := 2) h 1 d_H_decrease_6 in_H rfl (by decide) wf_H_15 rfl rfl ?_
      refine z_icmp_geN (tgt := 51) h d_H_decrease_9 (by decide) (by omega) (fun c_9 => ?_) (fun c_9 => ?_)
      · refine z_aload_n h d_H_decrease_51 rfl ?_
        refine z_cV (C := R_H) (ci := 3) h (ms_H_trim N i a' hN hs (fun j => Nat.lt_trans (hb' j) (by decide))) (zf_H_trim (by decide)) wm_H_37 wi_H_trim ws_H_trim rfl ⟨_, rfl⟩ d_H_decrease_52 [0, 1] (by decide) rfl (Nat.le_of_ble_eq_true rfl) rfl (fun _ => rfl) (fun x_52 hx_52 => ?_)
        refine hr.2.2.2.1 _ _ _ _ _ (Nat.le_refl _) (Nat.le_refl _) rfl d_H_decrease_55 ?_
        exact ⟨(a', trm a' i), rfl, rfl, Rp_trm hs hb' (show nv 1073741824 a' i = v - u by omega)⟩
      · exact absurd c_9 (by omega)
    | succ m ih =>
      intro i c a' him hb' hj hc hval
      have hlb : (if i < t then b i else 0) = lim b t i := rfl
      have h1 := hb' i
      have h2 := lim_lt (s := t) (by decide) hb1 i
      refine z_iload_n h d_H_decrease_4 rfl ?_
      refine z_aload_n h d_H_decrease_5 rfl ?_
      refine z_get (C := R_H) (T := F_H) (N := 2) h 1 d_H_decrease_6 in_H rfl (by decide) wf_H_15 rfl rfl ?_
      refine z_icmp_geN (tgt := 51) h d_H_decrease_9 (by decide) (by omega) (fun c_9 => ?_) (fun c_9 => ?_)
      · exact absurd c_9 (by omega)
      · refine z_aload_n h d_H_decrease_12 rfl ?_
        refine z_get (C := R_H) (T := F_H) (N := 2) h 0 d_H_decrease_13 in_H rfl (by decide) wf_H_9 rfl rfl ?_
        refine z_iload_n h d_H_decrease_16 rfl ?_
        refine z_ialoadN h d_H_decrease_17 rfl (by omega) ?_
        refine z_aload_n h d_H_decrease_18 rfl ?_
        refine z_iload_n h d_H_decrease_19 rfl ?_
        refine z_cV (C := R_H) (ci := 3) h (ms_H_limbAt M t i b hM ht1 (by omega)) (zf_H_limbAt (by decide)) wm_H_47 wi_H_limbAt ws_H_limbAt rfl ⟨_, rfl⟩ d_H_decrease_20 [2, 3] (by decide) rfl (Nat.le_of_ble_eq_true rfl) rfl (fun _ => rfl) (fun x_20 hx_20 => ?_)
        rw [hlb]
        refine z_isub h d_H_decrease_23 ?_
        refine z_iload_n h d_H_decrease_24 rfl ?_
        refine z_iadd h d_H_decrease_25 ?_
        refine z_istore h d_H_decrease_26 (by decide) ?_
        refine z_aload_n h d_H_decrease_28 rfl ?_
        refine z_get (C := R_H) (T := F_H) (N := 2) h 0 d_H_decrease_29 in_H rfl (by decide) wf_H_9 rfl rfl ?_
        refine z_iload_n h d_H_decrease_32 rfl ?_
        refine z_iload h d_H_decrease_33 rfl ?_
        refine z_ldc (v := 1073741823) h d_H_decrease_35 wv_H_50 ?_
        refine z_iand h d_H_decrease_37 ?_
        refine z_topi (dec_and h1 h2 hc) ?_
        refine z_iastoreN h d_H_decrease_38 rfl (by omega) ?_
        refine z_iload h d_H_decrease_39 rfl ?_
        refine z_bipush (v := 30) h d_H_decrease_41 (by decide) ?_
        refine z_ishr h d_H_decrease_43 ?_
        refine z_topi (dec_shr h1 h2 hc) ?_
        refine z_istore_n h d_H_decrease_44 (by decide) ?_
        refine z_iincN h 1 d_H_decrease_45 rfl (by decide) (by decide) ?_
        refine z_goto (tgt := 4) h d_H_decrease_48 (by decide) ?_
        refine z_lv (lv' := [(0, .ref 0), (1, .ref 2), (2, .int (iI (-((if a' i < lim b t i + c then 1 else 0 : Nat) : Int)))), (3, .int (nI (i + 1)))]) h rfl ?_
        refine ih (i + 1) _ (un a' i _) (by omega) (un_lt hb' (by split <;> omega)) (fun j hj2 => by rw [un_ne (by omega)]; exact hj j (by omega)) (by split <;> omega) ?_
        rw [nv_put, nv_s, nv_s, Nat.pow_succ, ← hj i (Nat.le_refl i)]
        exact dec_step hval (by split <;> omega)
  refine z_iconst (v := 0) h d_H_decrease_0 (by decide) ?_
  refine z_istore_n h d_H_decrease_1 (by decide) ?_
  refine z_iconst (v := nI 0) h d_H_decrease_2 (by decide) ?_
  refine z_istore_n h d_H_decrease_3 (by decide) ?_
  refine z_lv (lv' := [(0, .ref 0), (1, .ref 2), (2, .int (iI (-((0 : Nat) : Int)))), (3, .int (nI 0))]) h rfl ?_
  exact L s 0 0 a (by omega) ha1 (fun _ _ => rfl) (by omega) (by simp [nv])
theorem mul_step {m c P x f n g U Q y : Nat} (h : m + c * (P * Q) = n + f * U * P) : m + (c + (f * y + x)) * (P * Q) = (n + x * (P * Q)) + f * (U + y * Q) * P := by grind
theorem fil_nv {a : Nat → Nat} {t : Nat} (n : Nat) (h : n ≤ t) : nv 1073741824 (fil a 0 t 0) n = 0 := by
  have e2 : nv 1073741824 (fil a 0 t 0) n = nv 1073741824 (lim a 0) n := nv_congr fun j hj => by unfold fil lim; rw [if_pos (by omega), if_neg (by omega)]
  rw [e2, lim_nv (Nat.zero_le n)]
  rfl
set_option maxRecDepth 100000 in
set_option maxHeartbeats 4000000 in
/-- this becomes the product of two others -/
theorem ms_H_multiply (N s c0 sa Na sb Nb v u : Nat) (c a b : Nat → Nat) (hN : N < 2 ^ 30) (hNa : Na < 2 ^ 30) (hNb : Nb < 2 ^ 30) (hc : ∀ j, c j < 1073741824) (ha : Rp 1073741824 Na a sa v) (hb : Rp 1073741824 Nb b sb u) (hfit : sa + sb ≤ N) : MS y_H_multiply c_H_multiply 9 none (rm 4) [.ref 0, .ref 2, .ref 4] [wh 1 s, ar N c, wh 3 sa, ar Na a, wh 5 sb, ar Nb b] (zP (X := (Nat → Nat) × Nat) (fun _ => none) (fun x => [wh 1 x.2, ar N x.1, wh 3 sa, ar Na a, wh 5 sb, ar Nb b]) (fun x => Rp 1073741824 N x.1 x.2 (v * u))) := by
  refine MS_of (own := R_H) (by decide) rfl (fun _ => Nat.le_of_ble_eq_true rfl) (fun Z h hr => ?_)
  obtain ⟨hsa, ha1, ha2, ha3⟩ := ha
  obtain ⟨hsb, hb1, hb2, hb3⟩ := hb
  have L : ∀ (m i : Nat) (c' : Nat → Nat) (lv : List (Nat × Value)), i + m = sa → (∀ j, c' j < 1073741824) → (∀ j, i + sb ≤ j → j < sa + sb → c' j = 0) → nv 1073741824 c' (i + sb) = nv 1073741824 a i * u → Z 0 0 [wh 1 (sa + sb), ar N c', wh 3 sa, ar Na a, wh 5 sb, ar Nb b] [(0, .ref 0), (1, .ref 2), (2, .ref 4), (3, .int (nI i))] 15 [] := by
    intro m
    induction m with
    | zero =>
      intro i c' lv him hb' hz hval
      obtain rfl : i = sa := by omega
      rw [ha2] at hval
      refine z_iload_n h d_H_multiply_15 rfl ?_
      refine z_aload_n h d_H_multiply_16 rfl ?_
      refine z_get (C := R_H) (T := F_H) (N := 2) h 1 d_H_multiply_17 in_H rfl (by decide) wf_H_15 rfl rfl ?_
      refine z_icmp_geN (tgt := 137) h d_H_multiply_20 (by decide) (by omega) (fun c_20 => ?_) (fun c_20 => ?_)
      · refine z_aload_n h d_H_multiply_137 rfl ?_
        refine z_cV (C := R_H) (ci := 3) h (ms_H_trim N (i + sb) c' (by omega) hfit (fun j => Nat.lt_trans (hb' j) (by decide))) (zf_H_trim (by decide)) wm_H_37 wi_H_trim ws_H_trim rfl ⟨_, rfl⟩ d_H_multiply_138 [0, 1] (by decide) rfl (Nat.le_of_ble_eq_true rfl) rfl (fun _ => rfl) (fun x_138 hx_138 => ?_)
        refine hr.2.2.2.1 _ _ _ _ _ (Nat.le_refl _) (Nat.le_refl _) rfl d_H_multiply_141 ?_
        exact ⟨(c', trm c' (i + sb)), rfl, rfl, Rp_trm hfit hb' hval⟩
      · exact absurd c_20 (by omega)
    | succ m ih =>
      intro i c' lv him hb' hz hval
      have hai := ha1 i
      have I : ∀ (q j r : Nat) (d : Nat → Nat), j + q = sb → (∀ k, d k < 1073741824) → (∀ k, i + j ≤ k → d k = c' k) → r < 1073741824 → nv 1073741824 d (i + j) + r * (1073741824 ^ i * 1073741824 ^ j) = nv 1073741824 c' (i + j) + a i * nv 1073741824 b j * 1073741824 ^ i → Z 0 0 [wh 1 (sa + sb), ar N d, wh 3 sa, ar Na a, wh 5 sb, ar Nb b] [(0, .ref 0), (1, .ref 2), (2, .ref 4), (3, .int (nI i)), (4, .long (lN (a i))), (6, .long (lN r)), (8, .int (nI j))] 52 [] := by
        intro q
        induction q with
        | zero =>
          intro j r d hjq hd hdk hr0 hv2
          obtain rfl : j = sb := by omega
          rw [hb2, hval] at hv2
          refine z_iload h d_H_multiply_52 rfl ?_
          refine z_aload_n h d_H_multiply_54 rfl ?_
          refine z_get (C := R_H) (T := F_H) (N := 2) h 1 d_H_multiply_55 in_H rfl (by decide) wf_H_15 rfl rfl ?_
          refine z_icmp_geN (tgt := 117) h d_H_multiply_58 (by decide) (by omega) (fun c_58 => ?_) (fun c_58 => ?_)
          · refine z_aload_n h d_H_multiply_117 rfl ?_
            refine z_get (C := R_H) (T := F_H) (N := 2) h 0 d_H_multiply_118 in_H rfl (by decide) wf_H_9 rfl rfl ?_
            refine z_iload_n h d_H_multiply_121 rfl ?_
            refine z_aload_n h d_H_multiply_122 rfl ?_
            refine z_get (C := R_H) (T := F_H) (N := 2) h 1 d_H_multiply_123 in_H rfl (by decide) wf_H_15 rfl rfl ?_
            refine z_iaddN h d_H_multiply_126 ?_
            refine z_lload h d_H_multiply_127 rfl ?_
            refine z_l2iN h d_H_multiply_129 ?_
            refine z_iastoreN h d_H_multiply_130 rfl (by omega) ?_
            refine z_iincN h 1 d_H_multiply_131 rfl (by decide) (by decide) ?_
            refine z_goto (tgt := 15) h d_H_multiply_134 (by decide) ?_
            refine z_lv (lv' := [(0, .ref 0), (1, .ref 2), (2, .ref 4), (3, .int (nI (i + 1)))]) h rfl ?_
            refine ih (i + 1) (un d (i + j) r) [] (by omega) (un_lt hd hr0) (fun k q1 q2 => by rw [un_ne (by omega), hdk k (by omega)]; exact hz k (by omega) q2) ?_
            rw [show i + 1 + j = i + j + 1 by omega, nv_put, Nat.pow_add, hv2, nv_s]
            grind
          · exact absurd c_58 (by omega)
        | succ q ih2 =>
          intro j r d hjq hd hdk hr0 hv2
          have hbj := hb1 j
          have hdj := hd (i + j)
          have hm : a i * b j ≤ 1073741823 * 1073741823 := Nat.mul_le_mul (by omega) (by omega)
          have hs_108 : r + (a i * b j + d (i + j)) < 2 ^ 63 := by omega
          refine z_iload h d_H_multiply_52 rfl ?_
          refine z_aload_n h d_H_multiply_54 rfl ?_
          refine z_get (C := R_H) (T := F_H) (N := 2) h 1 d_H_multiply_55 in_H rfl (by decide) wf_H_15 rfl rfl ?_
          refine z_icmp_geN (tgt := 117) h d_H_multiply_58 (by decide) (by omega) (fun c_58 => ?_) (fun c_58 => ?_)
          · exact absurd c_58 (by omega)
          · refine z_lload h d_H_multiply_61 rfl ?_
            refine z_lload h d_H_multiply_63 rfl ?_
            refine z_aload_n h d_H_multiply_65 rfl ?_
            refine z_get (C := R_H) (T := F_H) (N := 2) h 0 d_H_multiply_66 in_H rfl (by decide) wf_H_9 rfl rfl ?_
            refine z_iload h d_H_multiply_69 rfl ?_
            refine z_ialoadN h d_H_multiply_71 rfl (by omega) ?_
            refine z_i2lN h d_H_multiply_72 (by omega) ?_
            refine z_lmulN h d_H_multiply_73 ?_
            refine z_aload_n h d_H_multiply_74 rfl ?_
            refine z_get (C := R_H) (T := F_H) (N := 2) h 0 d_H_multiply_75 in_H rfl (by decide) wf_H_9 rfl rfl ?_
            refine z_iload_n h d_H_multiply_78 rfl ?_
            refine z_iload h d_H_multiply_79 rfl ?_
            refine z_iaddN h d_H_multiply_81 ?_
            refine z_ialoadN h d_H_multiply_82 rfl (by omega) ?_
            refine z_i2lN h d_H_multiply_83 (by omega) ?_
            refine z_laddN h d_H_multiply_84 ?_
            refine z_laddN h d_H_multiply_85 ?_
            refine z_lstore h d_H_multiply_86 (by decide) ?_
            refine z_aload_n h d_H_multiply_88 rfl ?_
            refine z_get (C := R_H) (T := F_H) (N := 2) h 0 d_H_multiply_89 in_H rfl (by decide) wf_H_9 rfl rfl ?_
            refine z_iload_n h d_H_multiply_92 rfl ?_
            refine z_iload h d_H_multiply_93 rfl ?_
            refine z_iaddN h d_H_multiply_95 ?_
            refine z_lload h d_H_multiply_96 rfl ?_
            refine z_ldc2_w (v := lN 1073741823) h d_H_multiply_98 wv_H_19 ?_
            refine z_land30N h d_H_multiply_101 ?_
            refine z_l2iN h d_H_multiply_102 ?_
            refine z_iastoreN h d_H_multiply_103 rfl (by omega) ?_
            refine z_lload h d_H_multiply_104 rfl ?_
            refine z_bipush (v := nI 30) h d_H_multiply_106 (by decide) ?_
            refine z_lshr30N h d_H_multiply_108 hs_108 ?_
            refine z_lstore h d_H_multiply_109 (by decide) ?_
            refine z_iincN h 1 d_H_multiply_111 rfl (by decide) (by decide) ?_
            refine z_goto (tgt := 52) h d_H_multiply_114 (by decide) ?_
            refine z_lv (lv' := [(0, .ref 0), (1, .ref 2), (2, .ref 4), (3, .int (nI i)), (4, .long (lN (a i))), (6, .long (lN ((r + (a i * b j + d (i + j))) / 1073741824))), (8, .int (nI (j + 1)))]) h rfl ?_
            refine ih2 (j + 1) ((r + (a i * b j + d (i + j))) / 1073741824) (un d (i + j) ((r + (a i * b j + d (i + j))) % 1073741824)) (by omega) (un_lt hd (by omega)) (fun k q1 => by rw [un_ne (by omega)]; exact hdk k (by omega)) (by omega) ?_
            rw [show i + (j + 1) = i + j + 1 by omega, nv_put, nv_s, nv_s, Nat.pow_succ, ← Nat.mul_assoc (1073741824 ^ i) (1073741824 ^ j) 1073741824, Nat.pow_add, Nat.add_assoc, carry_step, hdk (i + j) (Nat.le_refl _)]
            exact mul_step (g := 0) hv2
      refine z_iload_n h d_H_multiply_15 rfl ?_
      refine z_aload_n h d_H_multiply_16 rfl ?_
      refine z_get (C := R_H) (T := F_H) (N := 2) h 1 d_H_multiply_17 in_H rfl (by decide) wf_H_15 rfl rfl ?_
      refine z_icmp_geN (tgt := 137) h d_H_multiply_20 (by decide) (by omega) (fun c_20 => ?_) (fun c_20 => ?_)
      · exact absurd c_20 (by omega)
      · refine z_iload_n h d_H_multiply_23 rfl ?_
        refine z_aload_n h d_H_multiply_24 rfl ?_
        refine z_get (C := R_H) (T := F_H) (N := 2) h 1 d_H_multiply_25 in_H rfl (by decide) wf_H_15 rfl rfl ?_
        refine z_iaddN h d_H_multiply_28 ?_
        refine z_aload_n h d_H_multiply_29 rfl ?_
        refine z_get (C := R_H) (T := F_H) (N := 2) h 0 d_H_multiply_30 in_H rfl (by decide) wf_H_9 rfl rfl ?_
        refine z_alenN h d_H_multiply_33 rfl ?_
        refine z_icmp_geN (tgt := 137) h d_H_multiply_34 (by decide) (by omega) (fun c_34 => ?_) (fun c_34 => ?_)
        · exact absurd c_34 (by omega)
        · refine z_aload_n h d_H_multiply_37 rfl ?_
          refine z_get (C := R_H) (T := F_H) (N := 2) h 0 d_H_multiply_38 in_H rfl (by decide) wf_H_9 rfl rfl ?_
          refine z_iload_n h d_H_multiply_41 rfl ?_
          refine z_ialoadN h d_H_multiply_42 rfl (by omega) ?_
          refine z_i2lN h d_H_multiply_43 (by omega) ?_
          refine z_lstore h d_H_multiply_44 (by decide) ?_
          refine z_lconst (v := lN 0) h d_H_multiply_46 (by decide) ?_
          refine z_lstore h d_H_multiply_47 (by decide) ?_
          refine z_iconst (v := nI 0) h d_H_multiply_49 (by decide) ?_
          refine z_istore h d_H_multiply_50 (by decide) ?_
          refine z_lv (lv' := [(0, .ref 0), (1, .ref 2), (2, .ref 4), (3, .int (nI i)), (4, .long (lN (a i))), (6, .long (lN 0)), (8, .int (nI 0))]) h rfl ?_
          exact I sb 0 0 c' (by omega) hb' (fun _ _ => rfl) (by decide) (by simp [nv])
  refine z_aload_n h d_H_multiply_0 rfl ?_
  refine z_aload_n h d_H_multiply_1 rfl ?_
  refine z_get (C := R_H) (T := F_H) (N := 2) h 1 d_H_multiply_2 in_H rfl (by decide) wf_H_15 rfl rfl ?_
  refine z_aload_n h d_H_multiply_5 rfl ?_
  refine z_get (C := R_H) (T := F_H) (N := 2) h 1 d_H_multiply_6 in_H rfl (by decide) wf_H_15 rfl rfl ?_
  refine z_iaddN h d_H_multiply_9 ?_
  refine z_cV (C := R_H) (ci := 3) h (ms_H_zero N s (sa + sb) c (by omega) hfit) (zf_H_zero (by decide)) wm_H_66 wi_H_zero ws_H_zero rfl ⟨_, rfl⟩ d_H_multiply_10 [0, 1] (by decide) rfl (Nat.le_of_ble_eq_true rfl) rfl (fun _ => rfl) (fun x_10 hx_10 => ?_)
  refine z_iconst (v := nI 0) h d_H_multiply_13 (by decide) ?_
  refine z_istore_n h d_H_multiply_14 (by decide) ?_
  refine z_lv (lv' := [(0, .ref 0), (1, .ref 2), (2, .ref 4), (3, .int (nI 0))]) h rfl ?_
  refine L sa 0 (fil c 0 (sa + sb) 0) [] (by omega) (fun j => by unfold fil; split; decide; exact hc j) (fun j q1 q2 => by unfold fil; rw [if_pos (by omega)]) ?_
  rw [Nat.zero_add, fil_nv _ (by omega)]
  simp [nv]
/-! takeAway: factor times some limbs of another number come off, from a place on -/
theorem ta_step {m c x f y n1 n2 : Int} {P B : Int} (h : m + c * P = n1 - f * n2) (q r : Int) (e : q * B + r = c + (x - f * y)) : (m + r * P) + q * (P * B) = (n1 + x * P) - f * (n2 + y * P) := by
  have e2 : (m + r * P) + q * (P * B) = m + (q * B + r) * P := by grind
  rw [e2, e]
  grind
theorem nv_cast_s {a : Nat → Nat} {i : Nat} : (nv 1073741824 a (i + 1) : Int) = (nv 1073741824 a i : Int) + (a i : Int) * (1073741824 : Int) ^ i := by
  rw [nv_s]
  simp
set_option maxRecDepth 100000 in
set_option maxHeartbeats 4000000 in
theorem ms_H_takeAway (N s at_ M t fr many : Nat) (φ : Int) (a b : Nat → Nat) (hN : N < 2 ^ 30) (hM : M < 2 ^ 30) (ha : ∀ j, a j < 1073741824) (hb : ∀ j, b j < 2 ^ 31) (h1 : at_ + many < N) (h2 : fr + many ≤ M) (hφ : -1 ≤ φ ∧ φ < 1073741824) : MS y_H_takeAway c_H_takeAway 10 (some .int) (rm 1) [.ref 0, .int (nI at_), .ref 2, .int (nI fr), .int (nI many), .long (lI φ)] [wh 1 s, ar N a, wh 3 t, ar M b] (zP (X := (Nat → Nat) × Int) (fun x => some (.int (iI x.2))) (fun x => [wh 1 s, ar N x.1, wh 3 t, ar M b]) (fun x => (∀ j, x.1 j < 1073741824) ∧ (∀ j, (j < at_ ∨ at_ + many < j) → x.1 j = a j) ∧ (nv 1073741824 (sh x.1 at_) (many + 1) : Int) + x.2 * (1073741824 : Int) ^ (many + 1) = nv 1073741824 (sh a at_) (many + 1) - φ * nv 1073741824 (sh b fr) many ∧ -4294967296 ≤ x.2 ∧ x.2 ≤ 4294967296)) := by
  refine MS_of (own := R_H) (by decide) rfl (fun _ => Nat.le_of_ble_eq_true rfl) (fun Z h hr => ?_)
  have L : ∀ (m i : Nat) (c : Int) (a' : Nat → Nat), i + m = many → (∀ j, a' j < 1073741824) → (∀ j, (j < at_ ∨ at_ + i ≤ j) → a' j = a j) → -4294967296 ≤ c ∧ c ≤ 4294967296 → (nv 1073741824 (sh a' at_) i : Int) + c * (1073741824 : Int) ^ i = nv 1073741824 (sh a at_) i - φ * nv 1073741824 (sh b fr) i → Z 0 0 [wh 1 s, ar N a', wh 3 t, ar M b] [(0, .ref 0), (1, .int (nI at_)), (2, .ref 2), (3, .int (nI fr)), (4, .int (nI many)), (5, .long (lI φ)), (7, .long (lI c)), (9, .int (nI i))] 32 [] := by
    intro m
    induction m with
    | zero =>
      intro i c a' him ha' hj hc hval
      obtain rfl : i = many := by omega
      have hai := ha' (at_ + i)
      have e9 : (a' (at_ + i) : Int) = sh a at_ i := by rw [hj (at_ + i) (by omega)]; rfl
      have hs1 : -2 ^ 63 ≤ c + (a' (at_ + i) : Int) ∧ c + (a' (at_ + i) : Int) < 2 ^ 63 := by omega
      have hm := emod_nat (c + (a' (at_ + i) : Int))
      have hl := emod_lt (c + (a' (at_ + i) : Int))
      have hd := Int.mul_ediv_add_emod (c + (a' (at_ + i) : Int)) 1073741824
      refine z_iload h d_H_takeAway_32 rfl ?_
      refine z_iload h d_H_takeAway_34 rfl ?_
      refine z_icmp_geN (tgt := 97) h d_H_takeAway_36 (by decide) (by omega) (fun c_36 => ?_) (fun c_36 => ?_)
      · refine z_lload h d_H_takeAway_97 rfl ?_
        refine z_aload_n h d_H_takeAway_99 rfl ?_
        refine z_get (C := R_H) (T := F_H) (N := 2) h 0 d_H_takeAway_100 in_H rfl (by decide) wf_H_9 rfl rfl ?_
        refine z_iload_n h d_H_takeAway_103 rfl ?_
        refine z_iload h d_H_takeAway_104 rfl ?_
        refine z_iaddN h d_H_takeAway_106 ?_
        refine z_ialoadN h d_H_takeAway_107 rfl (by omega) ?_
        refine z_i2lI h d_H_takeAway_108 (by omega) ?_
        refine z_laddI h d_H_takeAway_109 ?_
        refine z_lstore h d_H_takeAway_110 (by decide) ?_
        refine z_aload_n h d_H_takeAway_112 rfl ?_
        refine z_get (C := R_H) (T := F_H) (N := 2) h 0 d_H_takeAway_113 in_H rfl (by decide) wf_H_9 rfl rfl ?_
        refine z_iload_n h d_H_takeAway_116 rfl ?_
        refine z_iload h d_H_takeAway_117 rfl ?_
        refine z_iaddN h d_H_takeAway_119 ?_
        refine z_lload h d_H_takeAway_120 rfl ?_
        refine z_ldc2_w (v := 1073741823) h d_H_takeAway_122 wv_H_19 ?_
        refine z_land30I h d_H_takeAway_125 ?_
        refine z_l2iM h d_H_takeAway_126 ?_
        refine z_iastoreN h d_H_takeAway_127 rfl (by omega) ?_
        refine z_lload h d_H_takeAway_128 rfl ?_
        refine z_bipush (v := 30) h d_H_takeAway_130 (by decide) ?_
        refine z_lshr30I h d_H_takeAway_132 hs1 ?_
        refine z_l2iI h d_H_takeAway_133 ?_
        refine hr.1 _ _ _ _ _ _ (Nat.le_refl _) (Nat.le_refl _) rfl d_H_takeAway_134 ?_
        refine ⟨(un a' (at_ + i) ((c + (a' (at_ + i) : Int)) % 1073741824).toNat, (c + (a' (at_ + i) : Int)) / 1073741824), rfl, rfl, un_lt ha' hl, fun j hjj => by show un a' _ _ j = a j; rw [un_ne (by omega)]; exact hj j (by omega), ?_, by show (-4294967296 : Int) ≤ (c + (a' (at_ + i) : Int)) / 1073741824; omega, by show (c + (a' (at_ + i) : Int)) / 1073741824 ≤ (4294967296 : Int); omega⟩
        have e1 : nv 1073741824 (sh (un a' (at_ + i) ((c + (a' (at_ + i) : Int)) % 1073741824).toNat) at_) i = nv 1073741824 (sh a' at_) i := nv_congr fun j hj2 => by unfold sh; rw [un_ne (by omega)]
        have e2 : sh (un a' (at_ + i) ((c + (a' (at_ + i) : Int)) % 1073741824).toNat) at_ i = ((c + (a' (at_ + i) : Int)) % 1073741824).toNat := un_eq
        show (nv 1073741824 (sh (un a' (at_ + i) ((c + (a' (at_ + i) : Int)) % 1073741824).toNat) at_) (i + 1) : Int) + (c + (a' (at_ + i) : Int)) / 1073741824 * (1073741824 : Int) ^ (i + 1) = _
        rw [nv_cast_s, nv_cast_s, e1, e2, hm, Int.pow_succ, ← e9]
        have e3 := ta_step (P := (1073741824 : Int) ^ i) (B := 1073741824) (x := (a' (at_ + i) : Int)) (y := 0) hval ((c + (a' (at_ + i) : Int)) / 1073741824) ((c + (a' (at_ + i) : Int)) % 1073741824) (by rw [Int.mul_comm, hd]; omega)
        rw [e3]
        simp
      · exact absurd c_36 (by omega)
    | succ m ih =>
      intro i c a' him ha' hj hc hval
      have hai := ha' (at_ + i)
      have hbi := hb (fr + i)
      have e9 : (a' (at_ + i) : Int) = sh a at_ i := by rw [hj (at_ + i) (by omega)]; rfl
      have e8 : (b (fr + i) : Int) = sh b fr i := rfl
      have hp1 : φ * (b (fr + i) : Int) ≤ 1073741823 * 2147483648 := by
        rcases Int.le_total 0 φ with q | q
        · exact Int.mul_le_mul (by omega) (by omega) (by omega) (by omega)
        · have := Int.mul_nonpos_of_nonpos_of_nonneg q (show (0 : Int) ≤ b (fr + i) by omega)
          omega
      have hp2 : -2147483648 ≤ φ * (b (fr + i) : Int) := by
        have h9 : -1 * (b (fr + i) : Int) ≤ φ * (b (fr + i) : Int) := Int.mul_le_mul_of_nonneg_right hφ.1 (by omega)
        omega
      generalize hw : c + ((a' (at_ + i) : Int) - φ * (b (fr + i) : Int)) = ww
      have hs1 : -2 ^ 63 ≤ ww ∧ ww < 2 ^ 63 := by omega
      have hm := emod_nat ww
      have hl := emod_lt ww
      have hd := Int.mul_ediv_add_emod ww 1073741824
      refine z_iload h d_H_takeAway_32 rfl ?_
      refine z_iload h d_H_takeAway_34 rfl ?_
      refine z_icmp_geN (tgt := 97) h d_H_takeAway_36 (by decide) (by omega) (fun c_36 => ?_) (fun c_36 => ?_)
      · exact absurd c_36 (by omega)
      · refine z_lload h d_H_takeAway_39 rfl ?_
        refine z_aload_n h d_H_takeAway_41 rfl ?_
        refine z_get (C := R_H) (T := F_H) (N := 2) h 0 d_H_takeAway_42 in_H rfl (by decide) wf_H_9 rfl rfl ?_
        refine z_iload_n h d_H_takeAway_45 rfl ?_
        refine z_iload h d_H_takeAway_46 rfl ?_
        refine z_iaddN h d_H_takeAway_48 ?_
        refine z_ialoadN h d_H_takeAway_49 rfl (by omega) ?_
        refine z_i2lI h d_H_takeAway_50 (by omega) ?_
        refine z_lload h d_H_takeAway_51 rfl ?_
        refine z_aload_n h d_H_takeAway_53 rfl ?_
        refine z_get (C := R_H) (T := F_H) (N := 2) h 0 d_H_takeAway_54 in_H rfl (by decide) wf_H_9 rfl rfl ?_
        refine z_iload_n h d_H_takeAway_57 rfl ?_
        refine z_iload h d_H_takeAway_58 rfl ?_
        refine z_iaddN h d_H_takeAway_60 ?_
        refine z_ialoadN h d_H_takeAway_61 rfl (by omega) ?_
        refine z_i2lI h d_H_takeAway_62 (by omega) ?_
        refine z_lmulI h d_H_takeAway_63 ?_
        refine z_lsubI h d_H_takeAway_64 ?_
        refine z_laddI h d_H_takeAway_65 ?_
        rw [hw]
        refine z_lstore h d_H_takeAway_66 (by decide) ?_
        refine z_aload_n h d_H_takeAway_68 rfl ?_
        refine z_get (C := R_H) (T := F_H) (N := 2) h 0 d_H_takeAway_69 in_H rfl (by decide) wf_H_9 rfl rfl ?_
        refine z_iload_n h d_H_takeAway_72 rfl ?_
        refine z_iload h d_H_takeAway_73 rfl ?_
        refine z_iaddN h d_H_takeAway_75 ?_
        refine z_lload h d_H_takeAway_76 rfl ?_
        refine z_ldc2_w (v := 1073741823) h d_H_takeAway_78 wv_H_19 ?_
        refine z_land30I h d_H_takeAway_81 ?_
        refine z_l2iM h d_H_takeAway_82 ?_
        refine z_iastoreN h d_H_takeAway_83 rfl (by omega) ?_
        refine z_lload h d_H_takeAway_84 rfl ?_
        refine z_bipush (v := 30) h d_H_takeAway_86 (by decide) ?_
        refine z_lshr30I h d_H_takeAway_88 hs1 ?_
        refine z_lstore h d_H_takeAway_89 (by decide) ?_
        refine z_iincN h 1 d_H_takeAway_91 rfl (by decide) (by decide) ?_
        refine z_goto (tgt := 32) h d_H_takeAway_94 (by decide) ?_
        refine z_lv (lv' := [(0, .ref 0), (1, .int (nI at_)), (2, .ref 2), (3, .int (nI fr)), (4, .int (nI many)), (5, .long (lI φ)), (7, .long (lI (ww / 1073741824))), (9, .int (nI (i + 1)))]) h rfl ?_
        refine ih (i + 1) (ww / 1073741824) (un a' (at_ + i) (ww % 1073741824).toNat) (by omega) (un_lt ha' hl) (fun j hjj => by rw [un_ne (by omega)]; exact hj j (by omega)) (by omega) ?_
        have e1 : nv 1073741824 (sh (un a' (at_ + i) (ww % 1073741824).toNat) at_) i = nv 1073741824 (sh a' at_) i := nv_congr fun j hj2 => by unfold sh; rw [un_ne (by omega)]
        have e2 : sh (un a' (at_ + i) (ww % 1073741824).toNat) at_ i = (ww % 1073741824).toNat := un_eq
        rw [nv_cast_s, nv_cast_s, nv_cast_s, e1, e2, hm, Int.pow_succ, ← e9, ← e8]
        exact ta_step hval (ww / 1073741824) (ww % 1073741824) (by rw [Int.mul_comm, hd, ← hw])
  refine z_lconst (v := 0) h d_H_takeAway_0 (by decide) ?_
  refine z_lstore h d_H_takeAway_1 (by decide) ?_
  refine z_iload_n h d_H_takeAway_3 rfl ?_
  refine z_iload h d_H_takeAway_4 rfl ?_
  refine z_iaddN h d_H_takeAway_6 ?_
  refine z_aload_n h d_H_takeAway_7 rfl ?_
  refine z_get (C := R_H) (T := F_H) (N := 2) h 0 d_H_takeAway_8 in_H rfl (by decide) wf_H_9 rfl rfl ?_
  refine z_alenN h d_H_takeAway_11 rfl ?_
  refine z_icmp_geN (tgt := 27) h d_H_takeAway_12 (by decide) (by omega) (fun c_12 => ?_) (fun c_12 => ?_)
  · exact absurd c_12 (by omega)
  · refine z_iload_n h d_H_takeAway_15 rfl ?_
    refine z_iload h d_H_takeAway_16 rfl ?_
    refine z_iaddN h d_H_takeAway_18 ?_
    refine z_aload_n h d_H_takeAway_19 rfl ?_
    refine z_get (C := R_H) (T := F_H) (N := 2) h 0 d_H_takeAway_20 in_H rfl (by decide) wf_H_9 rfl rfl ?_
    refine z_alenN h d_H_takeAway_23 rfl ?_
    refine z_icmp_leN (tgt := 29) h d_H_takeAway_24 (by decide) (by omega) (fun c_24 => ?_) (fun c_24 => ?_)
    · refine z_iconst (v := nI 0) h d_H_takeAway_29 (by decide) ?_
      refine z_istore h d_H_takeAway_30 (by decide) ?_
      refine z_lv (lv' := [(0, .ref 0), (1, .int (nI at_)), (2, .ref 2), (3, .int (nI fr)), (4, .int (nI many)), (5, .long (lI φ)), (7, .long (lI 0)), (9, .int (nI 0))]) h rfl ?_
      exact L many 0 0 a (by omega) ha (fun _ _ => rfl) (by omega) (by simp [nv])
    · exact absurd c_24 (by omega)
end
section
/-! digits of a number in a base -/
def ndF (b : Nat) : Nat → Nat → Nat
  | 0, _ => 1
  | m + 1, v => if v < b then 1 else ndF b m (v / b) + 1
/-- how many digits v has in base b -/
def nd (b v : Nat) : Nat := ndF b v v
theorem ndF_spec {b : Nat} (hb : 2 ≤ b) : ∀ (m v : Nat), v ≤ m → 1 ≤ ndF b m v ∧ v < b ^ ndF b m v ∧ (ndF b m v = 1 ∨ b ^ (ndF b m v - 1) ≤ v)
  | 0, v, h => by
    have : v = 0 := by omega
    subst this
    refine ⟨Nat.le_refl 1, ?_, Or.inl rfl⟩
    show 0 < b ^ 1
    rw [Nat.pow_one]
    omega
  | m + 1, v, h => by
    show 1 ≤ (if v < b then 1 else ndF b m (v / b) + 1) ∧ v < b ^ (if v < b then 1 else ndF b m (v / b) + 1) ∧ ((if v < b then 1 else ndF b m (v / b) + 1) = 1 ∨ b ^ ((if v < b then 1 else ndF b m (v / b) + 1) - 1) ≤ v)
    split
    · rename_i h1
      exact ⟨Nat.le_refl 1, by rw [Nat.pow_one]; exact h1, Or.inl rfl⟩
    · rename_i h1
      have h2 : v / b < v := Nat.div_lt_self (by omega) (by omega)
      obtain ⟨g1, g2, g3⟩ := ndF_spec hb m (v / b) (by omega)
      refine ⟨by omega, ?_, Or.inr ?_⟩
      · rw [Nat.pow_succ]
        exact (Nat.div_lt_iff_lt_mul (by omega)).mp g2
      · rw [Nat.add_sub_cancel]
        rcases g3 with g3 | g3
        · rw [g3, Nat.pow_one]
          omega
        · have e : ndF b m (v / b) = (ndF b m (v / b) - 1) + 1 := by omega
          rw [e, Nat.pow_succ]
          exact Nat.le_trans (Nat.mul_le_mul_right b g3) (Nat.div_mul_le_self v b)
theorem nd_spec {b : Nat} (hb : 2 ≤ b) (v : Nat) : 1 ≤ nd b v ∧ v < b ^ nd b v ∧ (nd b v = 1 ∨ b ^ (nd b v - 1) ≤ v) := ndF_spec hb v v (Nat.le_refl v)
theorem nd_uniq {b v d : Nat} (hb : 2 ≤ b) (h1 : 1 ≤ d) (h2 : v < b ^ d) (h3 : d = 1 ∨ b ^ (d - 1) ≤ v) : d = nd b v := by
  obtain ⟨g1, g2, g3⟩ := nd_spec hb v
  rcases Nat.lt_trichotomy d (nd b v) with q | q | q
  · rcases g3 with g3 | g3
    · omega
    · have : b ^ d ≤ b ^ (nd b v - 1) := Nat.pow_le_pow_right (by omega) (by omega)
      omega
  · exact q
  · rcases h3 with h3 | h3
    · omega
    · have : b ^ nd b v ≤ b ^ (d - 1) := Nat.pow_le_pow_right (by omega) (by omega)
      omega
theorem dpg_lo : ∀ b, b < 37 → 2 ≤ b → 33554432 ≤ b ^ dpg b := by decide +kernel
/-- the value of groups of base G, limb k of it -/
theorem nv_dig {G : Nat} {g : Nat → Nat} (hG : 0 < G) : ∀ {n k : Nat}, k < n → (∀ j, j < n → g j < G) → nv G g n / G ^ k % G = g k := by
  intro n k hk hg
  have e1 := nv_split (B := G) (a := g) (k := k) (m := n - k)
  rw [show k + (n - k) = n by omega] at e1
  have e2 : nv G g k < G ^ k := nv_lt fun j hj => hg j (by omega)
  have e3 : nv G g n / G ^ k = nv G (sh g k) (n - k) := by rw [e1, Nat.add_mul_div_right _ _ (Nat.pow_pos hG), Nat.div_eq_of_lt e2, Nat.zero_add]
  have e4 := nv_split (B := G) (a := sh g k) (k := 1) (m := n - k - 1)
  rw [show 1 + (n - k - 1) = n - k by omega] at e4
  have e5 : nv G (sh g k) 1 = g k := by
    show 0 + sh g k 0 * G ^ 0 = g k
    unfold sh
    simp
  rw [e3, e4, e5, Nat.pow_one, Nat.add_mul_mod_self_right, Nat.mod_eq_of_lt (hg k hk)]
/-- the digit with b^j of v -/
def dig (b v j : Nat) : Nat := v / b ^ j % b
theorem grp_dig {b p v k r : Nat} (hb : 0 < b) (hr : r < p) : (v / (b ^ p) ^ k % b ^ p) / b ^ r % b = dig b v (p * k + r) := by
  unfold dig
  rw [← Nat.pow_mul]
  generalize hx : v / b ^ (p * k) = x
  have e1 : v / b ^ (p * k + r) = x / b ^ r := by rw [Nat.pow_add, ← Nat.div_div_eq_div_mul, hx]
  rw [e1]
  have e2 : b ^ p = b ^ r * (b * b ^ (p - r - 1)) := by
    rw [← Nat.mul_assoc, ← Nat.pow_succ, ← Nat.pow_add]
    congr 1
    omega
  rw [e2, Nat.mod_mul_right_div_self, Nat.mod_mul_right_mod]
/-- the sum of the lowest n digits -/
def dsm (b v : Nat) : Nat → Nat
  | 0 => 0
  | n + 1 => dsm b v n + dig b v n
theorem dig_0 {b v j : Nat} (h : v < b ^ j) : dig b v j = 0 := by
  unfold dig
  rw [Nat.div_eq_of_lt h, Nat.zero_mod]
theorem dsm_more {b v n : Nat} (hb : 2 ≤ b) (h : v < b ^ n) : ∀ {m : Nat}, n ≤ m → dsm b v m = dsm b v n
  | 0, hm => by rw [show n = 0 by omega]
  | m + 1, hm => by
    by_cases e : n = m + 1
    · rw [e]
    · show dsm b v m + dig b v m = _
      rw [dsm_more hb h (m := m) (by omega), dig_0 (Nat.lt_of_lt_of_le h (Nat.pow_le_pow_right (by omega) (by omega))), Nat.add_zero]
theorem dig_lt {b v j : Nat} (hb : 0 < b) : dig b v j < b := Nat.mod_lt _ hb
theorem dsm_le {b v : Nat} (hb : 0 < b) : ∀ n, dsm b v n ≤ n * b
  | 0 => Nat.zero_le _
  | n + 1 => by
    have h1 := dsm_le hb (b := b) (v := v) n
    have h2 := dig_lt (v := v) (j := n) hb
    show dsm b v n + dig b v n ≤ (n + 1) * b
    rw [Nat.add_mul]
    omega
/-! the state of a Text -/
abbrev tx (p1 b p3 gu pg p5 dg td : Nat) : va_E := .inr (2, [.ref p1, .int (nI b), .ref p3, .int (nI gu), .int (nI pg), .ref p5, .int (nI dg), .int (nI td)])
def Tld (b v gu pg dg : Nat) (g pw : Nat → Nat) : Prop := pg = dpg b ∧ (∀ j, j ≤ pg → pw j = b ^ j) ∧ 1 ≤ gu ∧ (∀ j, j < gu → g j < b ^ pg) ∧ nv (b ^ pg) g gu = v ∧ (gu = 1 ∨ g (gu - 1) ≠ 0) ∧ dg = nd b v
def TI (b v s : Nat) (a : Nat → Nat) (gu pg dg td : Nat) (g pw : Nat → Nat) : Prop := Rp 1073741824 800 a s v ∧ (2 ≤ b ∧ b < 37) ∧ gu ≤ 960 ∧ (∀ j, g j < 2 ^ 31) ∧ (∀ j, pw j < 2 ^ 31) ∧ pg < 2 ^ 31 ∧ dg < 2 ^ 31 ∧ td ≤ 1 ∧ (td = 1 → Tld b v gu pg dg g pw)
end
section
/-! DigitMill$Text -/
abbrev tW (b gu pg dg td s : Nat) (a g pw : Nat → Nat) : List va_E := [tx 1 b 3 gu pg 4 dg td, wh 2 s, ar 800 a, ar 960 g, ar 31 pw]
set_option maxRecDepth 100000 in
set_option maxHeartbeats 4000000 in
theorem ms_T_changeBase (b b' gu pg dg td s : Nat) (a g pw : Nat → Nat) : MS y_T_changeBase c_T_changeBase 2 none (rm 1) [.ref 0, .int (nI b')] (tW b gu pg dg td s a g pw) (zP (X := Unit) (fun _ => none) (fun _ => tW b' gu pg dg 0 s a g pw) (fun _ => True)) := by
  refine MS_of (own := R_T) (by decide) rfl (fun _ => Nat.le_of_ble_eq_true rfl) (fun Z h hr => ?_)
  refine z_aload_n h d_T_changeBase_0 rfl ?_
  refine z_iload_n h d_T_changeBase_1 rfl ?_
  refine z_put (C := R_T) (T := F_T) (N := 8) (ty := .int) h 1 d_T_changeBase_2 in_T rfl ft_T_ok n_T (by decide) wf_T_20 rfl rfl rfl rfl rfl (Nat.le_of_ble_eq_true rfl) ?_
  refine z_aload_n h d_T_changeBase_5 rfl ?_
  refine z_iconst (v := nI 0) h d_T_changeBase_6 (by decide) ?_
  refine z_put (C := R_T) (T := F_T) (N := 8) (ty := .boolean) h 7 d_T_changeBase_7 in_T rfl ft_T_ok n_T (by decide) wf_T_40 rfl rfl (by decide) (by decide) rfl (Nat.le_of_ble_eq_true rfl) ?_
  refine hr.2.2.2.1 _ _ _ _ _ (Nat.le_refl _) (Nat.le_refl _) rfl d_T_changeBase_10 ?_
  exact ⟨(), rfl, rfl, trivial⟩
set_option maxRecDepth 100000 in
set_option maxHeartbeats 4000000 in
theorem ms_T_setPowers (b gu pg dg td s : Nat) (a g pw : Nat → Nat) (hb : 2 ≤ b ∧ b < 37) (hp : ∀ j, pw j < 2 ^ 31) : MS y_T_setPowers c_T_setPowers 2 none (rm 2) [.ref 0] (tW b gu pg dg td s a g pw) (zP (X := Nat → Nat) (fun _ => none) (fun x => tW b gu (dpg b) dg td s a g x) (fun x => (∀ j, x j < 2 ^ 31) ∧ ∀ j, j ≤ dpg b → x j = b ^ j)) := by
  refine MS_of (own := R_T) (by decide) rfl (fun _ => Nat.le_of_ble_eq_true rfl) (fun Z h hr => ?_)
  obtain ⟨hg1, hg2, hg3⟩ := dpg_ok b hb.2 hb.1
  have hbk : ∀ k, k ≤ dpg b → b ^ k ≤ 1073741824 := fun k hk => Nat.le_trans (Nat.pow_le_pow_right (by omega) hk) hg3
  have L : ∀ (m i : Nat) (x : Nat → Nat), i + m = dpg b + 1 → 1 ≤ i → (∀ j, x j < 2 ^ 31) → (∀ j, j < i → x j = b ^ j) → Z 0 0 (tW b gu (dpg b) dg td s a g x) [(0, .ref 0), (1, .int (nI i))] 20 [] := by
    intro m
    induction m with
    | zero =>
      intro i x him hi hx hj
      refine z_iload_n h d_T_setPowers_20 rfl ?_
      refine z_aload_n h d_T_setPowers_21 rfl ?_
      refine z_get (C := R_T) (T := F_T) (N := 8) h 4 d_T_setPowers_22 in_T rfl (by decide) wf_T_61 rfl rfl ?_
      refine z_icmp_gtN (tgt := 53) h d_T_setPowers_25 (by decide) (by omega) (fun c_25 => ?_) (fun c_25 => ?_)
      · refine hr.2.2.2.1 _ _ _ _ _ (Nat.le_refl _) (Nat.le_refl _) rfl d_T_setPowers_53 ?_
        exact ⟨x, rfl, rfl, hx, fun j q => hj j (by omega)⟩
      · exact absurd c_25 (by omega)
    | succ m ih =>
      intro i x him hi hx hj
      obtain ⟨i, rfl⟩ : ∃ k, i = k + 1 := ⟨i - 1, by omega⟩
      have e := hj i (by omega)
      have e2 := hbk (i + 1) (by omega)
      refine z_iload_n h d_T_setPowers_20 rfl ?_
      refine z_aload_n h d_T_setPowers_21 rfl ?_
      refine z_get (C := R_T) (T := F_T) (N := 8) h 4 d_T_setPowers_22 in_T rfl (by decide) wf_T_61 rfl rfl ?_
      refine z_icmp_gtN (tgt := 53) h d_T_setPowers_25 (by decide) (by omega) (fun c_25 => ?_) (fun c_25 => ?_)
      · exact absurd c_25 (by omega)
      · refine z_aload_n h d_T_setPowers_28 rfl ?_
        refine z_get (C := R_T) (T := F_T) (N := 8) h 5 d_T_setPowers_29 in_T rfl (by decide) wf_T_28 rfl rfl ?_
        refine z_iload_n h d_T_setPowers_32 rfl ?_
        refine z_aload_n h d_T_setPowers_33 rfl ?_
        refine z_get (C := R_T) (T := F_T) (N := 8) h 5 d_T_setPowers_34 in_T rfl (by decide) wf_T_28 rfl rfl ?_
        refine z_iload_n h d_T_setPowers_37 rfl ?_
        refine z_iconst (v := nI 1) h d_T_setPowers_38 (by decide) ?_
        refine z_isubN h d_T_setPowers_39 (by omega) ?_
        refine z_ialoadN h d_T_setPowers_40 rfl (by omega) ?_
        rw [Nat.add_sub_cancel, e]
        refine z_aload_n h d_T_setPowers_41 rfl ?_
        refine z_get (C := R_T) (T := F_T) (N := 8) h 1 d_T_setPowers_42 in_T rfl (by decide) wf_T_20 rfl rfl ?_
        refine z_imulN h d_T_setPowers_45 ?_
        rw [← Nat.pow_succ]
        refine z_iastoreN h d_T_setPowers_46 rfl (by omega) ?_
        refine z_iincN h 1 d_T_setPowers_47 rfl (by decide) (by decide) ?_
        refine z_goto (tgt := 20) h d_T_setPowers_50 (by decide) ?_
        refine z_lv h rfl (ih (i + 1 + 1) (un x (i + 1) (b ^ (i + 1))) (by omega) (by omega) (un_lt hx (by omega)) (fun j q => ?_))
        by_cases e3 : j = i + 1
        · rw [e3, un_eq]
        · rw [un_ne e3]
          exact hj j (by omega)
  refine z_aload_n h d_T_setPowers_0 rfl ?_
  refine z_aload_n h d_T_setPowers_1 rfl ?_
  refine z_get (C := R_T) (T := F_T) (N := 8) h 1 d_T_setPowers_2 in_T rfl (by decide) wf_T_20 rfl rfl ?_
  refine z_cSN h (ms_D_digitsPerGroup b hb.2) (zf_D_digitsPerGroup (by decide)) wm_T_80 wt_D_digitsPerGroup d_T_setPowers_5 [] (by decide) rfl (Nat.le_of_ble_eq_true rfl) rfl (fun _ => rfl) (fun x_5 hx_5 => ?_)
  refine z_put (C := R_T) (T := F_T) (N := 8) (ty := .int) h 4 d_T_setPowers_8 in_T rfl ft_T_ok n_T (by decide) wf_T_61 rfl rfl rfl rfl rfl (Nat.le_of_ble_eq_true rfl) ?_
  refine z_aload_n h d_T_setPowers_11 rfl ?_
  refine z_get (C := R_T) (T := F_T) (N := 8) h 5 d_T_setPowers_12 in_T rfl (by decide) wf_T_28 rfl rfl ?_
  refine z_iconst (v := nI 0) h d_T_setPowers_15 (by decide) ?_
  refine z_iconst (v := nI 1) h d_T_setPowers_16 (by decide) ?_
  refine z_iastoreN h d_T_setPowers_17 rfl (by omega) ?_
  refine z_iconst (v := nI 1) h d_T_setPowers_18 (by decide) ?_
  refine z_istore_n h d_T_setPowers_19 (by decide) ?_
  refine z_lv (lv' := [(0, .ref 0), (1, .int (nI 1))]) h rfl (L (dpg b) 1 (un pw 0 1) (by omega) (Nat.le_refl 1) (un_lt hp (by decide)) (fun j q => ?_))
  rw [show j = 0 by omega, un_eq, Nat.pow_zero]
theorem meas_val {b p gu v i : Nat} {g : Nat → Nat} (hb : 2 ≤ b) (hg : ∀ j, j < gu + 1 → g j < b ^ p) (hv : nv (b ^ p) g (gu + 1) = v) (ht : gu + 1 = 1 ∨ g gu ≠ 0) (h1 : 1 ≤ i) (h2 : g gu < b ^ i) (h3 : i = 1 ∨ b ^ (i - 1) ≤ g gu) : gu * p + i = nd b v := by
  have e1 : v = nv (b ^ p) g gu + g gu * (b ^ p) ^ gu := hv.symm
  have e2 : nv (b ^ p) g gu < (b ^ p) ^ gu := nv_lt fun j hj => hg j (by omega)
  rw [← Nat.pow_mul] at e1 e2
  have hpp : 0 < b ^ (p * gu) := Nat.pow_pos (by omega)
  apply nd_uniq hb (by omega)
  · rw [Nat.mul_comm gu p, Nat.pow_add]
    have : (g gu + 1) * b ^ (p * gu) ≤ b ^ i * b ^ (p * gu) := Nat.mul_le_mul_right _ h2
    rw [Nat.add_mul] at this
    rw [Nat.mul_comm (b ^ (p * gu))]
    omega
  · rcases h3 with h3 | h3
    · subst h3
      rcases ht with ht | ht
      · refine Or.inl ?_
        rw [show gu = 0 by omega]
        omega
      · refine Or.inr ?_
        have : 1 * b ^ (p * gu) ≤ g gu * b ^ (p * gu) := Nat.mul_le_mul_right _ (by omega)
        rw [Nat.add_sub_cancel, Nat.mul_comm gu p]
        omega
    · refine Or.inr ?_
      have : b ^ (i - 1) * b ^ (p * gu) ≤ g gu * b ^ (p * gu) := Nat.mul_le_mul_right _ h3
      rw [← Nat.pow_add] at this
      rw [show gu * p + i - 1 = i - 1 + p * gu by rw [Nat.mul_comm]; omega]
      omega
set_option maxRecDepth 100000 in
set_option maxHeartbeats 4000000 in
theorem ms_T_measure (b v gu dg td s : Nat) (a g pw : Nat → Nat) (hb : 2 ≤ b ∧ b < 37) (hgu : gu < 960) (hg : ∀ j, j < gu + 1 → g j < b ^ dpg b) (hv : nv (b ^ dpg b) g (gu + 1) = v) (ht : gu + 1 = 1 ∨ g gu ≠ 0) (hpw : ∀ j, j ≤ dpg b → pw j = b ^ j) : MS y_T_measure c_T_measure 3 none (rm 1) [.ref 0] (tW b (gu + 1) (dpg b) dg td s a g pw) (zP (X := Unit) (fun _ => none) (fun _ => tW b (gu + 1) (dpg b) (nd b v) td s a g pw) (fun _ => True)) := by
  refine MS_of (own := R_T) (by decide) rfl (fun _ => Nat.le_of_ble_eq_true rfl) (fun Z h hr => ?_)
  obtain ⟨hg1, hg2, hg3⟩ := dpg_ok b hb.2 hb.1
  have hbk : ∀ k, k ≤ dpg b → b ^ k ≤ 1073741824 := fun k hk => Nat.le_trans (Nat.pow_le_pow_right (by omega) hk) hg3
  have hgg := hg gu (by omega)
  have E : ∀ i, 1 ≤ i → g gu < b ^ i → (i = 1 ∨ b ^ (i - 1) ≤ g gu) → Z 0 0 (tW b (gu + 1) (dpg b) dg td s a g pw) [(0, .ref 0), (1, .int (nI (g gu))), (2, .int (nI i))] 38 [] := by
    intro i h1 h2 h3
    refine z_aload_n h d_T_measure_38 rfl ?_
    refine z_aload_n h d_T_measure_39 rfl ?_
    refine z_get (C := R_T) (T := F_T) (N := 8) h 3 d_T_measure_40 in_T rfl (by decide) wf_T_34 rfl rfl ?_
    refine z_iconst (v := nI 1) h d_T_measure_43 (by decide) ?_
    refine z_isubN h d_T_measure_44 (by omega) ?_
    refine z_aload_n h d_T_measure_45 rfl ?_
    rw [Nat.add_sub_cancel]
    refine z_get (C := R_T) (T := F_T) (N := 8) h 4 d_T_measure_46 in_T rfl (by decide) wf_T_61 rfl rfl ?_
    refine z_imulN h d_T_measure_49 ?_
    refine z_iload_n h d_T_measure_50 rfl ?_
    refine z_iaddN h d_T_measure_51 ?_
    refine z_put (C := R_T) (T := F_T) (N := 8) (ty := .int) h 6 d_T_measure_52 in_T rfl ft_T_ok n_T (by decide) wf_T_37 rfl rfl rfl rfl rfl (Nat.le_of_ble_eq_true rfl) ?_
    refine hr.2.2.2.1 _ _ _ _ _ (Nat.le_refl _) (Nat.le_refl _) rfl d_T_measure_55 ?_
    exact ⟨(), rfl, by rw [← meas_val hb.1 hg hv ht h1 h2 h3]; rfl, trivial⟩
  have L : ∀ (m i : Nat), i + m = dpg b → 1 ≤ i → (i = 1 ∨ b ^ (i - 1) ≤ g gu) → Z 0 0 (tW b (gu + 1) (dpg b) dg td s a g pw) [(0, .ref 0), (1, .int (nI (g gu))), (2, .int (nI i))] 14 [] := by
    intro m
    induction m with
    | zero =>
      intro i him hi hlo
      refine z_iload_n h d_T_measure_14 rfl ?_
      refine z_aload_n h d_T_measure_15 rfl ?_
      refine z_get (C := R_T) (T := F_T) (N := 8) h 4 d_T_measure_16 in_T rfl (by decide) wf_T_61 rfl rfl ?_
      refine z_icmp_geN (tgt := 38) h d_T_measure_19 (by decide) (by omega) (fun c_19 => ?_) (fun c_19 => ?_)
      · exact E i hi (by rw [show i = dpg b by omega]; exact hgg) hlo
      · exact absurd c_19 (by omega)
    | succ m ih =>
      intro i him hi hlo
      have e := hpw i (by omega)
      have e2 := hbk i (by omega)
      refine z_iload_n h d_T_measure_14 rfl ?_
      refine z_aload_n h d_T_measure_15 rfl ?_
      refine z_get (C := R_T) (T := F_T) (N := 8) h 4 d_T_measure_16 in_T rfl (by decide) wf_T_61 rfl rfl ?_
      refine z_icmp_geN (tgt := 38) h d_T_measure_19 (by decide) (by omega) (fun c_19 => ?_) (fun c_19 => ?_)
      · exact absurd c_19 (by omega)
      · refine z_iload_n h d_T_measure_22 rfl ?_
        refine z_aload_n h d_T_measure_23 rfl ?_
        refine z_get (C := R_T) (T := F_T) (N := 8) h 5 d_T_measure_24 in_T rfl (by decide) wf_T_28 rfl rfl ?_
        refine z_iload_n h d_T_measure_27 rfl ?_
        refine z_ialoadN h d_T_measure_28 rfl (by omega) ?_
        rw [e]
        refine z_icmp_ltN (tgt := 38) h d_T_measure_29 (by decide) (by omega) (fun c_29 => ?_) (fun c_29 => ?_)
        · exact E i hi c_29 hlo
        · refine z_iincN h 1 d_T_measure_32 rfl (by decide) (by decide) ?_
          refine z_goto (tgt := 14) h d_T_measure_35 (by decide) ?_
          refine z_lv h rfl (ih (i + 1) (by omega) (by omega) (Or.inr ?_))
          rw [Nat.add_sub_cancel]
          exact c_29
  refine z_aload_n h d_T_measure_0 rfl ?_
  refine z_get (C := R_T) (T := F_T) (N := 8) h 2 d_T_measure_1 in_T rfl (by decide) wf_T_24 rfl rfl ?_
  refine z_aload_n h d_T_measure_4 rfl ?_
  refine z_get (C := R_T) (T := F_T) (N := 8) h 3 d_T_measure_5 in_T rfl (by decide) wf_T_34 rfl rfl ?_
  refine z_iconst (v := nI 1) h d_T_measure_8 (by decide) ?_
  refine z_isubN h d_T_measure_9 (by omega) ?_
  refine z_ialoadN h d_T_measure_10 rfl (by omega) ?_
  rw [Nat.add_sub_cancel]
  refine z_istore_n h d_T_measure_11 (by decide) ?_
  refine z_iconst (v := nI 1) h d_T_measure_12 (by decide) ?_
  refine z_istore_n h d_T_measure_13 (by decide) ?_
  exact z_lv h rfl (L (dpg b - 1) 1 (by omega) (Nat.le_refl 1) (Or.inl rfl))
set_option maxRecDepth 100000 in
set_option maxHeartbeats 4000000 in
/-- the number and the base are new; nothing is told -/
theorem ms_T_replace (b b' gu pg dg td s M t v : Nat) (a g pw c : Nat → Nat) (ha : ∀ j, a j < 1073741824) (hM : M < 2 ^ 31) (ht : t ≤ 800) (hc : Rp 1073741824 M c t v) : MS y_T_replace c_T_replace 3 none (rm 4) [.ref 0, .ref 5, .int (nI b')] (tW b gu pg dg td s a g pw ++ [wh 6 t, ar M c]) (zP (X := (Nat → Nat) × Nat) (fun _ => none) (fun x => tW b' gu pg dg 0 x.2 x.1 g pw ++ [wh 6 t, ar M c]) (fun x => Rp 1073741824 800 x.1 x.2 v)) := by
  refine MS_of (own := R_T) (by decide) rfl (fun _ => Nat.le_of_ble_eq_true rfl) (fun Z h hr => ?_)
  refine z_aload_n h d_T_replace_0 rfl ?_
  refine z_get (C := R_T) (T := F_T) (N := 8) h 0 d_T_replace_1 in_T rfl (by decide) wf_T_14 rfl rfl ?_
  refine z_aload_n h d_T_replace_4 rfl ?_
  refine z_cV (C := R_H) (ci := 3) h (ms_H_copy 800 s M t v a c (by decide) hM ht ha hc) (zf_H_copy (by decide)) wm_T_44 wi_H_copy ws_H_copy rfl ⟨_, rfl⟩ d_T_replace_5 [1, 2, 5, 6] (by decide) rfl (Nat.le_of_ble_eq_true rfl) rfl (fun _ => rfl) (fun x_5 hx_5 => ?_)
  refine z_aload_n h d_T_replace_8 rfl ?_
  refine z_iload_n h d_T_replace_9 rfl ?_
  refine z_cV (C := R_T) (ci := 2) h (ms_T_changeBase b b' gu pg dg td x_5.2 x_5.1 g pw) (zf_T_changeBase (by decide)) wm_T_48 wi_T_changeBase ws_T_changeBase rfl ⟨_, rfl⟩ d_T_replace_10 [0, 1, 2, 3, 4] (by decide) rfl (Nat.le_of_ble_eq_true rfl) rfl (fun _ => rfl) (fun x_10 hx_10 => ?_)
  refine hr.2.2.2.1 _ _ _ _ _ (Nat.le_refl _) (Nat.le_refl _) rfl d_T_replace_13 ?_
  exact ⟨x_5, rfl, rfl, hx_5⟩
theorem G960 {b : Nat} (hb : 2 ≤ b ∧ b < 37) : (1073741824 : Nat) ^ 800 ≤ (b ^ dpg b) ^ 960 := by
  have h1 : (33554432 : Nat) ^ 960 ≤ (b ^ dpg b) ^ 960 := Nat.pow_le_pow_left (dpg_lo b hb.2 hb.1) 960
  have h2 : (1073741824 : Nat) ^ 800 = 33554432 ^ 960 := by rw [show (1073741824 : Nat) = 2 ^ 30 by decide, show (33554432 : Nat) = 2 ^ 25 by decide, ← Nat.pow_mul, ← Nat.pow_mul]
  rw [h2]
  exact h1
theorem tell_step {v n r G P : Nat} (h : v = n + r * P) : v = (n + r % G * P) + r / G * (P * G) := by
  have e := Nat.mod_add_div r G
  have e2 : (n + r % G * P) + r / G * (P * G) = n + (r % G + G * (r / G)) * P := by grind
  rw [e2, e]
  exact h
set_option maxRecDepth 100000 in
set_option maxHeartbeats 8000000 in
/-- the digits are made if they aren't known; the scratch is used up -/
theorem ms_T_tell (b v gu pg dg td s t : Nat) (a g pw c : Nat → Nat) (hT : TI b v s a gu pg dg td g pw) (hc : ∀ j, c j < 1073741824) (ht : t ≤ 1400) : MS y_T_tell c_T_tell 3 none (rm 4) [.ref 0, .ref 5] (tW b gu pg dg td s a g pw ++ [wh 6 t, ar 1400 c]) (zP (X := Nat × Nat × (Nat → Nat) × (Nat → Nat) × Nat × (Nat → Nat)) (fun _ => none) (fun x => tW b x.1 x.2.1 (nd b v) 1 s a x.2.2.1 x.2.2.2.1 ++ [wh 6 x.2.2.2.2.1, ar 1400 x.2.2.2.2.2]) (fun x => TI b v s a x.1 x.2.1 (nd b v) 1 x.2.2.1 x.2.2.2.1 ∧ (∀ j, x.2.2.2.2.2 j < 1073741824) ∧ x.2.2.2.2.1 ≤ 1400)) := by
  refine MS_of (own := R_T) (by decide) rfl (fun _ => Nat.le_of_ble_eq_true rfl) (fun Z h hr => ?_)
  obtain ⟨hR, hb, hgu, hg31, hpw31, hpg, hdg, htd, htl⟩ := id hT
  obtain ⟨hg1, hg2, hg3⟩ := dpg_ok b hb.2 hb.1
  have hG0 : 0 < b ^ dpg b := Nat.pow_pos (by omega)
  have hvlt : v < (b ^ dpg b) ^ 960 := by
    have h1 := Rp_lt hR
    have h2 : (1073741824 : Nat) ^ s ≤ 1073741824 ^ 800 := Nat.pow_le_pow_right (by decide) hR.1
    have h3 := G960 hb
    omega
  have hnd : nd b v < 2 ^ 31 := by
    obtain ⟨n1, n2, n3⟩ := nd_spec hb.1 v
    rcases n3 with n3 | n3
    · omega
    · apply Nat.lt_of_not_le
      intro q
      have h4 : b ^ (30 * 960) ≤ b ^ (nd b v - 1) := Nat.pow_le_pow_right (by omega) (by omega)
      have h5 : (b ^ dpg b) ^ 960 ≤ b ^ (30 * 960) := by rw [← Nat.pow_mul]; exact Nat.pow_le_pow_right (by omega) (Nat.mul_le_mul_right _ hg2)
      omega
  refine z_aload_n h d_T_tell_0 rfl ?_
  refine z_get (C := R_T) (T := F_T) (N := 8) h 7 d_T_tell_1 in_T rfl (by decide) wf_T_40 rfl rfl ?_
  refine z_if_eqN (tgt := 8) h d_T_tell_4 (by decide) (by omega) (fun c_4 => ?_) (fun c_4 => ?_)
  · subst c_4
    have L : ∀ (m i r sz : Nat) (g' cc pw' : Nat → Nat), i + m = 960 → (∀ j, pw' j < 2 ^ 31) → (∀ j, j ≤ dpg b → pw' j = b ^ j) → (∀ j, g' j < 2 ^ 31) → (∀ j, j < i → g' j < b ^ dpg b) → (i = 0 → g' 0 = 0) → Rp 1073741824 1400 cc sz r → v = nv (b ^ dpg b) g' i + r * (b ^ dpg b) ^ i → (i = 0 ∨ r ≠ 0 ∨ g' (i - 1) ≠ 0) → Z 0 0 (tW b i (dpg b) dg 0 s a g' pw' ++ [wh 6 sz, ar 1400 cc]) [(0, .ref 0), (1, .ref 5), (2, .int (nI (b ^ dpg b)))] 42 [] := by
      intro m
      have E : ∀ (i r sz : Nat) (g' cc pw' : Nat → Nat), i ≤ 960 → (∀ j, pw' j < 2 ^ 31) → (∀ j, j ≤ dpg b → pw' j = b ^ j) → (∀ j, g' j < 2 ^ 31) → (∀ j, j < i → g' j < b ^ dpg b) → (i = 0 → g' 0 = 0) → Rp 1073741824 1400 cc sz r → r = 0 → v = nv (b ^ dpg b) g' i + r * (b ^ dpg b) ^ i → (i = 0 ∨ r ≠ 0 ∨ g' (i - 1) ≠ 0) → Z 0 0 (tW b i (dpg b) dg 0 s a g' pw' ++ [wh 6 sz, ar 1400 cc]) [(0, .ref 0), (1, .ref 5), (2, .int (nI (b ^ dpg b)))] 88 [] := by
        intro i r sz g' cc pw' hi hp1 hp2 hg1' hg2' hg0 hRc hr0 hval htop
        subst hr0
        rw [Nat.zero_mul, Nat.add_zero] at hval
        obtain ⟨q, hq, hq2, hq3, hq4, hq5⟩ : ∃ q, max 1 i = q + 1 ∧ q < 960 ∧ (∀ j, j < q + 1 → g' j < b ^ dpg b) ∧ nv (b ^ dpg b) g' (q + 1) = v ∧ (q + 1 = 1 ∨ g' q ≠ 0) := by
          rcases Nat.eq_zero_or_pos i with e | e
          · subst e
            refine ⟨0, rfl, by omega, fun j hj => by rw [show j = 0 by omega, hg0 rfl]; exact hG0, ?_, Or.inl rfl⟩
            show 0 + g' 0 * (b ^ dpg b) ^ 0 = v
            rw [hg0 rfl, hval]
            simp [nv]
          · refine ⟨i - 1, by omega, by omega, fun j hj => hg2' j (by omega), by rw [show i - 1 + 1 = i by omega]; exact hval.symm, ?_⟩
            rcases htop with e1 | e1 | e1
            · omega
            · exact absurd rfl e1
            · exact Or.inr e1
        refine z_aload_n h d_T_tell_88 rfl ?_
        refine z_iconst (v := nI 1) h d_T_tell_89 (by decide) ?_
        refine z_aload_n h d_T_tell_90 rfl ?_
        refine z_get (C := R_T) (T := F_T) (N := 8) h 3 d_T_tell_91 in_T rfl (by decide) wf_T_34 rfl rfl ?_
        refine z_mmaxN h d_T_tell_94 wq_T_71 (by decide) (Nat.le_of_ble_eq_true rfl) (by decide) (by decide) (by omega) ?_
        rw [hq]
        refine z_put (C := R_T) (T := F_T) (N := 8) (ty := .int) h 3 d_T_tell_97 in_T rfl ft_T_ok n_T (by decide) wf_T_34 rfl rfl rfl rfl rfl (Nat.le_of_ble_eq_true rfl) ?_
        refine z_aload_n h d_T_tell_100 rfl ?_
        refine z_cV (C := R_T) (ci := 2) h (ms_T_measure b v q dg 0 s a g' pw' hb hq2 hq3 hq4 hq5 hp2) (zf_T_measure (by decide)) wm_T_77 wi_T_measure ws_T_measure rfl ⟨_, rfl⟩ d_T_tell_101 [0, 1, 2, 3, 4] (by decide) rfl (Nat.le_of_ble_eq_true rfl) rfl (fun _ => rfl) (fun x_101 hx_101 => ?_)
        refine z_aload_n h d_T_tell_104 rfl ?_
        refine z_iconst (v := nI 1) h d_T_tell_105 (by decide) ?_
        refine z_put (C := R_T) (T := F_T) (N := 8) (ty := .boolean) h 7 d_T_tell_106 in_T rfl ft_T_ok n_T (by decide) wf_T_40 rfl rfl (by decide) (by decide) rfl (Nat.le_of_ble_eq_true rfl) ?_
        refine hr.2.2.2.1 _ _ _ _ _ (Nat.le_refl _) (Nat.le_refl _) rfl d_T_tell_109 ?_
        exact ⟨(q + 1, dpg b, g', pw', sz, cc), rfl, rfl, ⟨hR, hb, (show q + 1 ≤ 960 by omega), hg1', hp1, (show dpg b < 2 ^ 31 by omega), hnd, Nat.le_refl 1, fun _ => ⟨rfl, hp2, (show 1 ≤ q + 1 by omega), hq3, hq4, hq5, rfl⟩⟩, hRc.2.1, hRc.1⟩
      induction m with
      | zero =>
        intro i r sz g' cc pw' him hp1 hp2 hg1' hg2' hg0 hRc hval htop
        have hr0 : r = 0 := by
          rcases Nat.eq_zero_or_pos r with e | e
          · exact e
          · have h5 : 1 * (b ^ dpg b) ^ i ≤ r * (b ^ dpg b) ^ i := Nat.mul_le_mul_right _ e
            rw [show i = 960 by omega] at h5 hval
            omega
        have hsz := hRc.1
        refine z_aload_n h d_T_tell_42 rfl ?_
        refine z_getN (C := R_H) (T := F_H) (N := 2) h 1 d_T_tell_43 in_H rfl (by decide) wf_T_64 rfl rfl ?_
        refine z_if_leN (tgt := 88) h d_T_tell_46 (by decide) (by omega) (fun c_46 => ?_) (fun c_46 => ?_)
        · exact E i r sz g' cc pw' (by omega) hp1 hp2 hg1' hg2' hg0 hRc hr0 hval htop
        · refine z_aload_n h d_T_tell_49 rfl ?_
          refine z_get (C := R_T) (T := F_T) (N := 8) h 3 d_T_tell_50 in_T rfl (by decide) wf_T_34 rfl rfl ?_
          refine z_aload_n h d_T_tell_53 rfl ?_
          refine z_get (C := R_T) (T := F_T) (N := 8) h 2 d_T_tell_54 in_T rfl (by decide) wf_T_24 rfl rfl ?_
          refine z_alenN h d_T_tell_57 rfl ?_
          refine z_icmp_geN (tgt := 88) h d_T_tell_58 (by decide) (by omega) (fun c_58 => ?_) (fun c_58 => ?_)
          · exact E i r sz g' cc pw' (by omega) hp1 hp2 hg1' hg2' hg0 hRc hr0 hval htop
          · exact absurd c_58 (by omega)
      | succ m ih =>
        intro i r sz g' cc pw' him hp1 hp2 hg1' hg2' hg0 hRc hval htop
        have hsz := hRc.1
        refine z_aload_n h d_T_tell_42 rfl ?_
        refine z_getN (C := R_H) (T := F_H) (N := 2) h 1 d_T_tell_43 in_H rfl (by decide) wf_T_64 rfl rfl ?_
        refine z_if_leN (tgt := 88) h d_T_tell_46 (by decide) (by omega) (fun c_46 => ?_) (fun c_46 => ?_)
        · have hr0 : r = 0 := by have := hRc.2.2.1; rw [c_46] at this; exact this.symm
          exact E i r sz g' cc pw' (by omega) hp1 hp2 hg1' hg2' hg0 hRc hr0 hval htop
        · have hr0 : 0 < r := by
            obtain ⟨z, rfl⟩ : ∃ z, sz = z + 1 := ⟨sz - 1, by omega⟩
            rcases hRc.2.2.2 with e | e
            · omega
            · exact Nat.lt_of_lt_of_le (Nat.pow_pos (by decide)) e
          have hml := Nat.mod_lt r hG0
          refine z_aload_n h d_T_tell_49 rfl ?_
          refine z_get (C := R_T) (T := F_T) (N := 8) h 3 d_T_tell_50 in_T rfl (by decide) wf_T_34 rfl rfl ?_
          refine z_aload_n h d_T_tell_53 rfl ?_
          refine z_get (C := R_T) (T := F_T) (N := 8) h 2 d_T_tell_54 in_T rfl (by decide) wf_T_24 rfl rfl ?_
          refine z_alenN h d_T_tell_57 rfl ?_
          refine z_icmp_geN (tgt := 88) h d_T_tell_58 (by decide) (by omega) (fun c_58 => ?_) (fun c_58 => ?_)
          · exact absurd c_58 (by omega)
          · refine z_aload_n h d_T_tell_61 rfl ?_
            refine z_get (C := R_T) (T := F_T) (N := 8) h 2 d_T_tell_62 in_T rfl (by decide) wf_T_24 rfl rfl ?_
            refine z_aload_n h d_T_tell_65 rfl ?_
            refine z_get (C := R_T) (T := F_T) (N := 8) h 3 d_T_tell_66 in_T rfl (by decide) wf_T_34 rfl rfl ?_
            refine z_aload_n h d_T_tell_69 rfl ?_
            refine z_iload_n h d_T_tell_70 rfl ?_
            refine z_cV (C := R_H) (ci := 3) h (ms_H_shrink 1400 sz r (b ^ dpg b) cc (by decide) hsz hRc.2.1 hRc.2.2.1 ⟨hG0, hg3⟩) (zf_H_shrink (by decide)) wm_T_67 wi_H_shrink ws_H_shrink rfl ⟨_, rfl⟩ d_T_tell_71 [5, 6] (by decide) rfl (Nat.le_of_ble_eq_true rfl) rfl (fun _ => rfl) (fun x_71 hx_71 => ?_)
            refine z_iastoreN h d_T_tell_74 rfl (by omega) ?_
            refine z_aload_n h d_T_tell_75 rfl ?_
            refine z_dup h d_T_tell_76 rfl ?_
            refine z_get (C := R_T) (T := F_T) (N := 8) h 3 d_T_tell_77 in_T rfl (by decide) wf_T_34 rfl rfl ?_
            refine z_iconst (v := nI 1) h d_T_tell_80 (by decide) ?_
            refine z_iaddN h d_T_tell_81 ?_
            refine z_put (C := R_T) (T := F_T) (N := 8) (ty := .int) h 3 d_T_tell_82 in_T rfl ft_T_ok n_T (by decide) wf_T_34 rfl rfl rfl rfl rfl (Nat.le_of_ble_eq_true rfl) ?_
            refine z_goto (tgt := 42) h d_T_tell_85 (by decide) ?_
            refine ih (i + 1) (r / b ^ dpg b) x_71.2 (un g' i (r % b ^ dpg b)) x_71.1 pw' (by omega) hp1 hp2 (un_lt hg1' (by omega)) (fun j hj => ?_) (fun e => by omega) hx_71 ?_ (Or.inr ?_)
            · by_cases e : j = i
              · rw [e, un_eq]; exact hml
              · rw [un_ne e]; exact hg2' j (by omega)
            · rw [nv_put, Nat.pow_succ]
              exact tell_step hval
            · rw [Nat.add_sub_cancel, un_eq]
              have e := Nat.div_add_mod r (b ^ dpg b)
              rcases Nat.eq_zero_or_pos (r / b ^ dpg b) with e1 | e1
              · refine Or.inr ?_
                rw [e1, Nat.mul_zero] at e
                omega
              · exact Or.inl (by omega)
    refine z_aload_n h d_T_tell_8 rfl ?_
    refine z_cV (C := R_T) (ci := 2) h (ms_T_setPowers b gu pg dg 0 s a g pw hb hpw31) (zf_T_setPowers (by decide)) wm_T_31 wi_T_setPowers ws_T_setPowers rfl ⟨_, rfl⟩ d_T_tell_9 [0, 1, 2, 3, 4] (by decide) rfl (Nat.le_of_ble_eq_true rfl) rfl (fun _ => rfl) (fun x_9 hx_9 => ?_)
    have e9 := hx_9.2 (dpg b) (Nat.le_refl _)
    refine z_aload_n h d_T_tell_12 rfl ?_
    refine z_get (C := R_T) (T := F_T) (N := 8) h 5 d_T_tell_13 in_T rfl (by decide) wf_T_28 rfl rfl ?_
    refine z_aload_n h d_T_tell_16 rfl ?_
    refine z_get (C := R_T) (T := F_T) (N := 8) h 4 d_T_tell_17 in_T rfl (by decide) wf_T_61 rfl rfl ?_
    refine z_ialoadN h d_T_tell_20 rfl (by omega) ?_
    rw [e9]
    refine z_istore_n h d_T_tell_21 (by decide) ?_
    refine z_aload_n h d_T_tell_22 rfl ?_
    refine z_aload_n h d_T_tell_23 rfl ?_
    refine z_get (C := R_T) (T := F_T) (N := 8) h 0 d_T_tell_24 in_T rfl (by decide) wf_T_14 rfl rfl ?_
    refine z_cV (C := R_H) (ci := 3) h (ms_H_copy 1400 t 800 s v c a (by decide) (by decide) (Nat.le_trans hR.1 (by decide)) hc hR) (zf_H_copy (by decide)) wm_T_44 wi_H_copy ws_H_copy rfl ⟨_, rfl⟩ d_T_tell_27 [5, 6, 1, 2] (by decide) rfl (Nat.le_of_ble_eq_true rfl) rfl (fun _ => rfl) (fun x_27 hx_27 => ?_)
    refine z_aload_n h d_T_tell_30 rfl ?_
    refine z_get (C := R_T) (T := F_T) (N := 8) h 2 d_T_tell_31 in_T rfl (by decide) wf_T_24 rfl rfl ?_
    refine z_iconst (v := nI 0) h d_T_tell_34 (by decide) ?_
    refine z_iconst (v := nI 0) h d_T_tell_35 (by decide) ?_
    refine z_iastoreN h d_T_tell_36 rfl (by omega) ?_
    refine z_aload_n h d_T_tell_37 rfl ?_
    refine z_iconst (v := nI 0) h d_T_tell_38 (by decide) ?_
    refine z_put (C := R_T) (T := F_T) (N := 8) (ty := .int) h 3 d_T_tell_39 in_T rfl ft_T_ok n_T (by decide) wf_T_34 rfl rfl rfl rfl rfl (Nat.le_of_ble_eq_true rfl) ?_
    refine z_lv (lv' := [(0, .ref 0), (1, .ref 5), (2, .int (nI (b ^ dpg b)))]) h rfl ?_
    exact L 960 0 v x_27.2 (un g 0 0) x_27.1 x_9 (by omega) hx_9.1 hx_9.2 (un_lt hg31 (by decide)) (fun j hj => absurd hj (by omega)) (fun _ => un_eq) hx_27 (by simp [nv]) (Or.inl rfl)
  · have e1 : td = 1 := by omega
    subst e1
    have e2 : dg = nd b v := (htl rfl).2.2.2.2.2.2
    subst e2
    refine hr.2.2.2.1 _ _ _ _ _ (Nat.le_refl _) (Nat.le_refl _) rfl d_T_tell_7 ?_
    exact ⟨(gu, pg, g, pw, t, c), rfl, rfl, hT, hc, ht⟩
end
section
/-! DigitMill$Text: reading, pushing, copying -/
theorem nd_le {b v n : Nat} (hb : 2 ≤ b) (hn : 1 ≤ n) (h : v < b ^ n) : nd b v ≤ n := by
  obtain ⟨g1, g2, g3⟩ := nd_spec hb v
  rcases g3 with g3 | g3
  · omega
  · apply Nat.le_of_not_lt
    intro q
    have : b ^ n ≤ b ^ (nd b v - 1) := Nat.pow_le_pow_right (by omega) (by omega)
    omega
theorem Tld_lt {b v gu pg dg : Nat} {g pw : Nat → Nat} (h : Tld b v gu pg dg g pw) : v < b ^ (pg * gu) := by
  obtain ⟨-, -, -, h4, h5, -⟩ := h
  rw [Nat.pow_mul, ← h5]
  exact nv_lt h4
theorem Tld_dig {b v gu pg dg k r : Nat} {g pw : Nat → Nat} (hb : 2 ≤ b) (h : Tld b v gu pg dg g pw) (hk : k < gu) (hr : r < pg) : g k / b ^ r % b = dig b v (pg * k + r) := by
  obtain ⟨-, -, -, h4, h5, -⟩ := h
  rw [← grp_dig (by omega) hr, ← h5, nv_dig (Nat.pow_pos (by omega)) hk h4]
set_option maxRecDepth 100000 in
set_option maxHeartbeats 4000000 in
theorem ms_T_digitAt (b v gu pg dg s i : Nat) (a g pw : Nat → Nat) (hT : TI b v s a gu pg dg 1 g pw) (hi : i < dg) : MS y_T_digitAt c_T_digitAt 4 (some .int) (rm 1) [.ref 0, .int (nI i)] (tW b gu pg dg 1 s a g pw) (zP (X := Unit) (fun _ => some (.int (nI (dig b v (dg - 1 - i))))) (fun _ => tW b gu pg dg 1 s a g pw) (fun _ => True)) := by
  refine MS_of (own := R_T) (by decide) rfl (fun _ => Nat.le_of_ble_eq_true rfl) (fun Z h hr => ?_)
  obtain ⟨hR, hb, hgu, hg31, hpw31, hpg, hdg, htd, htl⟩ := id hT
  have hl := htl rfl
  obtain ⟨l1, l2, l3, l4, l5, l6, l7⟩ := id hl
  obtain ⟨hg1, hg2, hg3⟩ := dpg_ok b hb.2 hb.1
  have hp1 : 1 ≤ pg := by omega
  have hle : dg ≤ pg * gu := by rw [l7]; exact nd_le hb.1 (Nat.mul_pos hp1 l3) (Tld_lt hl)
  have hq : (dg - 1 - i) / pg < gu := by rw [Nat.div_lt_iff_lt_mul hp1, Nat.mul_comm]; omega
  have hm := Nat.mod_lt (dg - 1 - i) hp1
  have hdm := Nat.div_add_mod (dg - 1 - i) pg
  have e1 := l2 ((dg - 1 - i) % pg) (by omega)
  have e2 : b ^ ((dg - 1 - i) % pg) ≤ 1073741824 := Nat.le_trans (Nat.pow_le_pow_right (by omega) (by omega)) hg3
  have e3 : 0 < b ^ ((dg - 1 - i) % pg) := Nat.pow_pos (by omega)
  have e4 := hg31 ((dg - 1 - i) / pg)
  have e5 : g ((dg - 1 - i) / pg) / b ^ ((dg - 1 - i) % pg) ≤ g ((dg - 1 - i) / pg) := Nat.div_le_self _ _
  have hs_14 : dg - 1 - i < 2 ^ 31 ∧ 0 < pg ∧ pg < 2 ^ 31 := by omega
  have hs_31 : dg - 1 - i < 2 ^ 31 ∧ 0 < pg ∧ pg < 2 ^ 31 := by omega
  refine z_aload_n h d_T_digitAt_0 rfl ?_
  refine z_get (C := R_T) (T := F_T) (N := 8) h 6 d_T_digitAt_1 in_T rfl (by decide) wf_T_37 rfl rfl ?_
  refine z_iconst (v := nI 1) h d_T_digitAt_4 (by decide) ?_
  refine z_isubN h d_T_digitAt_5 (by omega) ?_
  refine z_iload_n h d_T_digitAt_6 rfl ?_
  refine z_isubN h d_T_digitAt_7 (by omega) ?_
  refine z_istore_n h d_T_digitAt_8 (by decide) ?_
  refine z_iload_n h d_T_digitAt_9 rfl ?_
  refine z_aload_n h d_T_digitAt_10 rfl ?_
  refine z_get (C := R_T) (T := F_T) (N := 8) h 4 d_T_digitAt_11 in_T rfl (by decide) wf_T_61 rfl rfl ?_
  refine z_idivN h d_T_digitAt_14 hs_14 ?_
  refine z_istore_n h d_T_digitAt_15 (by decide) ?_
  refine z_aload_n h d_T_digitAt_16 rfl ?_
  refine z_get (C := R_T) (T := F_T) (N := 8) h 2 d_T_digitAt_17 in_T rfl (by decide) wf_T_24 rfl rfl ?_
  refine z_iload_n h d_T_digitAt_20 rfl ?_
  refine z_ialoadN h d_T_digitAt_21 rfl (by omega) ?_
  refine z_aload_n h d_T_digitAt_22 rfl ?_
  refine z_get (C := R_T) (T := F_T) (N := 8) h 5 d_T_digitAt_23 in_T rfl (by decide) wf_T_28 rfl rfl ?_
  refine z_iload_n h d_T_digitAt_26 rfl ?_
  refine z_aload_n h d_T_digitAt_27 rfl ?_
  refine z_get (C := R_T) (T := F_T) (N := 8) h 4 d_T_digitAt_28 in_T rfl (by decide) wf_T_61 rfl rfl ?_
  refine z_iremN h d_T_digitAt_31 hs_31 ?_
  refine z_ialoadN h d_T_digitAt_32 rfl (by omega) ?_
  rw [e1]
  have hs_33 : g ((dg - 1 - i) / pg) < 2 ^ 31 ∧ 0 < b ^ ((dg - 1 - i) % pg) ∧ b ^ ((dg - 1 - i) % pg) < 2 ^ 31 := by omega
  have hs_38 : g ((dg - 1 - i) / pg) / b ^ ((dg - 1 - i) % pg) < 2 ^ 31 ∧ 0 < b ∧ b < 2 ^ 31 := by omega
  refine z_idivN h d_T_digitAt_33 hs_33 ?_
  refine z_aload_n h d_T_digitAt_34 rfl ?_
  refine z_get (C := R_T) (T := F_T) (N := 8) h 1 d_T_digitAt_35 in_T rfl (by decide) wf_T_20 rfl rfl ?_
  refine z_iremN h d_T_digitAt_38 hs_38 ?_
  refine hr.1 _ _ _ _ _ _ (Nat.le_refl _) (Nat.le_refl _) rfl d_T_digitAt_39 ?_
  refine ⟨(), ?_, rfl, trivial⟩
  rw [Tld_dig hb.1 hl hq hm, hdm]
theorem dsm_grp {b v gu pg dg k : Nat} {g pw : Nat → Nat} (hb : 2 ≤ b) (h : Tld b v gu pg dg g pw) (hk : k < gu) : ∀ r, r ≤ pg → dsm b v (pg * k + r) = dsm b v (pg * k) + dsm b (g k) r
  | 0, _ => rfl
  | r + 1, hr => by
    show dsm b v (pg * k + r) + dig b v (pg * k + r) = dsm b v (pg * k) + (dsm b (g k) r + dig b (g k) r)
    rw [dsm_grp hb h hk r (by omega), ← Tld_dig hb h hk (by omega)]
    unfold dig
    omega
set_option maxRecDepth 100000 in
set_option maxHeartbeats 4000000 in
theorem ms_T_sumOfDigits (b v gu pg dg s : Nat) (a g pw : Nat → Nat) (hT : TI b v s a gu pg dg 1 g pw) : MS y_T_sumOfDigits c_T_sumOfDigits 4 (some .int) (rm 1) [.ref 0] (tW b gu pg dg 1 s a g pw) (zP (X := Unit) (fun _ => some (.int (nI (dsm b v dg)))) (fun _ => tW b gu pg dg 1 s a g pw) (fun _ => True)) := by
  refine MS_of (own := R_T) (by decide) rfl (fun _ => Nat.le_of_ble_eq_true rfl) (fun Z h hr => ?_)
  obtain ⟨hR, hb, hgu, hg31, hpw31, hpg, hdg, htd, htl⟩ := id hT
  have hl := htl rfl
  obtain ⟨l1, l2, l3, l4, l5, l6, l7⟩ := id hl
  obtain ⟨hg1, hg2, hg3⟩ := dpg_ok b hb.2 hb.1
  have hp1 : 1 ≤ pg := by omega
  have hle : dg ≤ pg * gu := by rw [l7]; exact nd_le hb.1 (Nat.mul_pos hp1 l3) (Tld_lt hl)
  have hlt2 : v < b ^ dg := by rw [l7]; exact (nd_spec hb.1 v).2.1
  have L : ∀ (m i : Nat), i + m = gu → Z 0 0 (tW b gu pg dg 1 s a g pw) [(0, .ref 0), (1, .int (nI (dsm b v (pg * i)))), (2, .int (nI i))] 4 [] := by
    intro m
    induction m with
    | zero =>
      intro i him
      obtain rfl : i = gu := by omega
      refine z_iload_n h d_T_sumOfDigits_4 rfl ?_
      refine z_aload_n h d_T_sumOfDigits_5 rfl ?_
      refine z_get (C := R_T) (T := F_T) (N := 8) h 3 d_T_sumOfDigits_6 in_T rfl (by decide) wf_T_34 rfl rfl ?_
      refine z_icmp_geN (tgt := 48) h d_T_sumOfDigits_9 (by decide) (by omega) (fun c_9 => ?_) (fun c_9 => ?_)
      · refine z_iload_n h d_T_sumOfDigits_48 rfl ?_
        refine hr.1 _ _ _ _ _ _ (Nat.le_refl _) (Nat.le_refl _) rfl d_T_sumOfDigits_49 ?_
        exact ⟨(), by rw [dsm_more hb.1 hlt2 hle], rfl, trivial⟩
      · exact absurd c_9 (by omega)
    | succ m ih =>
      intro i him
      have hgi := hg31 i
      have hx := l4 i (by omega)
      have I : ∀ (q k : Nat), k + q = pg → Z 0 0 (tW b gu pg dg 1 s a g pw) [(0, .ref 0), (1, .int (nI (dsm b v (pg * i) + dsm b (g i) k))), (2, .int (nI i)), (3, .int (nI (g i / b ^ k)))] 19 [] := by
        intro q
        have E : ∀ k, k ≤ pg → g i / b ^ k = 0 → Z 0 0 (tW b gu pg dg 1 s a g pw) [(0, .ref 0), (1, .int (nI (dsm b v (pg * i) + dsm b (g i) k))), (2, .int (nI i)), (3, .int (nI (g i / b ^ k)))] 42 [] := by
          intro k hk hz
          have hlt : g i < b ^ k := by
            apply Nat.lt_of_not_le
            intro z
            have := Nat.div_pos z (Nat.pow_pos (show 0 < b by omega))
            omega
          have e1 : dsm b v (pg * i) + dsm b (g i) k = dsm b v (pg * (i + 1)) := by
            rw [← dsm_more hb.1 hlt hk, Nat.mul_succ, dsm_grp hb.1 hl (by omega) pg (Nat.le_refl _)]
          rw [e1]
          refine z_iincN h 1 d_T_sumOfDigits_42 rfl (by decide) (by decide) ?_
          refine z_goto (tgt := 4) h d_T_sumOfDigits_45 (by decide) ?_
          exact z_lv h rfl (ih (i + 1) (by omega))
        induction q with
        | zero =>
          intro k hkq
          have hz : g i / b ^ k = 0 := by rw [show k = pg by omega, l1]; rw [l1] at hx; exact Nat.div_eq_of_lt hx
          refine z_iload_n h d_T_sumOfDigits_19 rfl ?_
          refine z_if_leN (tgt := 42) h d_T_sumOfDigits_20 (by decide) (by rw [hz]; decide) (fun c_20 => ?_) (fun c_20 => ?_)
          · exact E k (by omega) c_20
          · exact absurd c_20 (by omega)
        | succ q ih2 =>
          intro k hkq
          have hd1 : g i / b ^ k ≤ g i := Nat.div_le_self _ _
          have hs_29 : g i / b ^ k < 2 ^ 31 ∧ 0 < b ∧ b < 2 ^ 31 := by omega
          have hs_37 : g i / b ^ k < 2 ^ 31 ∧ 0 < b ∧ b < 2 ^ 31 := by omega
          refine z_iload_n h d_T_sumOfDigits_19 rfl ?_
          refine z_if_leN (tgt := 42) h d_T_sumOfDigits_20 (by decide) (by omega) (fun c_20 => ?_) (fun c_20 => ?_)
          · exact E k (by omega) c_20
          · refine z_iload_n h d_T_sumOfDigits_23 rfl ?_
            refine z_iload_n h d_T_sumOfDigits_24 rfl ?_
            refine z_aload_n h d_T_sumOfDigits_25 rfl ?_
            refine z_get (C := R_T) (T := F_T) (N := 8) h 1 d_T_sumOfDigits_26 in_T rfl (by decide) wf_T_20 rfl rfl ?_
            refine z_iremN h d_T_sumOfDigits_29 hs_29 ?_
            refine z_iaddN h d_T_sumOfDigits_30 ?_
            refine z_istore_n h d_T_sumOfDigits_31 (by decide) ?_
            refine z_iload_n h d_T_sumOfDigits_32 rfl ?_
            refine z_aload_n h d_T_sumOfDigits_33 rfl ?_
            refine z_get (C := R_T) (T := F_T) (N := 8) h 1 d_T_sumOfDigits_34 in_T rfl (by decide) wf_T_20 rfl rfl ?_
            refine z_idivN h d_T_sumOfDigits_37 hs_37 ?_
            refine z_istore_n h d_T_sumOfDigits_38 (by decide) ?_
            refine z_goto (tgt := 19) h d_T_sumOfDigits_39 (by decide) ?_
            rw [Nat.div_div_eq_div_mul, ← Nat.pow_succ, Nat.add_assoc]
            exact z_lv h rfl (ih2 (k + 1) (by omega))
      refine z_iload_n h d_T_sumOfDigits_4 rfl ?_
      refine z_aload_n h d_T_sumOfDigits_5 rfl ?_
      refine z_get (C := R_T) (T := F_T) (N := 8) h 3 d_T_sumOfDigits_6 in_T rfl (by decide) wf_T_34 rfl rfl ?_
      refine z_icmp_geN (tgt := 48) h d_T_sumOfDigits_9 (by decide) (by omega) (fun c_9 => ?_) (fun c_9 => ?_)
      · exact absurd c_9 (by omega)
      · refine z_aload_n h d_T_sumOfDigits_12 rfl ?_
        refine z_get (C := R_T) (T := F_T) (N := 8) h 2 d_T_sumOfDigits_13 in_T rfl (by decide) wf_T_24 rfl rfl ?_
        refine z_iload_n h d_T_sumOfDigits_16 rfl ?_
        refine z_ialoadN h d_T_sumOfDigits_17 rfl (by omega) ?_
        refine z_istore_n h d_T_sumOfDigits_18 (by decide) ?_
        refine z_lv (lv' := [(0, .ref 0), (1, .int (nI (dsm b v (pg * i) + dsm b (g i) 0))), (2, .int (nI i)), (3, .int (nI (g i / b ^ 0)))]) h ?_ (I pg 0 (by omega))
        simp only [Nat.pow_zero, Nat.div_one]
        rfl
  refine z_iconst (v := nI 0) h d_T_sumOfDigits_0 (by decide) ?_
  refine z_istore_n h d_T_sumOfDigits_1 (by decide) ?_
  refine z_iconst (v := nI 0) h d_T_sumOfDigits_2 (by decide) ?_
  refine z_istore_n h d_T_sumOfDigits_3 (by decide) ?_
  exact z_lv h rfl (L gu 0 (by omega))
set_option maxRecDepth 100000 in
set_option maxHeartbeats 8000000 in
theorem ms_T_shiftIn (b v v' d gu pg dg td s : Nat) (a g pw : Nat → Nat) (hT : TI b v' s a gu pg dg 0 g pw) (htd : td ≤ 1) (htl : td = 1 → Tld b v gu pg dg g pw) (hd : d < b) (hv' : v' = v * b + d) : MS y_T_shiftIn c_T_shiftIn 9 none (rm 2) [.ref 0, .int (nI d)] (tW b gu pg dg td s a g pw) (zP (X := Nat × Nat × Nat × (Nat → Nat) × (Nat → Nat)) (fun _ => none) (fun x => tW b x.1 x.2.1 x.2.2.1 td s a x.2.2.2.1 x.2.2.2.2) (fun x => TI b v' s a x.1 x.2.1 x.2.2.1 td x.2.2.2.1 x.2.2.2.2)) := by
  refine MS_of (own := R_T) (by decide) rfl (fun _ => Nat.le_of_ble_eq_true rfl) (fun Z h hr => ?_)
  obtain ⟨hR, hb, hgu, hg31, hpw31, hpg, hdg, -, -⟩ := id hT
  refine z_aload_n h d_T_shiftIn_0 rfl ?_
  refine z_get (C := R_T) (T := F_T) (N := 8) h 7 d_T_shiftIn_1 in_T rfl (by decide) wf_T_40 rfl rfl ?_
  refine z_if_neN (tgt := 8) h d_T_shiftIn_4 (by decide) (by omega) (fun c_4 => ?_) (fun c_4 => ?_)
  · have e1 : td = 1 := by omega
    subst e1
    have hl := htl rfl
    obtain ⟨l1, l2, l3, l4, l5, l6, l7⟩ := id hl
    obtain ⟨hg1, hg2, hg3⟩ := dpg_ok b hb.2 hb.1
    subst l1
    have hG0 : 0 < b ^ dpg b := Nat.pow_pos (by omega)
    have e9 := l2 (dpg b) (Nat.le_refl _)
    have hvlt : v' < (b ^ dpg b) ^ 960 := by
      have h1 := Rp_lt hR
      have h2 : (1073741824 : Nat) ^ s ≤ 1073741824 ^ 800 := Nat.pow_le_pow_right (by decide) hR.1
      have h3 := G960 hb
      omega
    have hnd : nd b v' < 2 ^ 31 := by
      have h1 : nd b v' ≤ dpg b * 960 := nd_le hb.1 (by omega) (by rw [Nat.pow_mul]; exact hvlt)
      omega
    have hvv : v ≤ v' := by
      have : v * 1 ≤ v * b := Nat.mul_le_mul_left _ (by omega)
      omega
    have F : ∀ (q : Nat) (g' : Nat → Nat), q < 960 → (∀ j, g' j < 2 ^ 31) → (∀ j, j < q + 1 → g' j < b ^ dpg b) → nv (b ^ dpg b) g' (q + 1) = v' → (q + 1 = 1 ∨ g' q ≠ 0) → ∀ lv, zg lv 0 = some (.ref 0) → Z 0 0 (tW b (q + 1) (dpg b) dg 1 s a g' pw) lv 122 [] := by
      intro q g' h1 h2 h3 h4 h5 lv hlv
      refine z_lv (lv' := [(0, .ref 0)]) h (by simp only [List.map_cons, List.map_nil, hlv]) ?_
      refine z_aload_n h d_T_shiftIn_122 rfl ?_
      refine z_cV (C := R_T) (ci := 2) h (ms_T_measure b v' q dg 1 s a g' pw hb h1 h3 h4 h5 l2) (zf_T_measure (by decide)) wm_T_77 wi_T_measure ws_T_measure rfl ⟨_, rfl⟩ d_T_shiftIn_123 [0, 1, 2, 3, 4] (by decide) rfl (Nat.le_of_ble_eq_true rfl) rfl (fun _ => rfl) (fun x_123 hx_123 => ?_)
      refine hr.2.2.2.1 _ _ _ _ _ (Nat.le_refl _) (Nat.le_refl _) rfl d_T_shiftIn_126 ?_
      exact ⟨(q + 1, dpg b, nd b v', g', pw), rfl, rfl, hR, hb, (show q + 1 ≤ 960 by omega), h2, hpw31, hpg, hnd, Nat.le_refl 1, fun _ => ⟨rfl, l2, (show 1 ≤ q + 1 by omega), h3, h4, h5, rfl⟩⟩
    have L : ∀ (m i c : Nat) (g' : Nat → Nat) (l7 : List (Nat × Value)), i + m = gu → (∀ j, g' j < 2 ^ 31) → (∀ j, j < gu → g' j < b ^ dpg b) → (∀ j, i ≤ j → g' j = g j) → c < b → nv (b ^ dpg b) g' i + c * (b ^ dpg b) ^ i = nv (b ^ dpg b) g i * b + d → Z 0 0 (tW b gu (dpg b) dg 1 s a g' pw) [(0, .ref 0), (1, .int (nI d)), (2, .long (lN (b ^ dpg b))), (4, .long (lN c)), (6, .int (nI i))] 26 [] := by
      intro m
      induction m with
      | zero =>
        intro i c g' _ him h1 h2 h3 hc hval
        obtain rfl : i = gu := by omega
        rw [l5, ← hv'] at hval
        refine z_iload h d_T_shiftIn_26 rfl ?_
        refine z_aload_n h d_T_shiftIn_28 rfl ?_
        refine z_get (C := R_T) (T := F_T) (N := 8) h 3 d_T_shiftIn_29 in_T rfl (by decide) wf_T_34 rfl rfl ?_
        refine z_icmp_geN (tgt := 81) h d_T_shiftIn_32 (by decide) (by omega) (fun c_32 => ?_) (fun c_32 => ?_)
        · refine z_lload h d_T_shiftIn_81 rfl ?_
          refine z_lconst (v := lN 0) h d_T_shiftIn_83 (by decide) ?_
          refine z_lcmp_leN (tgt := 122) h d_T_shiftIn_84 d_T_shiftIn_85 (by decide) (by omega) (fun c_84 => ?_) (fun c_84 => ?_)
          · have hc0 : c = 0 := by omega
            subst hc0
            rw [Nat.zero_mul, Nat.add_zero] at hval
            obtain ⟨q, rfl⟩ : ∃ q, i = q + 1 := ⟨i - 1, by omega⟩
            refine F q g' (by omega) h1 h2 hval ?_ _ rfl
            rcases l6 with l6 | l6
            · exact Or.inl l6
            · refine Or.inr fun z => ?_
              have h6 : 1 * (b ^ dpg b) ^ q ≤ g q * (b ^ dpg b) ^ q := Nat.mul_le_mul_right _ (Nat.pos_of_ne_zero l6)
              have h7 : v = nv (b ^ dpg b) g q + g q * (b ^ dpg b) ^ q := l5.symm
              have h8 : v' = nv (b ^ dpg b) g' q + g' q * (b ^ dpg b) ^ q := hval.symm
              have h9 : nv (b ^ dpg b) g' q < (b ^ dpg b) ^ q := nv_lt fun j hj => h2 j (by omega)
              rw [z, Nat.zero_mul] at h8
              omega
          · have h6 : 1 * (b ^ dpg b) ^ i ≤ c * (b ^ dpg b) ^ i := Nat.mul_le_mul_right _ c_84
            have hb30 : b ≤ b ^ dpg b := by
              have : b ^ 1 ≤ b ^ dpg b := Nat.pow_le_pow_right (by omega) hg1
              rwa [Nat.pow_one] at this
            refine z_aload_n h d_T_shiftIn_88 rfl ?_
            refine z_get (C := R_T) (T := F_T) (N := 8) h 3 d_T_shiftIn_89 in_T rfl (by decide) wf_T_34 rfl rfl ?_
            refine z_aload_n h d_T_shiftIn_92 rfl ?_
            refine z_get (C := R_T) (T := F_T) (N := 8) h 2 d_T_shiftIn_93 in_T rfl (by decide) wf_T_24 rfl rfl ?_
            refine z_alenN h d_T_shiftIn_96 rfl ?_
            refine z_icmp_geN (tgt := 122) h d_T_shiftIn_97 (by decide) (by omega) (fun c_97 => ?_) (fun c_97 => ?_)
            · exfalso
              rw [show i = 960 by omega] at h6 hval
              omega
            · refine z_aload_n h d_T_shiftIn_100 rfl ?_
              refine z_get (C := R_T) (T := F_T) (N := 8) h 2 d_T_shiftIn_101 in_T rfl (by decide) wf_T_24 rfl rfl ?_
              refine z_aload_n h d_T_shiftIn_104 rfl ?_
              refine z_get (C := R_T) (T := F_T) (N := 8) h 3 d_T_shiftIn_105 in_T rfl (by decide) wf_T_34 rfl rfl ?_
              refine z_lload h d_T_shiftIn_108 rfl ?_
              refine z_l2iN h d_T_shiftIn_110 ?_
              refine z_iastoreN h d_T_shiftIn_111 rfl (by omega) ?_
              refine z_aload_n h d_T_shiftIn_112 rfl ?_
              refine z_dup h d_T_shiftIn_113 rfl ?_
              refine z_get (C := R_T) (T := F_T) (N := 8) h 3 d_T_shiftIn_114 in_T rfl (by decide) wf_T_34 rfl rfl ?_
              refine z_iconst (v := nI 1) h d_T_shiftIn_117 (by decide) ?_
              refine z_iaddN h d_T_shiftIn_118 ?_
              refine z_put (C := R_T) (T := F_T) (N := 8) (ty := .int) h 3 d_T_shiftIn_119 in_T rfl ft_T_ok n_T (by decide) wf_T_34 rfl rfl rfl rfl rfl (Nat.le_of_ble_eq_true rfl) ?_
              refine F i (un g' i c) (by omega) (un_lt h1 (by omega)) (fun j hj => ?_) (by rw [nv_put]; exact hval) (Or.inr (by rw [un_eq]; omega)) _ rfl
              by_cases e : j = i
              · rw [e, un_eq]; omega
              · rw [un_ne e]; exact h2 j (by omega)
        · exact absurd c_32 (by omega)
      | succ m ih =>
        intro i c g' _ him h1 h2 h3 hc hval
        have hgi := h1 i
        have hgl := h2 i (by omega)
        have hmul : g' i * b ≤ 1073741823 * b := Nat.mul_le_mul_right _ (by omega)
        have hs_57 : g' i * b + c < 2 ^ 63 ∧ 0 < b ^ dpg b ∧ b ^ dpg b < 2 ^ 63 := by omega
        have hs_72 : (g' i * b + c) / b ^ dpg b * b ^ dpg b ≤ g' i * b + c := Nat.div_mul_le_self _ _
        have em := sub_dm (g' i * b + c) (b ^ dpg b)
        have hml := Nat.mod_lt (g' i * b + c) hG0
        have hdl : (g' i * b + c) / b ^ dpg b < b := by
          rw [Nat.div_lt_iff_lt_mul hG0]
          have : (g' i + 1) * b ≤ b ^ dpg b * b := Nat.mul_le_mul_right _ hgl
          rw [Nat.add_mul] at this
          rw [Nat.mul_comm b]
          omega
        refine z_iload h d_T_shiftIn_26 rfl ?_
        refine z_aload_n h d_T_shiftIn_28 rfl ?_
        refine z_get (C := R_T) (T := F_T) (N := 8) h 3 d_T_shiftIn_29 in_T rfl (by decide) wf_T_34 rfl rfl ?_
        refine z_icmp_geN (tgt := 81) h d_T_shiftIn_32 (by decide) (by omega) (fun c_32 => ?_) (fun c_32 => ?_)
        · exact absurd c_32 (by omega)
        · refine z_aload_n h d_T_shiftIn_35 rfl ?_
          refine z_get (C := R_T) (T := F_T) (N := 8) h 2 d_T_shiftIn_36 in_T rfl (by decide) wf_T_24 rfl rfl ?_
          refine z_iload h d_T_shiftIn_39 rfl ?_
          refine z_ialoadN h d_T_shiftIn_41 rfl (by omega) ?_
          refine z_i2lN h d_T_shiftIn_42 (by omega) ?_
          refine z_aload_n h d_T_shiftIn_43 rfl ?_
          refine z_get (C := R_T) (T := F_T) (N := 8) h 1 d_T_shiftIn_44 in_T rfl (by decide) wf_T_20 rfl rfl ?_
          refine z_i2lN h d_T_shiftIn_47 (by omega) ?_
          refine z_lmulN h d_T_shiftIn_48 ?_
          refine z_lload h d_T_shiftIn_49 rfl ?_
          refine z_laddN h d_T_shiftIn_51 ?_
          refine z_lstore h d_T_shiftIn_52 (by decide) ?_
          refine z_lload h d_T_shiftIn_54 rfl ?_
          refine z_lload_n h d_T_shiftIn_56 rfl ?_
          refine z_ldivN h d_T_shiftIn_57 hs_57 ?_
          refine z_lstore h d_T_shiftIn_58 (by decide) ?_
          refine z_aload_n h d_T_shiftIn_60 rfl ?_
          refine z_get (C := R_T) (T := F_T) (N := 8) h 2 d_T_shiftIn_61 in_T rfl (by decide) wf_T_24 rfl rfl ?_
          refine z_iload h d_T_shiftIn_64 rfl ?_
          refine z_lload h d_T_shiftIn_66 rfl ?_
          refine z_lload h d_T_shiftIn_68 rfl ?_
          refine z_lload_n h d_T_shiftIn_70 rfl ?_
          refine z_lmulN h d_T_shiftIn_71 ?_
          refine z_lsubN h d_T_shiftIn_72 hs_72 ?_
          rw [em]
          refine z_l2iN h d_T_shiftIn_73 ?_
          refine z_iastoreN h d_T_shiftIn_74 rfl (by omega) ?_
          refine z_iincN h 1 d_T_shiftIn_75 rfl (by decide) (by decide) ?_
          refine z_goto (tgt := 26) h d_T_shiftIn_78 (by decide) ?_
          refine z_lv (lv' := [(0, .ref 0), (1, .int (nI d)), (2, .long (lN (b ^ dpg b))), (4, .long (lN ((g' i * b + c) / b ^ dpg b))), (6, .int (nI (i + 1)))]) h rfl ?_
          refine ih (i + 1) _ (un g' i ((g' i * b + c) % b ^ dpg b)) [] (by omega) (un_lt h1 (by omega)) (fun j hj => ?_) (fun j hj => by rw [un_ne (by omega)]; exact h3 j (by omega)) hdl ?_
          · by_cases e : j = i
            · rw [e, un_eq]; exact hml
            · rw [un_ne e]; exact h2 j hj
          · rw [nv_put, nv_s, Nat.pow_succ, Nat.add_assoc, carry_step, h3 i (Nat.le_refl i), Nat.add_comm (g i * b) c]
            exact scale_step hval
    refine z_aload_n h d_T_shiftIn_8 rfl ?_
    refine z_get (C := R_T) (T := F_T) (N := 8) h 5 d_T_shiftIn_9 in_T rfl (by decide) wf_T_28 rfl rfl ?_
    refine z_aload_n h d_T_shiftIn_12 rfl ?_
    refine z_get (C := R_T) (T := F_T) (N := 8) h 4 d_T_shiftIn_13 in_T rfl (by decide) wf_T_61 rfl rfl ?_
    refine z_ialoadN h d_T_shiftIn_16 rfl (by omega) ?_
    rw [e9]
    refine z_i2lN h d_T_shiftIn_17 (by omega) ?_
    refine z_lstore_n h d_T_shiftIn_18 (by decide) ?_
    refine z_iload_n h d_T_shiftIn_19 rfl ?_
    refine z_i2lN h d_T_shiftIn_20 (by omega) ?_
    refine z_lstore h d_T_shiftIn_21 (by decide) ?_
    refine z_iconst (v := nI 0) h d_T_shiftIn_23 (by decide) ?_
    refine z_istore h d_T_shiftIn_24 (by decide) ?_
    exact z_lv h rfl (L gu 0 d g [] (by omega) hg31 l4 (fun _ _ => rfl) hd (by simp [nv]))
  · subst c_4
    refine hr.2.2.2.1 _ _ _ _ _ (Nat.le_refl _) (Nat.le_refl _) rfl d_T_shiftIn_7 ?_
    exact ⟨(gu, pg, dg, g, pw), rfl, rfl, hT⟩
abbrev tW5 (b gu pg dg td s : Nat) (a g pw : Nat → Nat) : List va_E := [tx 6 b 8 gu pg 9 dg td, wh 7 s, ar 800 a, ar 960 g, ar 31 pw]
theorem bool_nar {t : Nat} (h : t ≤ 1) : narrow .boolean (.int (nI t)) = .int (nI t) := by
  rcases (show t = 0 ∨ t = 1 by omega) with rfl | rfl <;> decide
theorem bool_fit {t : Nat} (h : t ≤ 1) : fits .boolean (.int (nI t)) = true := by
  rcases (show t = 0 ∨ t = 1 by omega) with rfl | rfl <;> decide
set_option maxRecDepth 100000 in
set_option maxHeartbeats 4000000 in
/-- this becomes what the other text is -/
theorem ms_T_copyText (b gu pg dg td s b2 v2 gu2 pg2 dg2 td2 s2 : Nat) (a g pw a2 g2 pw2 : Nat → Nat) (ha : ∀ j, a j < 1073741824) (hg : ∀ j, g j < 2 ^ 31) (hpw : ∀ j, pw j < 2 ^ 31) (hT : TI b2 v2 s2 a2 gu2 pg2 dg2 td2 g2 pw2) : MS y_T_copyText c_T_copyText 2 none (rm 5) [.ref 0, .ref 5] (tW b gu pg dg td s a g pw ++ tW5 b2 gu2 pg2 dg2 td2 s2 a2 g2 pw2) (zP (X := (Nat → Nat) × Nat × (Nat → Nat) × (Nat → Nat)) (fun _ => none) (fun x => tW b2 gu2 pg2 dg2 td2 x.2.1 x.1 x.2.2.1 x.2.2.2 ++ tW5 b2 gu2 pg2 dg2 td2 s2 a2 g2 pw2) (fun x => TI b2 v2 x.2.1 x.1 gu2 pg2 dg2 td2 x.2.2.1 x.2.2.2)) := by
  refine MS_of (own := R_T) (by decide) rfl (fun _ => Nat.le_of_ble_eq_true rfl) (fun Z h hr => ?_)
  obtain ⟨hR, hb, hgu, hg31, hpw31, hpg, hdg, htd, htl⟩ := id hT
  refine z_aload_n h d_T_copyText_0 rfl ?_
  refine z_aload_n h d_T_copyText_1 rfl ?_
  refine z_get (C := R_T) (T := F_T) (N := 8) h 0 d_T_copyText_2 in_T rfl (by decide) wf_T_14 rfl rfl ?_
  refine z_aload_n h d_T_copyText_5 rfl ?_
  refine z_get (C := R_T) (T := F_T) (N := 8) h 1 d_T_copyText_6 in_T rfl (by decide) wf_T_20 rfl rfl ?_
  refine z_cV (C := R_T) (ci := 2) h (ms_T_replace b b2 gu pg dg td s 800 s2 v2 a g pw a2 ha (by decide) hR.1 hR) (zf_T_replace (by decide)) wm_T_51 wi_T_replace ws_T_replace rfl ⟨_, rfl⟩ d_T_copyText_9 [0, 1, 2, 3, 4, 6, 7] (by decide) rfl (Nat.le_of_ble_eq_true rfl) rfl (fun _ => rfl) (fun x_9 hx_9 => ?_)
  refine z_aload_n h d_T_copyText_12 rfl ?_
  refine z_aload_n h d_T_copyText_13 rfl ?_
  refine z_get (C := R_T) (T := F_T) (N := 8) h 3 d_T_copyText_14 in_T rfl (by decide) wf_T_34 rfl rfl ?_
  refine z_put (C := R_T) (T := F_T) (N := 8) (ty := .int) h 3 d_T_copyText_17 in_T rfl ft_T_ok n_T (by decide) wf_T_34 rfl rfl rfl rfl rfl (Nat.le_of_ble_eq_true rfl) ?_
  refine z_aload_n h d_T_copyText_20 rfl ?_
  refine z_get (C := R_T) (T := F_T) (N := 8) h 2 d_T_copyText_21 in_T rfl (by decide) wf_T_24 rfl rfl ?_
  refine z_iconst (v := nI 0) h d_T_copyText_24 (by decide) ?_
  refine z_aload_n h d_T_copyText_25 rfl ?_
  refine z_get (C := R_T) (T := F_T) (N := 8) h 2 d_T_copyText_26 in_T rfl (by decide) wf_T_24 rfl rfl ?_
  refine z_iconst (v := nI 0) h d_T_copyText_29 (by decide) ?_
  refine z_aload_n h d_T_copyText_30 rfl ?_
  refine z_get (C := R_T) (T := F_T) (N := 8) h 3 d_T_copyText_31 in_T rfl (by decide) wf_T_34 rfl rfl ?_
  refine z_copyN h d_T_copyText_34 wm_T_55 rfl rfl (by omega) (by decide) (Nat.le_of_ble_eq_true rfl) ?_
  refine z_aload_n h d_T_copyText_37 rfl ?_
  refine z_aload_n h d_T_copyText_38 rfl ?_
  refine z_get (C := R_T) (T := F_T) (N := 8) h 4 d_T_copyText_39 in_T rfl (by decide) wf_T_61 rfl rfl ?_
  refine z_put (C := R_T) (T := F_T) (N := 8) (ty := .int) h 4 d_T_copyText_42 in_T rfl ft_T_ok n_T (by decide) wf_T_61 rfl rfl rfl rfl rfl (Nat.le_of_ble_eq_true rfl) ?_
  refine z_aload_n h d_T_copyText_45 rfl ?_
  refine z_get (C := R_T) (T := F_T) (N := 8) h 5 d_T_copyText_46 in_T rfl (by decide) wf_T_28 rfl rfl ?_
  refine z_iconst (v := nI 0) h d_T_copyText_49 (by decide) ?_
  refine z_aload_n h d_T_copyText_50 rfl ?_
  refine z_get (C := R_T) (T := F_T) (N := 8) h 5 d_T_copyText_51 in_T rfl (by decide) wf_T_28 rfl rfl ?_
  refine z_iconst (v := nI 0) h d_T_copyText_54 (by decide) ?_
  refine z_aload_n h d_T_copyText_55 rfl ?_
  refine z_get (C := R_T) (T := F_T) (N := 8) h 5 d_T_copyText_56 in_T rfl (by decide) wf_T_28 rfl rfl ?_
  refine z_alenN h d_T_copyText_59 rfl ?_
  refine z_copyN h d_T_copyText_60 wm_T_55 rfl rfl (by omega) (by decide) (Nat.le_of_ble_eq_true rfl) ?_
  refine z_aload_n h d_T_copyText_63 rfl ?_
  refine z_aload_n h d_T_copyText_64 rfl ?_
  refine z_get (C := R_T) (T := F_T) (N := 8) h 6 d_T_copyText_65 in_T rfl (by decide) wf_T_37 rfl rfl ?_
  refine z_put (C := R_T) (T := F_T) (N := 8) (ty := .int) h 6 d_T_copyText_68 in_T rfl ft_T_ok n_T (by decide) wf_T_37 rfl rfl rfl rfl rfl (Nat.le_of_ble_eq_true rfl) ?_
  refine z_aload_n h d_T_copyText_71 rfl ?_
  refine z_aload_n h d_T_copyText_72 rfl ?_
  refine z_get (C := R_T) (T := F_T) (N := 8) h 7 d_T_copyText_73 in_T rfl (by decide) wf_T_40 rfl rfl ?_
  refine z_put (C := R_T) (T := F_T) (N := 8) (ty := .boolean) h 7 d_T_copyText_76 in_T rfl ft_T_ok n_T (by decide) wf_T_40 rfl rfl (bool_nar htd) (bool_fit htd) rfl (Nat.le_of_ble_eq_true rfl) ?_
  refine hr.2.2.2.1 _ _ _ _ _ (Nat.le_refl _) (Nat.le_refl _) rfl d_T_copyText_79 ?_
  refine ⟨(x_9.1, x_9.2, va_cpy g2 g 0 0 gu2, va_cpy pw2 pw 0 0 31), rfl, rfl, hx_9, hb, hgu, fun j => ?_, fun j => ?_, hpg, hdg, htd, fun e => ?_⟩
  · show va_cpy g2 g 0 0 gu2 j < _
    unfold va_cpy
    split
    · exact hg31 _
    · exact hg _
  · show va_cpy pw2 pw 0 0 31 j < _
    unfold va_cpy
    split
    · exact hpw31 _
    · exact hpw _
  · obtain ⟨l1, l2, l3, l4, l5, l6, l7⟩ := htl e
    have hd := dpg_ok b2 hb.2 hb.1
    have c1 : ∀ j, j < gu2 → va_cpy g2 g 0 0 gu2 j = g2 j := fun j hj => by unfold va_cpy; rw [if_pos (by omega)]; congr 1; omega
    refine ⟨l1, fun j hj => ?_, l3, fun j hj => ?_, ?_, ?_, l7⟩
    · show va_cpy pw2 pw 0 0 31 j = _
      unfold va_cpy
      rw [if_pos (by omega), show 0 + (j - 0) = j by omega]
      exact l2 j hj
    · show va_cpy g2 g 0 0 gu2 j < _
      rw [c1 j hj]
      exact l4 j hj
    · show nv _ (va_cpy g2 g 0 0 gu2) gu2 = _
      rw [← l5]
      exact nv_congr c1
    · rcases l6 with l6 | l6
      · exact Or.inl l6
      · refine Or.inr ?_
        show va_cpy g2 g 0 0 gu2 (gu2 - 1) ≠ 0
        rw [c1 _ (by omega)]
        exact l6
end
