-- ===== PART A: goes FIRST, ahead of the names: the tables' words, and 'selects' of the private methods out of them =====
/-- a private method of a class that the tables say can be made, by its rows of tables_1 -/
def lw_okq (q : MethodName × Nat) : Prop := (q.1.cls ≠ "java/lang/invoke/MethodHandle" ∧ q.1.cls ≠ "java/lang/invoke/VarHandle") ∧ Cond.instantiable q.1.cls q.2 ∈ tables_1 ∧ Cond.privateMethod q.1 ∈ tables_1 ∧ Cond.instanceMethod q.1 ∈ tables_1
theorem lw_p0 : lw_okq (⟨"StabilityAnalyzer$History", "stateAt", "(I)LStabilityAnalyzer$Readings;"⟩, 3) := ⟨⟨by decide +kernel, by decide +kernel⟩, List.mem_of_getElem? (i := 34) (by decide +kernel), List.mem_of_getElem? (i := 172) (by decide +kernel), List.mem_of_getElem? (i := 173) (by decide +kernel)⟩
theorem lw_p1 : lw_okq (⟨"StabilityAnalyzer", "subtractAmounts", "()I"⟩, 9) := ⟨⟨by decide +kernel, by decide +kernel⟩, List.mem_of_getElem? (i := 12) (by decide +kernel), List.mem_of_getElem? (i := 239) (by decide +kernel), List.mem_of_getElem? (i := 240) (by decide +kernel)⟩
theorem lw_p2 : lw_okq (⟨"StabilityAnalyzer", "allStayPhases", "()Z"⟩, 9) := ⟨⟨by decide +kernel, by decide +kernel⟩, List.mem_of_getElem? (i := 12) (by decide +kernel), List.mem_of_getElem? (i := 243) (by decide +kernel), List.mem_of_getElem? (i := 244) (by decide +kernel)⟩
theorem lw_p3 : lw_okq (⟨"StabilityAnalyzer$Readings", "secondAt", "(II)I"⟩, 2) := ⟨⟨by decide +kernel, by decide +kernel⟩, List.mem_of_getElem? (i := 20) (by decide +kernel), List.mem_of_getElem? (i := 265) (by decide +kernel), List.mem_of_getElem? (i := 266) (by decide +kernel)⟩
theorem lw_p4 : lw_okq (⟨"StabilityAnalyzer$Readings", "thirdAt", "(II)I"⟩, 2) := ⟨⟨by decide +kernel, by decide +kernel⟩, List.mem_of_getElem? (i := 20) (by decide +kernel), List.mem_of_getElem? (i := 269) (by decide +kernel), List.mem_of_getElem? (i := 270) (by decide +kernel)⟩
theorem lw_p5 : lw_okq (⟨"StabilityAnalyzer$Readings", "meanAt", "(II)I"⟩, 2) := ⟨⟨by decide +kernel, by decide +kernel⟩, List.mem_of_getElem? (i := 20) (by decide +kernel), List.mem_of_getElem? (i := 273) (by decide +kernel), List.mem_of_getElem? (i := 274) (by decide +kernel)⟩
theorem lw_p6 : lw_okq (⟨"StabilityAnalyzer", "sumOfSecondDifferences", "()J"⟩, 9) := ⟨⟨by decide +kernel, by decide +kernel⟩, List.mem_of_getElem? (i := 12) (by decide +kernel), List.mem_of_getElem? (i := 277) (by decide +kernel), List.mem_of_getElem? (i := 278) (by decide +kernel)⟩
theorem lw_p7 : lw_okq (⟨"StabilityAnalyzer", "fillGap", "(II)V"⟩, 9) := ⟨⟨by decide +kernel, by decide +kernel⟩, List.mem_of_getElem? (i := 12) (by decide +kernel), List.mem_of_getElem? (i := 305) (by decide +kernel), List.mem_of_getElem? (i := 306) (by decide +kernel)⟩
theorem lw_p8 : lw_okq (⟨"StabilityAnalyzer$Readings", "startsGap", "(I)Z"⟩, 2) := ⟨⟨by decide +kernel, by decide +kernel⟩, List.mem_of_getElem? (i := 20) (by decide +kernel), List.mem_of_getElem? (i := 348) (by decide +kernel), List.mem_of_getElem? (i := 349) (by decide +kernel)⟩
theorem lw_p9 : lw_okq (⟨"StabilityAnalyzer", "greatestM", "()I"⟩, 9) := ⟨⟨by decide +kernel, by decide +kernel⟩, List.mem_of_getElem? (i := 12) (by decide +kernel), List.mem_of_getElem? (i := 357) (by decide +kernel), List.mem_of_getElem? (i := 358) (by decide +kernel)⟩
theorem lw_p10 : lw_okq (⟨"StabilityAnalyzer", "measure", "(IILStabilityAnalyzer$Fraction;)V"⟩, 9) := ⟨⟨by decide +kernel, by decide +kernel⟩, List.mem_of_getElem? (i := 12) (by decide +kernel), List.mem_of_getElem? (i := 391) (by decide +kernel), List.mem_of_getElem? (i := 392) (by decide +kernel)⟩
theorem lw_p11 : lw_okq (⟨"StabilityAnalyzer", "kindOfNoise", "(I)I"⟩, 9) := ⟨⟨by decide +kernel, by decide +kernel⟩, List.mem_of_getElem? (i := 12) (by decide +kernel), List.mem_of_getElem? (i := 450) (by decide +kernel), List.mem_of_getElem? (i := 451) (by decide +kernel)⟩
theorem lw_p12 : lw_okq (⟨"StabilityAnalyzer$Loader", "readsItem", "(LStabilityAnalyzer$Text;LStabilityAnalyzer$Readings;)Z"⟩, 5) := ⟨⟨by decide +kernel, by decide +kernel⟩, List.mem_of_getElem? (i := 85) (by decide +kernel), List.mem_of_getElem? (i := 493) (by decide +kernel), List.mem_of_getElem? (i := 494) (by decide +kernel)⟩
theorem lw_p13 : lw_okq (⟨"StabilityAnalyzer$Loader", "readsPhase", "(LStabilityAnalyzer$Text;)Z"⟩, 5) := ⟨⟨by decide +kernel, by decide +kernel⟩, List.mem_of_getElem? (i := 85) (by decide +kernel), List.mem_of_getElem? (i := 497) (by decide +kernel), List.mem_of_getElem? (i := 498) (by decide +kernel)⟩
theorem lw_p14 : lw_okq (⟨"StabilityAnalyzer$Loader", "refuses", "(II)Z"⟩, 5) := ⟨⟨by decide +kernel, by decide +kernel⟩, List.mem_of_getElem? (i := 85) (by decide +kernel), List.mem_of_getElem? (i := 508) (by decide +kernel), List.mem_of_getElem? (i := 509) (by decide +kernel)⟩
theorem lw_p15 : lw_okq (⟨"StabilityAnalyzer$Loader", "readNumber", "(LStabilityAnalyzer$Text;I)I"⟩, 5) := ⟨⟨by decide +kernel, by decide +kernel⟩, List.mem_of_getElem? (i := 85) (by decide +kernel), List.mem_of_getElem? (i := 512) (by decide +kernel), List.mem_of_getElem? (i := 513) (by decide +kernel)⟩
def lw_privs_1 : List (MethodName × Nat) := [(⟨"StabilityAnalyzer$History", "stateAt", "(I)LStabilityAnalyzer$Readings;"⟩, 3), (⟨"StabilityAnalyzer", "subtractAmounts", "()I"⟩, 9), (⟨"StabilityAnalyzer", "allStayPhases", "()Z"⟩, 9), (⟨"StabilityAnalyzer$Readings", "secondAt", "(II)I"⟩, 2), (⟨"StabilityAnalyzer$Readings", "thirdAt", "(II)I"⟩, 2), (⟨"StabilityAnalyzer$Readings", "meanAt", "(II)I"⟩, 2), (⟨"StabilityAnalyzer", "sumOfSecondDifferences", "()J"⟩, 9), (⟨"StabilityAnalyzer", "fillGap", "(II)V"⟩, 9), (⟨"StabilityAnalyzer$Readings", "startsGap", "(I)Z"⟩, 2), (⟨"StabilityAnalyzer", "greatestM", "()I"⟩, 9), (⟨"StabilityAnalyzer", "measure", "(IILStabilityAnalyzer$Fraction;)V"⟩, 9), (⟨"StabilityAnalyzer", "kindOfNoise", "(I)I"⟩, 9), (⟨"StabilityAnalyzer$Loader", "readsItem", "(LStabilityAnalyzer$Text;LStabilityAnalyzer$Readings;)Z"⟩, 5), (⟨"StabilityAnalyzer$Loader", "readsPhase", "(LStabilityAnalyzer$Text;)Z"⟩, 5), (⟨"StabilityAnalyzer$Loader", "refuses", "(II)Z"⟩, 5), (⟨"StabilityAnalyzer$Loader", "readNumber", "(LStabilityAnalyzer$Text;I)I"⟩, 5)]
theorem lw_r1 : ∀ q ∈ lw_privs_1, lw_okq q := List.forall_mem_cons.mpr ⟨lw_p0, List.forall_mem_cons.mpr ⟨lw_p1, List.forall_mem_cons.mpr ⟨lw_p2, List.forall_mem_cons.mpr ⟨lw_p3, List.forall_mem_cons.mpr ⟨lw_p4, List.forall_mem_cons.mpr ⟨lw_p5, List.forall_mem_cons.mpr ⟨lw_p6, List.forall_mem_cons.mpr ⟨lw_p7, List.forall_mem_cons.mpr ⟨lw_p8, List.forall_mem_cons.mpr ⟨lw_p9, List.forall_mem_cons.mpr ⟨lw_p10, List.forall_mem_cons.mpr ⟨lw_p11, List.forall_mem_cons.mpr ⟨lw_p12, List.forall_mem_cons.mpr ⟨lw_p13, List.forall_mem_cons.mpr ⟨lw_p14, List.forall_mem_cons.mpr ⟨lw_p15, fun _ h => absurd h List.not_mem_nil⟩⟩⟩⟩⟩⟩⟩⟩⟩⟩⟩⟩⟩⟩⟩⟩
theorem lw_p16 : lw_okq (⟨"StabilityAnalyzer$Loader", "readsTimes", "(LStabilityAnalyzer$Text;)Z"⟩, 5) := ⟨⟨by decide +kernel, by decide +kernel⟩, List.mem_of_getElem? (i := 85) (by decide +kernel), List.mem_of_getElem? (i := 516) (by decide +kernel), List.mem_of_getElem? (i := 517) (by decide +kernel)⟩
theorem lw_p17 : lw_okq (⟨"StabilityAnalyzer", "imageAt", "(I)LStabilityAnalyzer$Image;"⟩, 9) := ⟨⟨by decide +kernel, by decide +kernel⟩, List.mem_of_getElem? (i := 12) (by decide +kernel), List.mem_of_getElem? (i := 530) (by decide +kernel), List.mem_of_getElem? (i := 531) (by decide +kernel)⟩
theorem lw_p18 : lw_okq (⟨"StabilityAnalyzerModel", "many", "()I"⟩, 19) := ⟨⟨by decide +kernel, by decide +kernel⟩, List.mem_of_getElem? (i := 538) (by decide +kernel), List.mem_of_getElem? (i := 614) (by decide +kernel), List.mem_of_getElem? (i := 615) (by decide +kernel)⟩
theorem lw_p19 : lw_okq (⟨"StabilityAnalyzerModel", "remember", "()V"⟩, 19) := ⟨⟨by decide +kernel, by decide +kernel⟩, List.mem_of_getElem? (i := 538) (by decide +kernel), List.mem_of_getElem? (i := 619) (by decide +kernel), List.mem_of_getElem? (i := 620) (by decide +kernel)⟩
theorem lw_p20 : lw_okq (⟨"StabilityAnalyzerModel", "isReading", "(I)Z"⟩, 19) := ⟨⟨by decide +kernel, by decide +kernel⟩, List.mem_of_getElem? (i := 538) (by decide +kernel), List.mem_of_getElem? (i := 634) (by decide +kernel), List.mem_of_getElem? (i := 635) (by decide +kernel)⟩
theorem lw_p21 : lw_okq (⟨"StabilityAnalyzerModel", "isThere", "(I)Z"⟩, 19) := ⟨⟨by decide +kernel, by decide +kernel⟩, List.mem_of_getElem? (i := 538) (by decide +kernel), List.mem_of_getElem? (i := 646) (by decide +kernel), List.mem_of_getElem? (i := 647) (by decide +kernel)⟩
theorem lw_p22 : lw_okq (⟨"StabilityAnalyzerModel", "onLine", "(III)J"⟩, 19) := ⟨⟨by decide +kernel, by decide +kernel⟩, List.mem_of_getElem? (i := 538) (by decide +kernel), List.mem_of_getElem? (i := 651) (by decide +kernel), List.mem_of_getElem? (i := 652) (by decide +kernel)⟩
theorem lw_p23 : lw_okq (⟨"StabilityAnalyzerModel", "subtract", "()I"⟩, 19) := ⟨⟨by decide +kernel, by decide +kernel⟩, List.mem_of_getElem? (i := 538) (by decide +kernel), List.mem_of_getElem? (i := 658) (by decide +kernel), List.mem_of_getElem? (i := 659) (by decide +kernel)⟩
theorem lw_p24 : lw_okq (⟨"StabilityAnalyzerModel", "countOf", "(II)I"⟩, 19) := ⟨⟨by decide +kernel, by decide +kernel⟩, List.mem_of_getElem? (i := 538) (by decide +kernel), List.mem_of_getElem? (i := 673) (by decide +kernel), List.mem_of_getElem? (i := 674) (by decide +kernel)⟩
theorem lw_p25 : lw_okq (⟨"StabilityAnalyzerModel", "exists", "(III)Z"⟩, 19) := ⟨⟨by decide +kernel, by decide +kernel⟩, List.mem_of_getElem? (i := 538) (by decide +kernel), List.mem_of_getElem? (i := 677) (by decide +kernel), List.mem_of_getElem? (i := 678) (by decide +kernel)⟩
theorem lw_p26 : lw_okq (⟨"StabilityAnalyzerModel", "exists2", "(II)Z"⟩, 19) := ⟨⟨by decide +kernel, by decide +kernel⟩, List.mem_of_getElem? (i := 538) (by decide +kernel), List.mem_of_getElem? (i := 681) (by decide +kernel), List.mem_of_getElem? (i := 682) (by decide +kernel)⟩
theorem lw_p27 : lw_okq (⟨"StabilityAnalyzerModel", "differenceAt", "(III)I"⟩, 19) := ⟨⟨by decide +kernel, by decide +kernel⟩, List.mem_of_getElem? (i := 538) (by decide +kernel), List.mem_of_getElem? (i := 685) (by decide +kernel), List.mem_of_getElem? (i := 686) (by decide +kernel)⟩
theorem lw_p28 : lw_okq (⟨"StabilityAnalyzerModel", "second", "(II)I"⟩, 19) := ⟨⟨by decide +kernel, by decide +kernel⟩, List.mem_of_getElem? (i := 538) (by decide +kernel), List.mem_of_getElem? (i := 689) (by decide +kernel), List.mem_of_getElem? (i := 690) (by decide +kernel)⟩
theorem lw_p29 : lw_okq (⟨"StabilityAnalyzerModel", "layOutliers", "(I)I"⟩, 19) := ⟨⟨by decide +kernel, by decide +kernel⟩, List.mem_of_getElem? (i := 538) (by decide +kernel), List.mem_of_getElem? (i := 697) (by decide +kernel), List.mem_of_getElem? (i := 698) (by decide +kernel)⟩
theorem lw_p30 : lw_okq (⟨"StabilityAnalyzerModel", "isOutlier", "(II)Z"⟩, 19) := ⟨⟨by decide +kernel, by decide +kernel⟩, List.mem_of_getElem? (i := 538) (by decide +kernel), List.mem_of_getElem? (i := 701) (by decide +kernel), List.mem_of_getElem? (i := 702) (by decide +kernel)⟩
theorem lw_p31 : lw_okq (⟨"StabilityAnalyzerModel", "endOfGap", "(I)I"⟩, 19) := ⟨⟨by decide +kernel, by decide +kernel⟩, List.mem_of_getElem? (i := 538) (by decide +kernel), List.mem_of_getElem? (i := 709) (by decide +kernel), List.mem_of_getElem? (i := 710) (by decide +kernel)⟩
def lw_privs_2 : List (MethodName × Nat) := [(⟨"StabilityAnalyzer$Loader", "readsTimes", "(LStabilityAnalyzer$Text;)Z"⟩, 5), (⟨"StabilityAnalyzer", "imageAt", "(I)LStabilityAnalyzer$Image;"⟩, 9), (⟨"StabilityAnalyzerModel", "many", "()I"⟩, 19), (⟨"StabilityAnalyzerModel", "remember", "()V"⟩, 19), (⟨"StabilityAnalyzerModel", "isReading", "(I)Z"⟩, 19), (⟨"StabilityAnalyzerModel", "isThere", "(I)Z"⟩, 19), (⟨"StabilityAnalyzerModel", "onLine", "(III)J"⟩, 19), (⟨"StabilityAnalyzerModel", "subtract", "()I"⟩, 19), (⟨"StabilityAnalyzerModel", "countOf", "(II)I"⟩, 19), (⟨"StabilityAnalyzerModel", "exists", "(III)Z"⟩, 19), (⟨"StabilityAnalyzerModel", "exists2", "(II)Z"⟩, 19), (⟨"StabilityAnalyzerModel", "differenceAt", "(III)I"⟩, 19), (⟨"StabilityAnalyzerModel", "second", "(II)I"⟩, 19), (⟨"StabilityAnalyzerModel", "layOutliers", "(I)I"⟩, 19), (⟨"StabilityAnalyzerModel", "isOutlier", "(II)Z"⟩, 19), (⟨"StabilityAnalyzerModel", "endOfGap", "(I)I"⟩, 19)]
theorem lw_r2 : ∀ q ∈ lw_privs_2, lw_okq q := List.forall_mem_cons.mpr ⟨lw_p16, List.forall_mem_cons.mpr ⟨lw_p17, List.forall_mem_cons.mpr ⟨lw_p18, List.forall_mem_cons.mpr ⟨lw_p19, List.forall_mem_cons.mpr ⟨lw_p20, List.forall_mem_cons.mpr ⟨lw_p21, List.forall_mem_cons.mpr ⟨lw_p22, List.forall_mem_cons.mpr ⟨lw_p23, List.forall_mem_cons.mpr ⟨lw_p24, List.forall_mem_cons.mpr ⟨lw_p25, List.forall_mem_cons.mpr ⟨lw_p26, List.forall_mem_cons.mpr ⟨lw_p27, List.forall_mem_cons.mpr ⟨lw_p28, List.forall_mem_cons.mpr ⟨lw_p29, List.forall_mem_cons.mpr ⟨lw_p30, List.forall_mem_cons.mpr ⟨lw_p31, fun _ h => absurd h List.not_mem_nil⟩⟩⟩⟩⟩⟩⟩⟩⟩⟩⟩⟩⟩⟩⟩⟩
theorem lw_p32 : lw_okq (⟨"StabilityAnalyzerModel", "beginsGap", "(I)Z"⟩, 19) := ⟨⟨by decide +kernel, by decide +kernel⟩, List.mem_of_getElem? (i := 538) (by decide +kernel), List.mem_of_getElem? (i := 713) (by decide +kernel), List.mem_of_getElem? (i := 714) (by decide +kernel)⟩
theorem lw_p33 : lw_okq (⟨"StabilityAnalyzerModel", "present", "()I"⟩, 19) := ⟨⟨by decide +kernel, by decide +kernel⟩, List.mem_of_getElem? (i := 538) (by decide +kernel), List.mem_of_getElem? (i := 729) (by decide +kernel), List.mem_of_getElem? (i := 730) (by decide +kernel)⟩
theorem lw_p34 : lw_okq (⟨"StabilityAnalyzerModel", "end", "(Z)I"⟩, 19) := ⟨⟨by decide +kernel, by decide +kernel⟩, List.mem_of_getElem? (i := 538) (by decide +kernel), List.mem_of_getElem? (i := 733) (by decide +kernel), List.mem_of_getElem? (i := 734) (by decide +kernel)⟩
theorem lw_p35 : lw_okq (⟨"StabilityAnalyzerModel", "gaps", "(Z)I"⟩, 19) := ⟨⟨by decide +kernel, by decide +kernel⟩, List.mem_of_getElem? (i := 538) (by decide +kernel), List.mem_of_getElem? (i := 737) (by decide +kernel), List.mem_of_getElem? (i := 738) (by decide +kernel)⟩
theorem lw_p36 : lw_okq (⟨"StabilityAnalyzerModel", "widest", "()I"⟩, 19) := ⟨⟨by decide +kernel, by decide +kernel⟩, List.mem_of_getElem? (i := 538) (by decide +kernel), List.mem_of_getElem? (i := 741) (by decide +kernel), List.mem_of_getElem? (i := 742) (by decide +kernel)⟩
theorem lw_p37 : lw_okq (⟨"StabilityAnalyzerModel", "layVariance", "(II)Z"⟩, 19) := ⟨⟨by decide +kernel, by decide +kernel⟩, List.mem_of_getElem? (i := 538) (by decide +kernel), List.mem_of_getElem? (i := 768) (by decide +kernel), List.mem_of_getElem? (i := 769) (by decide +kernel)⟩
theorem lw_p38 : lw_okq (⟨"StabilityAnalyzerModel", "compared", "(III)I"⟩, 19) := ⟨⟨by decide +kernel, by decide +kernel⟩, List.mem_of_getElem? (i := 538) (by decide +kernel), List.mem_of_getElem? (i := 788) (by decide +kernel), List.mem_of_getElem? (i := 789) (by decide +kernel)⟩
theorem lw_p39 : lw_okq (⟨"StabilityAnalyzerModel", "noiseAt", "(I)I"⟩, 19) := ⟨⟨by decide +kernel, by decide +kernel⟩, List.mem_of_getElem? (i := 538) (by decide +kernel), List.mem_of_getElem? (i := 803) (by decide +kernel), List.mem_of_getElem? (i := 804) (by decide +kernel)⟩
theorem lw_p40 : lw_okq (⟨"StabilityAnalyzerModel", "isItemWrong", "()Z"⟩, 19) := ⟨⟨by decide +kernel, by decide +kernel⟩, List.mem_of_getElem? (i := 538) (by decide +kernel), List.mem_of_getElem? (i := 828) (by decide +kernel), List.mem_of_getElem? (i := 829) (by decide +kernel)⟩
theorem lw_p41 : lw_okq (⟨"StabilityAnalyzerModel", "takes", "(I)Z"⟩, 19) := ⟨⟨by decide +kernel, by decide +kernel⟩, List.mem_of_getElem? (i := 538) (by decide +kernel), List.mem_of_getElem? (i := 832) (by decide +kernel), List.mem_of_getElem? (i := 833) (by decide +kernel)⟩
theorem lw_p42 : lw_okq (⟨"StabilityAnalyzerModel", "lacksNumber", "(I)Z"⟩, 19) := ⟨⟨by decide +kernel, by decide +kernel⟩, List.mem_of_getElem? (i := 538) (by decide +kernel), List.mem_of_getElem? (i := 836) (by decide +kernel), List.mem_of_getElem? (i := 837) (by decide +kernel)⟩
theorem lw_p43 : lw_okq (⟨"StabilityAnalyzerModel", "isDigit", "()Z"⟩, 19) := ⟨⟨by decide +kernel, by decide +kernel⟩, List.mem_of_getElem? (i := 538) (by decide +kernel), List.mem_of_getElem? (i := 840) (by decide +kernel), List.mem_of_getElem? (i := 841) (by decide +kernel)⟩
theorem lw_p44 : lw_okq (⟨"StabilityAnalyzerModel", "isWrong", "(II)Z"⟩, 19) := ⟨⟨by decide +kernel, by decide +kernel⟩, List.mem_of_getElem? (i := 538) (by decide +kernel), List.mem_of_getElem? (i := 844) (by decide +kernel), List.mem_of_getElem? (i := 845) (by decide +kernel)⟩
def lw_privs_3 : List (MethodName × Nat) := [(⟨"StabilityAnalyzerModel", "beginsGap", "(I)Z"⟩, 19), (⟨"StabilityAnalyzerModel", "present", "()I"⟩, 19), (⟨"StabilityAnalyzerModel", "end", "(Z)I"⟩, 19), (⟨"StabilityAnalyzerModel", "gaps", "(Z)I"⟩, 19), (⟨"StabilityAnalyzerModel", "widest", "()I"⟩, 19), (⟨"StabilityAnalyzerModel", "layVariance", "(II)Z"⟩, 19), (⟨"StabilityAnalyzerModel", "compared", "(III)I"⟩, 19), (⟨"StabilityAnalyzerModel", "noiseAt", "(I)I"⟩, 19), (⟨"StabilityAnalyzerModel", "isItemWrong", "()Z"⟩, 19), (⟨"StabilityAnalyzerModel", "takes", "(I)Z"⟩, 19), (⟨"StabilityAnalyzerModel", "lacksNumber", "(I)Z"⟩, 19), (⟨"StabilityAnalyzerModel", "isDigit", "()Z"⟩, 19), (⟨"StabilityAnalyzerModel", "isWrong", "(II)Z"⟩, 19)]
theorem lw_r3 : ∀ q ∈ lw_privs_3, lw_okq q := List.forall_mem_cons.mpr ⟨lw_p32, List.forall_mem_cons.mpr ⟨lw_p33, List.forall_mem_cons.mpr ⟨lw_p34, List.forall_mem_cons.mpr ⟨lw_p35, List.forall_mem_cons.mpr ⟨lw_p36, List.forall_mem_cons.mpr ⟨lw_p37, List.forall_mem_cons.mpr ⟨lw_p38, List.forall_mem_cons.mpr ⟨lw_p39, List.forall_mem_cons.mpr ⟨lw_p40, List.forall_mem_cons.mpr ⟨lw_p41, List.forall_mem_cons.mpr ⟨lw_p42, List.forall_mem_cons.mpr ⟨lw_p43, List.forall_mem_cons.mpr ⟨lw_p44, fun _ h => absurd h List.not_mem_nil⟩⟩⟩⟩⟩⟩⟩⟩⟩⟩⟩⟩⟩
def lw_privs : List (MethodName × Nat) := lw_privs_1 ++ (lw_privs_2 ++ (lw_privs_3))
def lw_tbl : List Cond := k2_sels lw_privs ++ tables_1
theorem lw_privs_ok : ∀ q ∈ lw_privs, lw_okq q := by
  show ∀ q ∈ lw_privs_1 ++ (lw_privs_2 ++ (lw_privs_3)), lw_okq q
  exact List.forall_mem_append.mpr ⟨lw_r1, List.forall_mem_append.mpr ⟨lw_r2, lw_r3⟩⟩

/-! names and fields, out of the printed names -/
def RX0 : String := "StabilityAnalyzer$Fraction"
def TX0 : u_T := fun k => match k with
  | 0 => ("StabilityAnalyzer$Fraction", "numerator", "J", false)
  | _ => ("StabilityAnalyzer$Fraction", "denominator", "J", false)
def tyX0 : Nat → FieldType := fun k => match k with
  | 0 => .long
  | _ => .long
abbrev wsX00 : List Cond := u_ws RX0 TX0 2
theorem nmX0 : ∀ a, a < 2 → ∀ b, b < 2 → a ≠ b → (TX0 a).2.1 ≠ (TX0 b).2.1 := by decide +kernel
theorem tyX0_ok : ∀ k, k < 2 → parseFieldDescriptor (TX0 k).2.2.1 = some (tyX0 k) := by decide +kernel
abbrev cX0_init : ByteArray := prog_2_method_1_code
def yX0_init : MethodName := ⟨RX0, "<init>", "()V"⟩
abbrev cX0_exists : ByteArray := prog_2_method_2_code
def yX0_exists : MethodName := ⟨RX0, "exists", "()Z"⟩
abbrev cX0_become : ByteArray := prog_2_method_3_code
def yX0_become : MethodName := ⟨RX0, "become", "(JJ)V"⟩
abbrev cX0_copyFrom : ByteArray := prog_2_method_4_code
def yX0_copyFrom : MethodName := ⟨RX0, "copyFrom", "(LStabilityAnalyzer$Fraction;)V"⟩
abbrev cX0_orderOfMultiples : ByteArray := prog_2_method_5_code
def yX0_orderOfMultiples : MethodName := ⟨RX0, "orderOfMultiples", "(JLStabilityAnalyzer$Fraction;J)I"⟩
abbrev cX0_timesRoundedDown : ByteArray := prog_2_method_6_code
def yX0_timesRoundedDown : MethodName := ⟨RX0, "timesRoundedDown", "(J)J"⟩
abbrev cX0_greatestDivisor : ByteArray := prog_2_method_7_code
def yX0_greatestDivisor : MethodName := ⟨RX0, "greatestDivisor", "(JJ)J"⟩
def RX1 : String := "StabilityAnalyzer$History"
def TX1 : u_T := fun k => match k with
  | 0 => ("StabilityAnalyzer$History", "states", "[LStabilityAnalyzer$Readings;", true)
  | 1 => ("StabilityAnalyzer$History", "oldest", "I", false)
  | _ => ("StabilityAnalyzer$History", "depth", "I", false)
def tyX1 : Nat → FieldType := fun k => match k with
  | 0 => .array (.object "StabilityAnalyzer$Readings")
  | 1 => .int
  | _ => .int
abbrev wsX10 : List Cond := u_ws RX1 TX1 3
theorem nmX1 : ∀ a, a < 3 → ∀ b, b < 3 → a ≠ b → (TX1 a).2.1 ≠ (TX1 b).2.1 := by decide +kernel
theorem tyX1_ok : ∀ k, k < 3 → parseFieldDescriptor (TX1 k).2.2.1 = some (tyX1 k) := by decide +kernel
abbrev cX1_init : ByteArray := prog_3_method_1_code
def yX1_init : MethodName := ⟨RX1, "<init>", "()V"⟩
abbrev cX1_depth : ByteArray := prog_3_method_2_code
def yX1_depth : MethodName := ⟨RX1, "depth", "()I"⟩
abbrev cX1_record : ByteArray := prog_3_method_3_code
def yX1_record : MethodName := ⟨RX1, "record", "(LStabilityAnalyzer$Readings;)V"⟩
abbrev cX1_restore : ByteArray := prog_3_method_4_code
def yX1_restore : MethodName := ⟨RX1, "restore", "(LStabilityAnalyzer$Readings;)V"⟩
abbrev cX1_stateAt : ByteArray := prog_3_method_5_code
def yX1_stateAt : MethodName := ⟨RX1, "stateAt", "(I)LStabilityAnalyzer$Readings;"⟩
def RX2 : String := "StabilityAnalyzer$Image"
def TX2 : u_T := fun k => match k with
  | 0 => ("StabilityAnalyzer$Image", "readings", "LStabilityAnalyzer$Readings;", true)
  | _ => ("StabilityAnalyzer$Image", "used", "Z", false)
def tyX2 : Nat → FieldType := fun k => match k with
  | 0 => .object "StabilityAnalyzer$Readings"
  | _ => .boolean
abbrev wsX20 : List Cond := u_ws RX2 TX2 2
theorem nmX2 : ∀ a, a < 2 → ∀ b, b < 2 → a ≠ b → (TX2 a).2.1 ≠ (TX2 b).2.1 := by decide +kernel
theorem tyX2_ok : ∀ k, k < 2 → parseFieldDescriptor (TX2 k).2.2.1 = some (tyX2 k) := by decide +kernel
abbrev cX2_init : ByteArray := prog_4_method_1_code
def yX2_init : MethodName := ⟨RX2, "<init>", "()V"⟩
def RX3 : String := "StabilityAnalyzer$Loader"
def TX3 : u_T := fun k => match k with
  | 0 => ("StabilityAnalyzer$Loader", "faultKind", "I", false)
  | 1 => ("StabilityAnalyzer$Loader", "faultPlace", "I", false)
  | 2 => ("StabilityAnalyzer$Loader", "place", "I", false)
  | 3 => ("StabilityAnalyzer$Loader", "phase", "I", false)
  | _ => ("StabilityAnalyzer$Loader", "times", "I", false)
def tyX3 : Nat → FieldType := fun k => match k with
  | 0 => .int
  | 1 => .int
  | 2 => .int
  | 3 => .int
  | _ => .int
abbrev wsX30 : List Cond := u_ws RX3 TX3 5
theorem nmX3 : ∀ a, a < 5 → ∀ b, b < 5 → a ≠ b → (TX3 a).2.1 ≠ (TX3 b).2.1 := by decide +kernel
theorem tyX3_ok : ∀ k, k < 5 → parseFieldDescriptor (TX3 k).2.2.1 = some (tyX3 k) := by decide +kernel
abbrev cX3_init : ByteArray := prog_5_method_1_code
def yX3_init : MethodName := ⟨RX3, "<init>", "()V"⟩
abbrev cX3_readsAll : ByteArray := prog_5_method_2_code
def yX3_readsAll : MethodName := ⟨RX3, "readsAll", "(LStabilityAnalyzer$Text;LStabilityAnalyzer$Readings;)Z"⟩
abbrev cX3_readsItem : ByteArray := prog_5_method_3_code
def yX3_readsItem : MethodName := ⟨RX3, "readsItem", "(LStabilityAnalyzer$Text;LStabilityAnalyzer$Readings;)Z"⟩
abbrev cX3_readsPhase : ByteArray := prog_5_method_4_code
def yX3_readsPhase : MethodName := ⟨RX3, "readsPhase", "(LStabilityAnalyzer$Text;)Z"⟩
abbrev cX3_readsTimes : ByteArray := prog_5_method_5_code
def yX3_readsTimes : MethodName := ⟨RX3, "readsTimes", "(LStabilityAnalyzer$Text;)Z"⟩
abbrev cX3_readNumber : ByteArray := prog_5_method_6_code
def yX3_readNumber : MethodName := ⟨RX3, "readNumber", "(LStabilityAnalyzer$Text;I)I"⟩
abbrev cX3_isDigit : ByteArray := prog_5_method_7_code
def yX3_isDigit : MethodName := ⟨RX3, "isDigit", "(I)Z"⟩
abbrev cX3_refuses : ByteArray := prog_5_method_8_code
def yX3_refuses : MethodName := ⟨RX3, "refuses", "(II)Z"⟩
def RX4 : String := "StabilityAnalyzer$Readings"
def TX4 : u_T := fun k => match k with
  | 0 => ("StabilityAnalyzer$Readings", "phases", "[I", true)
  | _ => ("StabilityAnalyzer$Readings", "size", "I", false)
def tyX4 : Nat → FieldType := fun k => match k with
  | 0 => .array .int
  | _ => .int
abbrev wsX40 : List Cond := u_ws RX4 TX4 2
theorem nmX4 : ∀ a, a < 2 → ∀ b, b < 2 → a ≠ b → (TX4 a).2.1 ≠ (TX4 b).2.1 := by decide +kernel
theorem tyX4_ok : ∀ k, k < 2 → parseFieldDescriptor (TX4 k).2.2.1 = some (tyX4 k) := by decide +kernel
abbrev cX4_init : ByteArray := prog_6_method_1_code
def yX4_init : MethodName := ⟨RX4, "<init>", "()V"⟩
abbrev cX4_size : ByteArray := prog_6_method_2_code
def yX4_size : MethodName := ⟨RX4, "size", "()I"⟩
abbrev cX4_reaches : ByteArray := prog_6_method_3_code
def yX4_reaches : MethodName := ⟨RX4, "reaches", "(I)Z"⟩
abbrev cX4_has : ByteArray := prog_6_method_4_code
def yX4_has : MethodName := ⟨RX4, "has", "(I)Z"⟩
abbrev cX4_at : ByteArray := prog_6_method_5_code
def yX4_at : MethodName := ⟨RX4, "at", "(I)I"⟩
abbrev cX4_put : ByteArray := prog_6_method_6_code
def yX4_put : MethodName := ⟨RX4, "put", "(II)V"⟩
abbrev cX4_append : ByteArray := prog_6_method_7_code
def yX4_append : MethodName := ⟨RX4, "append", "(I)V"⟩
abbrev cX4_appendTimes : ByteArray := prog_6_method_8_code
def yX4_appendTimes : MethodName := ⟨RX4, "appendTimes", "(II)V"⟩
abbrev cX4_empty : ByteArray := prog_6_method_9_code
def yX4_empty : MethodName := ⟨RX4, "empty", "()V"⟩
abbrev cX4_copyFrom : ByteArray := prog_6_method_10_code
def yX4_copyFrom : MethodName := ⟨RX4, "copyFrom", "(LStabilityAnalyzer$Readings;)V"⟩
abbrev cX4_present : ByteArray := prog_6_method_11_code
def yX4_present : MethodName := ⟨RX4, "present", "()I"⟩
abbrev cX4_least : ByteArray := prog_6_method_12_code
def yX4_least : MethodName := ⟨RX4, "least", "()I"⟩
abbrev cX4_greatest : ByteArray := prog_6_method_13_code
def yX4_greatest : MethodName := ⟨RX4, "greatest", "()I"⟩
abbrev cX4_gaps : ByteArray := prog_6_method_14_code
def yX4_gaps : MethodName := ⟨RX4, "gaps", "()I"⟩
abbrev cX4_longestGap : ByteArray := prog_6_method_15_code
def yX4_longestGap : MethodName := ⟨RX4, "longestGap", "()I"⟩
abbrev cX4_startsGap : ByteArray := prog_6_method_16_code
def yX4_startsGap : MethodName := ⟨RX4, "startsGap", "(I)Z"⟩
abbrev cX4_gapEnd : ByteArray := prog_6_method_17_code
def yX4_gapEnd : MethodName := ⟨RX4, "gapEnd", "(I)I"⟩
abbrev cX4_lineAt : ByteArray := prog_6_method_18_code
def yX4_lineAt : MethodName := ⟨RX4, "lineAt", "(III)J"⟩
abbrev cX4_isOutlier : ByteArray := prog_6_method_19_code
def yX4_isOutlier : MethodName := ⟨RX4, "isOutlier", "(II)Z"⟩
abbrev cX4_countOf : ByteArray := prog_6_method_20_code
def yX4_countOf : MethodName := ⟨RX4, "countOf", "(II)I"⟩
abbrev cX4_differenceAt : ByteArray := prog_6_method_21_code
def yX4_differenceAt : MethodName := ⟨RX4, "differenceAt", "(III)I"⟩
abbrev cX4_secondAt : ByteArray := prog_6_method_22_code
def yX4_secondAt : MethodName := ⟨RX4, "secondAt", "(II)I"⟩
abbrev cX4_thirdAt : ByteArray := prog_6_method_23_code
def yX4_thirdAt : MethodName := ⟨RX4, "thirdAt", "(II)I"⟩
abbrev cX4_meanAt : ByteArray := prog_6_method_24_code
def yX4_meanAt : MethodName := ⟨RX4, "meanAt", "(II)I"⟩
def RX5 : String := "StabilityAnalyzer$Text"
def TX5 : u_T := fun k => match k with
  | 0 => ("StabilityAnalyzer$Text", "bytes", "[I", true)
  | _ => ("StabilityAnalyzer$Text", "size", "I", false)
def tyX5 : Nat → FieldType := fun k => match k with
  | 0 => .array .int
  | _ => .int
abbrev wsX50 : List Cond := u_ws RX5 TX5 2
theorem nmX5 : ∀ a, a < 2 → ∀ b, b < 2 → a ≠ b → (TX5 a).2.1 ≠ (TX5 b).2.1 := by decide +kernel
theorem tyX5_ok : ∀ k, k < 2 → parseFieldDescriptor (TX5 k).2.2.1 = some (tyX5 k) := by decide +kernel
abbrev cX5_init : ByteArray := prog_7_method_1_code
def yX5_init : MethodName := ⟨RX5, "<init>", "()V"⟩
abbrev cX5_size : ByteArray := prog_7_method_2_code
def yX5_size : MethodName := ⟨RX5, "size", "()I"⟩
abbrev cX5_at : ByteArray := prog_7_method_3_code
def yX5_at : MethodName := ⟨RX5, "at", "(I)I"⟩
abbrev cX5_append : ByteArray := prog_7_method_4_code
def yX5_append : MethodName := ⟨RX5, "append", "(I)V"⟩
abbrev cX5_empty : ByteArray := prog_7_method_5_code
def yX5_empty : MethodName := ⟨RX5, "empty", "()V"⟩
def RX6 : String := "StabilityAnalyzer"
def TX6 : u_T := fun k => match k with
  | 0 => ("StabilityAnalyzer", "now", "LStabilityAnalyzer$Readings;", true)
  | 1 => ("StabilityAnalyzer", "next", "LStabilityAnalyzer$Readings;", true)
  | 2 => ("StabilityAnalyzer", "amounts", "[J", true)
  | 3 => ("StabilityAnalyzer", "history", "LStabilityAnalyzer$History;", true)
  | 4 => ("StabilityAnalyzer", "images", "[LStabilityAnalyzer$Image;", true)
  | 5 => ("StabilityAnalyzer", "text", "LStabilityAnalyzer$Text;", true)
  | 6 => ("StabilityAnalyzer", "loader", "LStabilityAnalyzer$Loader;", true)
  | 7 => ("StabilityAnalyzer", "one", "LStabilityAnalyzer$Fraction;", true)
  | _ => ("StabilityAnalyzer", "two", "LStabilityAnalyzer$Fraction;", true)
def tyX6 : Nat → FieldType := fun k => match k with
  | 0 => .object "StabilityAnalyzer$Readings"
  | 1 => .object "StabilityAnalyzer$Readings"
  | 2 => .array .long
  | 3 => .object "StabilityAnalyzer$History"
  | 4 => .array (.object "StabilityAnalyzer$Image")
  | 5 => .object "StabilityAnalyzer$Text"
  | 6 => .object "StabilityAnalyzer$Loader"
  | 7 => .object "StabilityAnalyzer$Fraction"
  | _ => .object "StabilityAnalyzer$Fraction"
abbrev wsX60 : List Cond := u_ws RX6 TX6 9
theorem nmX6 : ∀ a, a < 9 → ∀ b, b < 9 → a ≠ b → (TX6 a).2.1 ≠ (TX6 b).2.1 := by decide +kernel
theorem tyX6_ok : ∀ k, k < 9 → parseFieldDescriptor (TX6 k).2.2.1 = some (tyX6 k) := by decide +kernel
abbrev cX6_init : ByteArray := prog_1_method_1_code
def yX6_init : MethodName := ⟨RX6, "<init>", "()V"⟩
abbrev cX6_add : ByteArray := prog_1_method_2_code
def yX6_add : MethodName := ⟨RX6, "add", "(I)I"⟩
abbrev cX6_skip : ByteArray := prog_1_method_3_code
def yX6_skip : MethodName := ⟨RX6, "skip", "(I)I"⟩
abbrev cX6_set : ByteArray := prog_1_method_4_code
def yX6_set : MethodName := ⟨RX6, "set", "(II)I"⟩
abbrev cX6_clear : ByteArray := prog_1_method_5_code
def yX6_clear : MethodName := ⟨RX6, "clear", "()I"⟩
abbrev cX6_removeLine : ByteArray := prog_1_method_6_code
def yX6_removeLine : MethodName := ⟨RX6, "removeLine", "(II)I"⟩
abbrev cX6_addLine : ByteArray := prog_1_method_7_code
def yX6_addLine : MethodName := ⟨RX6, "addLine", "(II)I"⟩
abbrev cX6_removeDrift : ByteArray := prog_1_method_8_code
def yX6_removeDrift : MethodName := ⟨RX6, "removeDrift", "()I"⟩
abbrev cX6_removeOutliers : ByteArray := prog_1_method_9_code
def yX6_removeOutliers : MethodName := ⟨RX6, "removeOutliers", "(I)I"⟩
abbrev cX6_fill : ByteArray := prog_1_method_10_code
def yX6_fill : MethodName := ⟨RX6, "fill", "(I)I"⟩
abbrev cX6_thin : ByteArray := prog_1_method_11_code
def yX6_thin : MethodName := ⟨RX6, "thin", "(II)I"⟩
abbrev cX6_undo : ByteArray := prog_1_method_12_code
def yX6_undo : MethodName := ⟨RX6, "undo", "()I"⟩
abbrev cX6_told : ByteArray := prog_1_method_13_code
def yX6_told : MethodName := ⟨RX6, "told", "(I)I"⟩
abbrev cX6_reading : ByteArray := prog_1_method_14_code
def yX6_reading : MethodName := ⟨RX6, "reading", "(I)I"⟩
abbrev cX6_difference : ByteArray := prog_1_method_15_code
def yX6_difference : MethodName := ⟨RX6, "difference", "(III)I"⟩
abbrev cX6_count : ByteArray := prog_1_method_16_code
def yX6_count : MethodName := ⟨RX6, "count", "(II)I"⟩
abbrev cX6_variance : ByteArray := prog_1_method_17_code
def yX6_variance : MethodName := ⟨RX6, "variance", "(III)J"⟩
abbrev cX6_deviation : ByteArray := prog_1_method_18_code
def yX6_deviation : MethodName := ⟨RX6, "deviation", "(II)J"⟩
abbrev cX6_compare : ByteArray := prog_1_method_19_code
def yX6_compare : MethodName := ⟨RX6, "compare", "(III)I"⟩
abbrev cX6_best : ByteArray := prog_1_method_20_code
def yX6_best : MethodName := ⟨RX6, "best", "(I)I"⟩
abbrev cX6_noise : ByteArray := prog_1_method_21_code
def yX6_noise : MethodName := ⟨RX6, "noise", "(I)I"⟩
abbrev cX6_freedom : ByteArray := prog_1_method_22_code
def yX6_freedom : MethodName := ⟨RX6, "freedom", "(I)I"⟩
abbrev cX6_outliers : ByteArray := prog_1_method_23_code
def yX6_outliers : MethodName := ⟨RX6, "outliers", "(I)I"⟩
abbrev cX6_write : ByteArray := prog_1_method_24_code
def yX6_write : MethodName := ⟨RX6, "write", "(I)I"⟩
abbrev cX6_wipe : ByteArray := prog_1_method_25_code
def yX6_wipe : MethodName := ⟨RX6, "wipe", "()I"⟩
abbrev cX6_load : ByteArray := prog_1_method_26_code
def yX6_load : MethodName := ⟨RX6, "load", "()I"⟩
abbrev cX6_fault : ByteArray := prog_1_method_27_code
def yX6_fault : MethodName := ⟨RX6, "fault", "(I)I"⟩
abbrev cX6_keep : ByteArray := prog_1_method_28_code
def yX6_keep : MethodName := ⟨RX6, "keep", "(I)I"⟩
abbrev cX6_back : ByteArray := prog_1_method_29_code
def yX6_back : MethodName := ⟨RX6, "back", "(I)I"⟩
abbrev cX6_isPhase : ByteArray := prog_1_method_30_code
def yX6_isPhase : MethodName := ⟨RX6, "isPhase", "(J)Z"⟩
abbrev cX6_isLimit : ByteArray := prog_1_method_31_code
def yX6_isLimit : MethodName := ⟨RX6, "isLimit", "(I)Z"⟩
abbrev cX6_isOrder : ByteArray := prog_1_method_32_code
def yX6_isOrder : MethodName := ⟨RX6, "isOrder", "(I)Z"⟩
abbrev cX6_isM : ByteArray := prog_1_method_33_code
def yX6_isM : MethodName := ⟨RX6, "isM", "(I)Z"⟩
abbrev cX6_isVariance : ByteArray := prog_1_method_34_code
def yX6_isVariance : MethodName := ⟨RX6, "isVariance", "(I)Z"⟩
abbrev cX6_imageAt : ByteArray := prog_1_method_35_code
def yX6_imageAt : MethodName := ⟨RX6, "imageAt", "(I)LStabilityAnalyzer$Image;"⟩
abbrev cX6_subtractAmounts : ByteArray := prog_1_method_36_code
def yX6_subtractAmounts : MethodName := ⟨RX6, "subtractAmounts", "()I"⟩
abbrev cX6_allStayPhases : ByteArray := prog_1_method_37_code
def yX6_allStayPhases : MethodName := ⟨RX6, "allStayPhases", "()Z"⟩
abbrev cX6_sumOfSecondDifferences : ByteArray := prog_1_method_38_code
def yX6_sumOfSecondDifferences : MethodName := ⟨RX6, "sumOfSecondDifferences", "()J"⟩
abbrev cX6_fillGap : ByteArray := prog_1_method_39_code
def yX6_fillGap : MethodName := ⟨RX6, "fillGap", "(II)V"⟩
abbrev cX6_greatestM : ByteArray := prog_1_method_40_code
def yX6_greatestM : MethodName := ⟨RX6, "greatestM", "()I"⟩
abbrev cX6_measure : ByteArray := prog_1_method_41_code
def yX6_measure : MethodName := ⟨RX6, "measure", "(IILStabilityAnalyzer$Fraction;)V"⟩
abbrev cX6_orderFor : ByteArray := prog_1_method_42_code
def yX6_orderFor : MethodName := ⟨RX6, "orderFor", "(I)I"⟩
abbrev cX6_divisorFor : ByteArray := prog_1_method_43_code
def yX6_divisorFor : MethodName := ⟨RX6, "divisorFor", "(IJ)J"⟩
abbrev cX6_squareRoot : ByteArray := prog_1_method_44_code
def yX6_squareRoot : MethodName := ⟨RX6, "squareRoot", "(J)J"⟩
abbrev cX6_kindOfNoise : ByteArray := prog_1_method_45_code
def yX6_kindOfNoise : MethodName := ⟨RX6, "kindOfNoise", "(I)I"⟩
abbrev cX6_degreesOfFreedom : ByteArray := prog_1_method_46_code
def yX6_degreesOfFreedom : MethodName := ⟨RX6, "degreesOfFreedom", "(III)I"⟩
def RX7 : String := "StabilityAnalyzerModel"
def TX7 : u_T := fun k => match k with
  | 0 => ("StabilityAnalyzerModel", "x", "[I", true)
  | 1 => ("StabilityAnalyzerModel", "past", "[I", true)
  | 2 => ("StabilityAnalyzerModel", "pastMany", "I", false)
  | 3 => ("StabilityAnalyzerModel", "images", "[I", true)
  | 4 => ("StabilityAnalyzerModel", "filled", "I", false)
  | 5 => ("StabilityAnalyzerModel", "text", "[I", true)
  | 6 => ("StabilityAnalyzerModel", "length", "I", false)
  | 7 => ("StabilityAnalyzerModel", "faultKind", "I", false)
  | 8 => ("StabilityAnalyzerModel", "faultPlace", "I", false)
  | 9 => ("StabilityAnalyzerModel", "less", "[J", true)
  | 10 => ("StabilityAnalyzerModel", "isOut", "[Z", true)
  | 11 => ("StabilityAnalyzerModel", "above", "J", false)
  | 12 => ("StabilityAnalyzerModel", "below", "J", false)
  | 13 => ("StabilityAnalyzerModel", "at", "I", false)
  | 14 => ("StabilityAnalyzerModel", "wrongKind", "I", false)
  | 15 => ("StabilityAnalyzerModel", "wrongPlace", "I", false)
  | 16 => ("StabilityAnalyzerModel", "read", "[I", true)
  | 17 => ("StabilityAnalyzerModel", "readMany", "I", false)
  | _ => ("StabilityAnalyzerModel", "number", "I", false)
def tyX7 : Nat → FieldType := fun k => match k with
  | 0 => .array .int
  | 1 => .array .int
  | 2 => .int
  | 3 => .array .int
  | 4 => .int
  | 5 => .array .int
  | 6 => .int
  | 7 => .int
  | 8 => .int
  | 9 => .array .long
  | 10 => .array .boolean
  | 11 => .long
  | 12 => .long
  | 13 => .int
  | 14 => .int
  | 15 => .int
  | 16 => .array .int
  | 17 => .int
  | _ => .int
abbrev wsX70 : List Cond := u_ws RX7 TX7 19
theorem nmX7 : ∀ a, a < 19 → ∀ b, b < 19 → a ≠ b → (TX7 a).2.1 ≠ (TX7 b).2.1 := by decide +kernel
theorem tyX7_ok : ∀ k, k < 19 → parseFieldDescriptor (TX7 k).2.2.1 = some (tyX7 k) := by decide +kernel
abbrev cX7_init : ByteArray := prog_9_method_1_code
def yX7_init : MethodName := ⟨RX7, "<init>", "()V"⟩
abbrev cX7_isIn : ByteArray := prog_9_method_3_code
def yX7_isIn : MethodName := ⟨RX7, "isIn", "(III)Z"⟩
abbrev cX7_many : ByteArray := prog_9_method_4_code
def yX7_many : MethodName := ⟨RX7, "many", "()I"⟩
abbrev cX7_isReading : ByteArray := prog_9_method_5_code
def yX7_isReading : MethodName := ⟨RX7, "isReading", "(I)Z"⟩
abbrev cX7_isThere : ByteArray := prog_9_method_6_code
def yX7_isThere : MethodName := ⟨RX7, "isThere", "(I)Z"⟩
abbrev cX7_remember : ByteArray := prog_9_method_7_code
def yX7_remember : MethodName := ⟨RX7, "remember", "()V"⟩
abbrev cX7_isPhase : ByteArray := prog_9_method_8_code
def yX7_isPhase : MethodName := ⟨RX7, "isPhase", "(J)Z"⟩
abbrev cX7_floor : ByteArray := prog_9_method_9_code
def yX7_floor : MethodName := ⟨RX7, "floor", "(JJ)J"⟩
abbrev cX7_add : ByteArray := prog_9_method_10_code
def yX7_add : MethodName := ⟨RX7, "add", "(I)I"⟩
abbrev cX7_skip : ByteArray := prog_9_method_11_code
def yX7_skip : MethodName := ⟨RX7, "skip", "(I)I"⟩
abbrev cX7_set : ByteArray := prog_9_method_12_code
def yX7_set : MethodName := ⟨RX7, "set", "(II)I"⟩
abbrev cX7_clear : ByteArray := prog_9_method_13_code
def yX7_clear : MethodName := ⟨RX7, "clear", "()I"⟩
abbrev cX7_subtract : ByteArray := prog_9_method_14_code
def yX7_subtract : MethodName := ⟨RX7, "subtract", "()I"⟩
abbrev cX7_onLine : ByteArray := prog_9_method_15_code
def yX7_onLine : MethodName := ⟨RX7, "onLine", "(III)J"⟩
abbrev cX7_removeLine : ByteArray := prog_9_method_16_code
def yX7_removeLine : MethodName := ⟨RX7, "removeLine", "(II)I"⟩
abbrev cX7_addLine : ByteArray := prog_9_method_17_code
def yX7_addLine : MethodName := ⟨RX7, "addLine", "(II)I"⟩
abbrev cX7_removeDrift : ByteArray := prog_9_method_18_code
def yX7_removeDrift : MethodName := ⟨RX7, "removeDrift", "()I"⟩
abbrev cX7_isOutlier : ByteArray := prog_9_method_19_code
def yX7_isOutlier : MethodName := ⟨RX7, "isOutlier", "(II)Z"⟩
abbrev cX7_layOutliers : ByteArray := prog_9_method_20_code
def yX7_layOutliers : MethodName := ⟨RX7, "layOutliers", "(I)I"⟩
abbrev cX7_removeOutliers : ByteArray := prog_9_method_21_code
def yX7_removeOutliers : MethodName := ⟨RX7, "removeOutliers", "(I)I"⟩
abbrev cX7_endOfGap : ByteArray := prog_9_method_22_code
def yX7_endOfGap : MethodName := ⟨RX7, "endOfGap", "(I)I"⟩
abbrev cX7_beginsGap : ByteArray := prog_9_method_23_code
def yX7_beginsGap : MethodName := ⟨RX7, "beginsGap", "(I)Z"⟩
abbrev cX7_fill : ByteArray := prog_9_method_24_code
def yX7_fill : MethodName := ⟨RX7, "fill", "(I)I"⟩
abbrev cX7_thin : ByteArray := prog_9_method_25_code
def yX7_thin : MethodName := ⟨RX7, "thin", "(II)I"⟩
abbrev cX7_undo : ByteArray := prog_9_method_26_code
def yX7_undo : MethodName := ⟨RX7, "undo", "()I"⟩
abbrev cX7_gaps : ByteArray := prog_9_method_27_code
def yX7_gaps : MethodName := ⟨RX7, "gaps", "(Z)I"⟩
abbrev cX7_present : ByteArray := prog_9_method_28_code
def yX7_present : MethodName := ⟨RX7, "present", "()I"⟩
abbrev cX7_end : ByteArray := prog_9_method_29_code
def yX7_end : MethodName := ⟨RX7, "end", "(Z)I"⟩
abbrev cX7_widest : ByteArray := prog_9_method_30_code
def yX7_widest : MethodName := ⟨RX7, "widest", "()I"⟩
abbrev cX7_told : ByteArray := prog_9_method_31_code
def yX7_told : MethodName := ⟨RX7, "told", "(I)I"⟩
abbrev cX7_reading : ByteArray := prog_9_method_32_code
def yX7_reading : MethodName := ⟨RX7, "reading", "(I)I"⟩
abbrev cX7_exists : ByteArray := prog_9_method_33_code
def yX7_exists : MethodName := ⟨RX7, "exists", "(III)Z"⟩
abbrev cX7_exists2 : ByteArray := prog_9_method_34_code
def yX7_exists2 : MethodName := ⟨RX7, "exists2", "(II)Z"⟩
abbrev cX7_second : ByteArray := prog_9_method_35_code
def yX7_second : MethodName := ⟨RX7, "second", "(II)I"⟩
abbrev cX7_differenceAt : ByteArray := prog_9_method_36_code
def yX7_differenceAt : MethodName := ⟨RX7, "differenceAt", "(III)I"⟩
abbrev cX7_isWide : ByteArray := prog_9_method_37_code
def yX7_isWide : MethodName := ⟨RX7, "isWide", "(I)Z"⟩
abbrev cX7_difference : ByteArray := prog_9_method_38_code
def yX7_difference : MethodName := ⟨RX7, "difference", "(III)I"⟩
abbrev cX7_countOf : ByteArray := prog_9_method_39_code
def yX7_countOf : MethodName := ⟨RX7, "countOf", "(II)I"⟩
abbrev cX7_count : ByteArray := prog_9_method_40_code
def yX7_count : MethodName := ⟨RX7, "count", "(II)I"⟩
abbrev cX7_common : ByteArray := prog_9_method_41_code
def yX7_common : MethodName := ⟨RX7, "common", "(JJ)J"⟩
abbrev cX7_layVariance : ByteArray := prog_9_method_42_code
def yX7_layVariance : MethodName := ⟨RX7, "layVariance", "(II)Z"⟩
abbrev cX7_isVariance : ByteArray := prog_9_method_43_code
def yX7_isVariance : MethodName := ⟨RX7, "isVariance", "(II)Z"⟩
abbrev cX7_variance : ByteArray := prog_9_method_44_code
def yX7_variance : MethodName := ⟨RX7, "variance", "(III)J"⟩
abbrev cX7_deviation : ByteArray := prog_9_method_45_code
def yX7_deviation : MethodName := ⟨RX7, "deviation", "(II)J"⟩
abbrev cX7_order : ByteArray := prog_9_method_46_code
def yX7_order : MethodName := ⟨RX7, "order", "(JJJJ)I"⟩
abbrev cX7_compared : ByteArray := prog_9_method_47_code
def yX7_compared : MethodName := ⟨RX7, "compared", "(III)I"⟩
abbrev cX7_compare : ByteArray := prog_9_method_48_code
def yX7_compare : MethodName := ⟨RX7, "compare", "(III)I"⟩
abbrev cX7_best : ByteArray := prog_9_method_49_code
def yX7_best : MethodName := ⟨RX7, "best", "(I)I"⟩
abbrev cX7_noiseAt : ByteArray := prog_9_method_50_code
def yX7_noiseAt : MethodName := ⟨RX7, "noiseAt", "(I)I"⟩
abbrev cX7_noise : ByteArray := prog_9_method_51_code
def yX7_noise : MethodName := ⟨RX7, "noise", "(I)I"⟩
abbrev cX7_freedom : ByteArray := prog_9_method_52_code
def yX7_freedom : MethodName := ⟨RX7, "freedom", "(I)I"⟩
abbrev cX7_outliers : ByteArray := prog_9_method_53_code
def yX7_outliers : MethodName := ⟨RX7, "outliers", "(I)I"⟩
abbrev cX7_write : ByteArray := prog_9_method_54_code
def yX7_write : MethodName := ⟨RX7, "write", "(I)I"⟩
abbrev cX7_wipe : ByteArray := prog_9_method_55_code
def yX7_wipe : MethodName := ⟨RX7, "wipe", "()I"⟩
abbrev cX7_isWrong : ByteArray := prog_9_method_56_code
def yX7_isWrong : MethodName := ⟨RX7, "isWrong", "(II)Z"⟩
abbrev cX7_isDigit : ByteArray := prog_9_method_57_code
def yX7_isDigit : MethodName := ⟨RX7, "isDigit", "()Z"⟩
abbrev cX7_takes : ByteArray := prog_9_method_58_code
def yX7_takes : MethodName := ⟨RX7, "takes", "(I)Z"⟩
abbrev cX7_lacksNumber : ByteArray := prog_9_method_59_code
def yX7_lacksNumber : MethodName := ⟨RX7, "lacksNumber", "(I)Z"⟩
abbrev cX7_isItemWrong : ByteArray := prog_9_method_60_code
def yX7_isItemWrong : MethodName := ⟨RX7, "isItemWrong", "()Z"⟩
abbrev cX7_load : ByteArray := prog_9_method_61_code
def yX7_load : MethodName := ⟨RX7, "load", "()I"⟩
abbrev cX7_fault : ByteArray := prog_9_method_62_code
def yX7_fault : MethodName := ⟨RX7, "fault", "(I)I"⟩
abbrev cX7_isImage : ByteArray := prog_9_method_63_code
def yX7_isImage : MethodName := ⟨RX7, "isImage", "(I)Z"⟩
abbrev cX7_keep : ByteArray := prog_9_method_64_code
def yX7_keep : MethodName := ⟨RX7, "keep", "(I)I"⟩
abbrev cX7_back : ByteArray := prog_9_method_65_code
def yX7_back : MethodName := ⟨RX7, "back", "(I)I"⟩
def RJ13 : String := "java/lang/Long"
def TJ13 : u_T := fun k => match k with
  | _ => ("", "", "", false)
def tyJ13 : Nat → FieldType := fun k => match k with
  | _ => .int
theorem nmJ13 : ∀ a, a < 0 → ∀ b, b < 0 → a ≠ b → (TJ13 a).2.1 ≠ (TJ13 b).2.1 := by decide +kernel
theorem tyJ13_ok : ∀ k, k < 0 → parseFieldDescriptor (TJ13 k).2.2.1 = some (tyJ13 k) := by decide +kernel
abbrev cJ13_compare_74951 : ByteArray := prog_10_method_42_code
def yJ13_compare_74951 : MethodName := ⟨RJ13, "compare", "(JJ)I"⟩
def RJ9 : String := "java/lang/Math"
def TJ9 : u_T := fun k => match k with
  | _ => ("", "", "", false)
def tyJ9 : Nat → FieldType := fun k => match k with
  | _ => .int
theorem nmJ9 : ∀ a, a < 0 → ∀ b, b < 0 → a ≠ b → (TJ9 a).2.1 ≠ (TJ9 b).2.1 := by decide +kernel
theorem tyJ9_ok : ∀ k, k < 0 → parseFieldDescriptor (TJ9 k).2.2.1 = some (tyJ9 k) := by decide +kernel
abbrev cJ9_floorDiv_f86c9 : ByteArray := prog_11_method_49_code
def yJ9_floorDiv_f86c9 : MethodName := ⟨RJ9, "floorDiv", "(JJ)J"⟩
abbrev cJ9_max_7cf53 : ByteArray := prog_11_method_65_code
def yJ9_max_7cf53 : MethodName := ⟨RJ9, "max", "(II)I"⟩
def RL : String := "StabilityAnalyzerLaw"
abbrev cL_law : ByteArray := code
def yL_law : MethodName := ⟨RL, "law", "([I)Z"⟩
abbrev vwCl : List vw_C := [(RX0, TX0, 2), (RX1, TX1, 3), (RX2, TX2, 2), (RX3, TX3, 5), (RX4, TX4, 2), (RX5, TX5, 2), (RX6, TX6, 9), (RX7, TX7, 19)]
