section
-- ===== PART A: goes FIRST, ahead of the names: the tables' words, and 'selects' of the private methods out of them =====
/-- a private method of a class that the tables say can be made, by its rows of tables_1 -/
def lw_okq (q : MethodName × Nat) : Prop := (q.1.cls ≠ "java/lang/invoke/MethodHandle" ∧ q.1.cls ≠ "java/lang/invoke/VarHandle") ∧ Cond.instantiable q.1.cls q.2 ∈ tables_1 ∧ Cond.privateMethod q.1 ∈ tables_1 ∧ Cond.instanceMethod q.1 ∈ tables_1
theorem lw_p0 : lw_okq (⟨"StabilityAnalyzer$History", "stateAt", "(I)LStabilityAnalyzer$Readings;"⟩, 3) := ⟨⟨by decide +kernel, by decide +kernel⟩, List.mem_of_getElem? (i := 34) (by decide +kernel), List.mem_of_getElem? (i := 172) (by decide +kernel), List.mem_of_getElem? (i := 173) (by decide +kernel)⟩
theorem lw_p1 : lw_okq (⟨"StabilityAnalyzer", "subtractAmounts", "()I"⟩, 9) := ⟨⟨by decide +kernel, by decide +kernel⟩, List.mem_of_getElem? (i := 12) (by decide +kernel), List.mem_of_getElem? (i := 239) (by decide +kernel), List.mem_of_getElem? (i := 240) (by decide +kernel)⟩
theorem lw_p2 : lw_okq (⟨"StabilityAnalyzer", "allStayPhases", "()Z"⟩, 9) := ⟨⟨by decide +kernel, by decide +kernel⟩, List.mem_of_getElem? (i := 12) (by decide +kernel), List.mem_of_getElem? (i := 243) (by decide +kernel), List.mem_of_getElem? (i := 244) (by decide +kernel)⟩
theorem lw_p3 : lw_okq (⟨"StabilityAnalyzer$Readings", "secondAt", "(II)I"⟩, 2) := ⟨⟨by decide +kernel, by decide +kernel⟩, List.mem_of_getElem? (i := 20) (by decide +kernel), List.mem_of_getElem? (i := 265) (by decide +kernel), List.mem_of_getElem? (i := 266) (by decide +kernel)⟩
theorem lw_p4 : lw_okq (⟨"StabilityAnalyzer$Readings", "thirdAt", "(II)I"⟩, 2) := ⟨⟨by decide +kernel, by decide +kernel⟩, List.mem_of_getElem? (i := 20) (by decide +kernel), List.mem_of_getElem? (i := 269) (by decide +kernel), List.mem_of_getElem? (i := 270) (by decide +kernel)⟩
theorem lw_p5 : lw_okq (⟨"StabilityAnalyzer$Readings", "meanAt", "(II)I"⟩, 2) := ⟨⟨by decide +kernel, by decide +kernel⟩, List.mem_of_getElem? (i := 20) (by decide +kernel), List.mem_of_getElem? (i := 273) (by decide +kernel), List.mem_of_getElem? (i := 274) (by decide +kernel)⟩
theorem lw_p6 : lw_okq (⟨"StabilityAnalyzer", "sumOfSecondDifferences", "()J"⟩, 9) := ⟨⟨by decide +kernel, by decide +kernel⟩, List.mem_of_getElem? (i := 12) (by decide +kernel), List.mem_of_getElem? (i := 277) (by decide +kernel), List.mem_of_getElem? (i := 278) (by decide +kernel)⟩
theorem lw_p7 : lw_okq (⟨"StabilityAnalyzer", "fillGap", "(II)V"⟩, 9) := ⟨⟨by decide +kernel, by decide +kernel⟩, List.mem_of_getElem? (i := 12) (by decide +kernel), List.mem_of_getElem? (i := 305) (by decide +kernel), List.mem_of_getElem? (i := 306) (by decide +kernel)⟩
theorem lw_p8 : lw_okq (⟨"StabilityAnalyzer$Readings", "startsGap", "(I)Z"⟩, 2) := ⟨⟨by decide +kernel, by decide +kernel⟩, List.mem_of_getElem? (i := 20) (by decide +kernel), List.mem_of_getElem? (i := 348) (by decide +kernel), List.mem_of_getElem? (i := 349) (by decide +kernel)⟩
theorem lw_p9 : lw_okq (⟨"StabilityAnalyzer", "greatestM", "()I"⟩, 9) := ⟨⟨by decide +kernel, by decide +kernel⟩, List.mem_of_getElem? (i := 12) (by decide +kernel), List.mem_of_getElem? (i := 357) (by decide +kernel), List.mem_of_getElem? (i := 358) (by decide +kernel)⟩
theorem lw_p10 : lw_okq (⟨"StabilityAnalyzer", "measure", "(IILStabilityAnalyzer$Fraction;)V"⟩, 9) := ⟨⟨by decide +kernel, by decide +kernel⟩, List.mem_of_getElem? (i := 12) (by decide +kernel), List.mem_of_getElem? (i := 391) (by decide +kernel), List.mem_of_getElem? (i := 392) (by decide +kernel)⟩
theorem lw_p11 : lw_okq (⟨"StabilityAnalyzer", "kindOfNoise", "(I)I"⟩, 9) := ⟨⟨by decide +kernel, by decide +kernel⟩, List.mem_of_getElem? (i := 12) (by decide +kernel), List.mem_of_getElem? (i := 450) (by decide +kernel), List.mem_of_getElem? (i := 451) (by decide +kernel)⟩
theorem lw_p12 : lw_okq (⟨"StabilityAnalyzer$Loader", "readsItem", "(LStabilityAnalyzer$Text;LStabilityAnalyzer$Readings;)Z"⟩, 5) := ⟨⟨by decide +kernel, by decide +kernel⟩, List.mem_of_getElem? (i := 85) (by decide +kernel), List.mem_of_getElem? (i := 493) (by decide +kernel), List.mem_of_getElem? (i := 494) (by decide +kernel)⟩
theorem lw_p13 : lw_okq (⟨"StabilityAnalyzer$Loader", "readsPhase", "(LStabilityAnalyzer$Text;)Z"⟩, 5) := ⟨⟨by decide +kernel, by decide +kernel⟩, List.mem_of_getElem? (i := 85) (by decide +kernel), List.mem_of_getElem? (i := 497) (by decide +kernel), List.mem_of_getElem? (i := 498) (by decide +kernel)⟩
theorem lw_p14 : lw_okq (⟨"StabilityAnalyzer$Loader", "refuses", "(II)Z"⟩, 5) := ⟨⟨by decide +kernel, by decide +kernel⟩, List.mem_of_getElem? (i := 85) (by decide +kernel), List.mem_of_getElem? (i := 508) (by decide +kernel), List.mem_of_getElem? (i := 509) (by decide +kernel)⟩
theorem lw_p15 : lw_okq (⟨"StabilityAnalyzer$Loader", "readNumber", "(LStabilityAnalyzer$Text;I)I"⟩, 5) := ⟨⟨by decide +kernel, by decide +kernel⟩, List.mem_of_getElem? (i := 85) (by decide +kernel), List.mem_of_getElem? (i := 512) (by decide +kernel), List.mem_of_getElem? (i := 513) (by decide +kernel)⟩
def lw_privs_1 : List (MethodName × Nat) := [(⟨"StabilityAnalyzer$History", "stateAt", "(I)LStabilityAnalyzer$Readings;"⟩, 3), (⟨"StabilityAnalyzer", "subtractAmounts", "()I"⟩, 9), (⟨"StabilityAnalyzer", "allStayPhases", "()Z"⟩, 9), (⟨"StabilityAnalyzer$Readings", "secondAt", "(II)I"⟩, 2), (⟨"StabilityAnalyzer$Readings", "thirdAt", "(II)I"⟩, 2), (⟨"StabilityAnalyzer$Readings", "meanAt", "(II)I"⟩, 2), (⟨"StabilityAnalyzer", "sumOfSecondDifferences", "()J"⟩, 9), (⟨"StabilityAnalyzer", "fillGap", "(II)V"⟩, 9), (⟨"StabilityAnalyzer$Readings", "startsGap", "(I)Z"⟩, 2), (⟨"StabilityAnalyzer", "greatestM", "()I"⟩, 9), (⟨"StabilityAnalyzer", "measure", "(IILStabilityAnalyzer$Fraction;)V"⟩, 9), (⟨"StabilityAnalyzer", "kindOfNoise", "(I)I"⟩, 9), (⟨"StabilityAnalyzer$Loader", "readsItem", "(LStabilityAnalyzer$Text;LStabilityAnalyzer$Readings;)Z"⟩, 5), (⟨"StabilityAnalyzer$Loader", "readsPhase", "(LStabilityAnalyzer$Text;)Z"⟩, 5), (⟨"StabilityAnalyzer$Loader", "refuses", "(II)Z"⟩, 5), (⟨"StabilityAnalyzer$Loader", "readNumber", "(LStabilityAnalyzer$Text;I)I"⟩, 5)]
theorem lw_r1 : ∀ q ∈ lw_privs_1, lw_okq q := List.forall_mem_cons.mpr ⟨lw_p0, List.forall_mem_cons.mpr ⟨lw_p1, List.forall_mem_cons.mpr ⟨lw_p2, List.forall_mem_cons.mpr ⟨lw_p3, List.forall_mem_cons.mpr ⟨lw_p4, List.forall_mem_cons.mpr ⟨lw_p5, List.forall_mem_cons.mpr ⟨lw_p6, List.forall_mem_cons.mpr ⟨lw_p7, List.forall_mem_cons.mpr ⟨lw_p8, List.forall_mem_cons.mpr ⟨lw_p9, List.forall_mem_cons.mpr ⟨lw_p10, List.forall_mem_cons.mpr ⟨lw_p11, List.forall_mem_cons.mpr ⟨lw_p12, List.forall_mem_cons.mpr ⟨lw_p13, List.forall_mem_cons.mpr ⟨lw_p14, List.forall_mem_cons.mpr ⟨lw_p15, fun _ h => absurd h List.not_mem_nil⟩⟩⟩⟩⟩⟩⟩⟩⟩⟩⟩⟩⟩⟩⟩⟩
theorem lw_p16 : lw_okq (⟨"StabilityAnalyzer$Loader", "readsTimes", "(LStabilityAnalyzer$Text;)Z"⟩, 5) := ⟨⟨by decide +kernel, by decide +kernel⟩, List.mem_of_getElem? (i := 85) (by decide +kernel), List.mem_of_getElem? (i := 516) (by decide +kernel), List.mem_of_getElem? (i := 517) (by decide +kernel)⟩
theorem lw_p17 : lw_okq (⟨"StabilityAnalyzer", "imageAt", "(I)LStabilityAnalyzer$Image;"⟩, 9) := ⟨⟨by decide +kernel, by decide +kernel⟩, List.mem_of_getElem? (i := 12) (by decide +kernel), List.mem_of_getElem? (i := 530) (by decide +kernel), List.mem_of_getElem? (i := 531) (by decide +kernel)⟩
theorem lw_p18 : lw_okq (⟨"StabilityAnalyzerModel", "many", "()I"⟩, 19) := ⟨⟨by decide +kernel, by decide +kernel⟩, List.mem_of_getElem? (i := 538) (by decide +kernel), List.mem_of_getElem? (i := 614) (by decide +kernel), List.mem_of_getElem? (i := 615) (by decide +kernel)⟩
theorem lw_p19 : lw_okq (⟨"StabilityAnalyzerModel", "remember", "()V"⟩, 19) := ⟨⟨by decide +kernel, by decide +kernel⟩, List.mem_of_getElem? (i := 538) (by decide +kernel), List.mem_of_getElem? (i := 619) (by decide +kernel), List.mem_of_getElem? (i := 620) (by decide +kernel)⟩
theorem lw_p20 : lw_okq (⟨"StabilityAnalyzerModel", "isReading", "(I)Z"⟩, 19) := ⟨⟨by decide +kernel, by decide +kernel⟩, List.mem_of_getElem? (i := 538) (by decide +kernel), List.mem_of_getElem? (i := 634) (by decide +kernel), List.mem_of_getElem? (i := 635) (by decide +kernel)⟩
theorem lw_p21 : lw_okq (⟨"StabilityAnalyzerModel", "isThere", "(I)Z"⟩, 19) := ⟨⟨by decide +kernel, by decide +kernel⟩, List.mem_of_getElem? (i := 538) (by decide +kernel), List.mem_of_getElem? (i := 646) (by decide +kernel), List.mem_of_getElem? (i := 647) (by decide +kernel)⟩
theorem lw_p22 : lw_okq (⟨"StabilityAnalyzerModel", "onLine", "(III)J"⟩, 19) := ⟨⟨by decide +kernel, by decide +kernel⟩, List.mem_of_getElem? (i := 538) (by decide +kernel), List.mem_of_getElem? (i := 651) (by decide +kernel), List.mem_of_getElem? (i := 652) (by decide +kernel)⟩
theorem lw_p23 : lw_okq (⟨"StabilityAnalyzerModel", "subtract", "()I"⟩, 19) := ⟨⟨by decide +kernel, by decide +kernel⟩, List.mem_of_getElem? (i := 538) (by decide +kernel), List.mem_of_getElem? (i := 658) (by decide +kernel), List.mem_of_getElem? (i := 659) (by decide +kernel)⟩
theorem lw_p24 : lw_okq (⟨"StabilityAnalyzerModel", "countOf", "(II)I"⟩, 19) := ⟨⟨by decide +kernel, by decide +kernel⟩, List.mem_of_getElem? (i := 538) (by decide +kernel), List.mem_of_getElem? (i := 673) (by decide +kernel), List.mem_of_getElem? (i := 674) (by decide +kernel)⟩
theorem lw_p25 : lw_okq (⟨"StabilityAnalyzerModel", "exists", "(III)Z"⟩, 19) := ⟨⟨by decide +kernel, by decide +kernel⟩, List.mem_of_getElem? (i := 538) (by decide +kernel), List.mem_of_getElem? (i := 677) (by decide +kernel), List.mem_of_getElem? (i := 678) (by decide +kernel)⟩
theorem lw_p26 : lw_okq (⟨"StabilityAnalyzerModel", "exists2", "(II)Z"⟩, 19) := ⟨⟨by decide +kernel, by decide +kernel⟩, List.mem_of_getElem? (i := 538) (by decide +kernel), List.mem_of_getElem? (i := 681) (by decide +kernel), List.mem_of_getElem? (i := 682) (by decide +kernel)⟩
theorem lw_p27 : lw_okq (⟨"StabilityAnalyzerModel", "differenceAt", "(III)I"⟩, 19) := ⟨⟨by decide +kernel, by decide +kernel⟩, List.mem_of_getElem? (i := 538) (by decide +kernel), List.mem_of_getElem? (i := 685) (by decide +kernel), List.mem_of_getElem? (i := 686) (by decide +kernel)⟩
theorem lw_p28 : lw_okq (⟨"StabilityAnalyzerModel", "second", "(II)I"⟩, 19) := ⟨⟨by decide +kernel, by decide +kernel⟩, List.mem_of_getElem? (i := 538) (by decide +kernel), List.mem_of_getElem? (i := 689) (by decide +kernel), List.mem_of_getElem? (i := 690) (by decide +kernel)⟩
theorem lw_p29 : lw_okq (⟨"StabilityAnalyzerModel", "layOutliers", "(I)I"⟩, 19) := ⟨⟨by decide +kernel, by decide +kernel⟩, List.mem_of_getElem? (i := 538) (by decide +kernel), List.mem_of_getElem? (i := 697) (by decide +kernel), List.mem_of_getElem? (i := 698) (by decide +kernel)⟩
theorem lw_p30 : lw_okq (⟨"StabilityAnalyzerModel", "isOutlier", "(II)Z"⟩, 19) := ⟨⟨by decide +kernel, by decide +kernel⟩, List.mem_of_getElem? (i := 538) (by decide +kernel), List.mem_of_getElem? (i := 701) (by decide +kernel), List.mem_of_getElem? (i := 702) (by decide +kernel)⟩
theorem lw_p31 : lw_okq (⟨"StabilityAnalyzerModel", "endOfGap", "(I)I"⟩, 19) := ⟨⟨by decide +kernel, by decide +kernel⟩, List.mem_of_getElem? (i := 538) (by decide +kernel), List.mem_of_getElem? (i := 709) (by decide +kernel), List.mem_of_getElem? (i := 710) (by decide +kernel)⟩
def lw_privs_2 : List (MethodName × Nat) := [(⟨"StabilityAnalyzer$Loader", "readsTimes", "(LStabilityAnalyzer$Text;)Z"⟩, 5), (⟨"StabilityAnalyzer", "imageAt", "(I)LStabilityAnalyzer$Image;"⟩, 9), (⟨"StabilityAnalyzerModel", "many", "()I"⟩, 19), (⟨"StabilityAnalyzerModel", "remember", "()V"⟩, 19), (⟨"StabilityAnalyzerModel", "isReading", "(I)Z"⟩, 19), (⟨"StabilityAnalyzerModel", "isThere", "(I)Z"⟩, 19), (⟨"StabilityAnalyzerModel", "onLine", "(III)J"⟩, 19), (⟨"StabilityAnalyzerModel", "subtract", "()I"⟩, 19), (⟨"StabilityAnalyzerModel", "countOf", "(II)I"⟩, 19), (⟨"StabilityAnalyzerModel", "exists", "(III)Z"⟩, 19), (⟨"StabilityAnalyzerModel", "exists2", "(II)Z"⟩, 19), (⟨"StabilityAnalyzerModel", "differenceAt", "(III)I"⟩, 19), (⟨"StabilityAnalyzerModel", "second", "(II)I"⟩, 19), (⟨"StabilityAnalyzerModel", "layOutliers", "(I)I"⟩, 19), (⟨"StabilityAnalyzerModel", "isOutlier", "(II)Z"⟩, 19), (⟨"StabilityAnalyzerModel", "endOfGap", "(I)I"⟩, 19)]
theorem lw_r2 : ∀ q ∈ lw_privs_2, lw_okq q := List.forall_mem_cons.mpr ⟨lw_p16, List.forall_mem_cons.mpr ⟨lw_p17, List.forall_mem_cons.mpr ⟨lw_p18, List.forall_mem_cons.mpr ⟨lw_p19, List.forall_mem_cons.mpr ⟨lw_p20, List.forall_mem_cons.mpr ⟨lw_p21, List.forall_mem_cons.mpr ⟨lw_p22, List.forall_mem_cons.mpr ⟨lw_p23, List.forall_mem_cons.mpr ⟨lw_p24, List.forall_mem_cons.mpr ⟨lw_p25, List.forall_mem_cons.mpr ⟨lw_p26, List.forall_mem_cons.mpr ⟨lw_p27, List.forall_mem_cons.mpr ⟨lw_p28, List.forall_mem_cons.mpr ⟨lw_p29, List.forall_mem_cons.mpr ⟨lw_p30, List.forall_mem_cons.mpr ⟨lw_p31, fun _ h => absurd h List.not_mem_nil⟩⟩⟩⟩⟩⟩⟩⟩⟩⟩⟩⟩⟩⟩⟩⟩
theorem lw_p32 : lw_okq (⟨"StabilityAnalyzerModel", "beginsGap", "(I)Z"⟩, 19) := ⟨⟨by decide +kernel, by decide +kernel⟩, List.mem_of_getElem? (i := 538) (by decide +kernel), List.mem_of_getElem? (i := 713) (by decide +kernel), List.mem_of_getElem? (i := 714) (by decide +kernel)⟩
theorem lw_p33 : lw_okq (⟨"StabilityAnalyzerModel", "present", "()I"⟩, 19) := ⟨⟨by decide +kernel, by decide +kernel⟩, List.mem_of_getElem? (i := 538) (by decide +kernel), List.mem_of_getElem? (i := 729) (by decide +kernel), List.mem_of_getElem? (i := 730) (by decide +kernel)⟩
theorem lw_p34 : lw_okq (⟨"StabilityAnalyzerModel", "end", "(Z)I"⟩, 19) := ⟨⟨by decide +kernel, by decide +kernel⟩, List.mem_of_getElem? (i := 538) (by decide +kernel), List.mem_of_getElem? (i := 733) (by decide +kernel), List.mem_of_getElem? (i := 734) (by decide +kernel)⟩
theorem lw_p35 : lw_okq (⟨"StabilityAnalyzerModel", "gaps", "(Z)I"⟩, 19) := ⟨⟨by decide +kernel, by decide +kernel⟩, List.mem_of_getElem? (i := 538) (by decide +kernel), List.mem_of_getElem? (i := 737) (by decide +kernel), List.mem_of_getElem? (i := 738) (by decide +kernel)⟩
theorem lw_p36 : lw_okq (⟨"StabilityAnalyzerModel", "widest", "()I"⟩, 19) := ⟨⟨by decide +kernel, by decide +kernel⟩, List.mem_of_getElem? (i := 538) (by decide +kernel), List.mem_of_getElem? (i := 741) (by decide +kernel), List.mem_of_getElem? (i := 742) (by decide +kernel)⟩
theorem lw_p37 : lw_okq (⟨"StabilityAnalyzerModel", "layVariance", "(II)Z"⟩, 19) := ⟨⟨by decide +kernel, by decide +kernel⟩, List.mem_of_getElem? (i := 538) (by decide +kernel), List.mem_of_getElem? (i := 768) (by decide +kernel), List.mem_of_getElem? (i := 769) (by decide +kernel)⟩
theorem lw_p38 : lw_okq (⟨"StabilityAnalyzerModel", "compared", "(III)I"⟩, 19) := ⟨⟨by decide +kernel, by decide +kernel⟩, List.mem_of_getElem? (i := 538) (by decide +kernel), List.mem_of_getElem? (i := 788) (by decide +kernel), List.mem_of_getElem? (i := 789) (by decide +kernel)⟩
theorem lw_p39 : lw_okq (⟨"StabilityAnalyzerModel", "noiseAt", "(I)I"⟩, 19) := ⟨⟨by decide +kernel, by decide +kernel⟩, List.mem_of_getElem? (i := 538) (by decide +kernel), List.mem_of_getElem? (i := 803) (by decide +kernel), List.mem_of_getElem? (i := 804) (by decide +kernel)⟩
theorem lw_p40 : lw_okq (⟨"StabilityAnalyzerModel", "isItemWrong", "()Z"⟩, 19) := ⟨⟨by decide +kernel, by decide +kernel⟩, List.mem_of_getElem? (i := 538) (by decide +kernel), List.mem_of_getElem? (i := 828) (by decide +kernel), List.mem_of_getElem? (i := 829) (by decide +kernel)⟩
theorem lw_p41 : lw_okq (⟨"StabilityAnalyzerModel", "takes", "(I)Z"⟩, 19) := ⟨⟨by decide +kernel, by decide +kernel⟩, List.mem_of_getElem? (i := 538) (by decide +kernel), List.mem_of_getElem? (i := 832) (by decide +kernel), List.mem_of_getElem? (i := 833) (by decide +kernel)⟩
theorem lw_p42 : lw_okq (⟨"StabilityAnalyzerModel", "lacksNumber", "(I)Z"⟩, 19) := ⟨⟨by decide +kernel, by decide +kernel⟩, List.mem_of_getElem? (i := 538) (by decide +kernel), List.mem_of_getElem? (i := 836) (by decide +kernel), List.mem_of_getElem? (i := 837) (by decide +kernel)⟩
theorem lw_p43 : lw_okq (⟨"StabilityAnalyzerModel", "isDigit", "()Z"⟩, 19) := ⟨⟨by decide +kernel, by decide +kernel⟩, List.mem_of_getElem? (i := 538) (by decide +kernel), List.mem_of_getElem? (i := 840) (by decide +kernel), List.mem_of_getElem? (i := 841) (by decide +kernel)⟩
theorem lw_p44 : lw_okq (⟨"StabilityAnalyzerModel", "isWrong", "(II)Z"⟩, 19) := ⟨⟨by decide +kernel, by decide +kernel⟩, List.mem_of_getElem? (i := 538) (by decide +kernel), List.mem_of_getElem? (i := 844) (by decide +kernel), List.mem_of_getElem? (i := 845) (by decide +kernel)⟩
def lw_privs_3 : List (MethodName × Nat) := [(⟨"StabilityAnalyzerModel", "beginsGap", "(I)Z"⟩, 19), (⟨"StabilityAnalyzerModel", "present", "()I"⟩, 19), (⟨"StabilityAnalyzerModel", "end", "(Z)I"⟩, 19), (⟨"StabilityAnalyzerModel", "gaps", "(Z)I"⟩, 19), (⟨"StabilityAnalyzerModel", "widest", "()I"⟩, 19), (⟨"StabilityAnalyzerModel", "layVariance", "(II)Z"⟩, 19), (⟨"StabilityAnalyzerModel", "compared", "(III)I"⟩, 19), (⟨"StabilityAnalyzerModel", "noiseAt", "(I)I"⟩, 19), (⟨"StabilityAnalyzerModel", "isItemWrong", "()Z"⟩, 19), (⟨"StabilityAnalyzerModel", "takes", "(I)Z"⟩, 19), (⟨"StabilityAnalyzerModel", "lacksNumber", "(I)Z"⟩, 19), (⟨"StabilityAnalyzerModel", "isDigit", "()Z"⟩, 19), (⟨"StabilityAnalyzerModel", "isWrong", "(II)Z"⟩, 19)]
theorem lw_r3 : ∀ q ∈ lw_privs_3, lw_okq q := List.forall_mem_cons.mpr ⟨lw_p32, List.forall_mem_cons.mpr ⟨lw_p33, List.forall_mem_cons.mpr ⟨lw_p34, List.forall_mem_cons.mpr ⟨lw_p35, List.forall_mem_cons.mpr ⟨lw_p36, List.forall_mem_cons.mpr ⟨lw_p37, List.forall_mem_cons.mpr ⟨lw_p38, List.forall_mem_cons.mpr ⟨lw_p39, List.forall_mem_cons.mpr ⟨lw_p40, List.forall_mem_cons.mpr ⟨lw_p41, List.forall_mem_cons.mpr ⟨lw_p42, List.forall_mem_cons.mpr ⟨lw_p43, List.forall_mem_cons.mpr ⟨lw_p44, fun _ h => absurd h List.not_mem_nil⟩⟩⟩⟩⟩⟩⟩⟩⟩⟩⟩⟩⟩
def lw_privs : List (MethodName × Nat) := lw_privs_1 ++ (lw_privs_2 ++ (lw_privs_3))
def lw_tbl : List Cond := k2_sels lw_privs ++ tables_1
theorem lw_privs_ok : ∀ q ∈ lw_privs, lw_okq q := by
  show ∀ q ∈ lw_privs_1 ++ (lw_privs_2 ++ (lw_privs_3)), lw_okq q
  exact List.forall_mem_append.mpr ⟨lw_r1, List.forall_mem_append.mpr ⟨lw_r2, lw_r3⟩⟩

/-! names and fields, out of the printed names -/
def RX0 : String := "StabilityAnalyzer$Fraction"
def TX0 : u_T := fun k => match k with
  | 0 => ("StabilityAnalyzer$Fraction", "numerator", "J", false)
  | _ => ("StabilityAnalyzer$Fraction", "denominator", "J", false)
def tyX0 : Nat → FieldType := fun k => match k with
  | 0 => .long
  | _ => .long
abbrev wsX00 : List Cond := u_ws RX0 TX0 2
theorem nmX0 : ∀ a, a < 2 → ∀ b, b < 2 → a ≠ b → (TX0 a).2.1 ≠ (TX0 b).2.1 := by decide +kernel
theorem tyX0_ok : ∀ k, k < 2 → parseFieldDescriptor (TX0 k).2.2.1 = some (tyX0 k) := by decide +kernel
abbrev cX0_init : ByteArray := prog_2_method_1_code
def yX0_init : MethodName := ⟨RX0, "<init>", "()V"⟩
abbrev cX0_exists : ByteArray := prog_2_method_2_code
def yX0_exists : MethodName := ⟨RX0, "exists", "()Z"⟩
abbrev cX0_become : ByteArray := prog_2_method_3_code
def yX0_become : MethodName := ⟨RX0, "become", "(JJ)V"⟩
abbrev cX0_copyFrom : ByteArray := prog_2_method_4_code
def yX0_copyFrom : MethodName := ⟨RX0, "copyFrom", "(LStabilityAnalyzer$Fraction;)V"⟩
abbrev cX0_orderOfMultiples : ByteArray := prog_2_method_5_code
def yX0_orderOfMultiples : MethodName := ⟨RX0, "orderOfMultiples", "(JLStabilityAnalyzer$Fraction;J)I"⟩
abbrev cX0_timesRoundedDown : ByteArray := prog_2_method_6_code
def yX0_timesRoundedDown : MethodName := ⟨RX0, "timesRoundedDown", "(J)J"⟩
abbrev cX0_greatestDivisor : ByteArray := prog_2_method_7_code
def yX0_greatestDivisor : MethodName := ⟨RX0, "greatestDivisor", "(JJ)J"⟩
def RX1 : String := "StabilityAnalyzer$History"
def TX1 : u_T := fun k => match k with
  | 0 => ("StabilityAnalyzer$History", "states", "[LStabilityAnalyzer$Readings;", true)
  | 1 => ("StabilityAnalyzer$History", "oldest", "I", false)
  | _ => ("StabilityAnalyzer$History", "depth", "I", false)
def tyX1 : Nat → FieldType := fun k => match k with
  | 0 => .array (.object "StabilityAnalyzer$Readings")
  | 1 => .int
  | _ => .int
abbrev wsX10 : List Cond := u_ws RX1 TX1 3
theorem nmX1 : ∀ a, a < 3 → ∀ b, b < 3 → a ≠ b → (TX1 a).2.1 ≠ (TX1 b).2.1 := by decide +kernel
theorem tyX1_ok : ∀ k, k < 3 → parseFieldDescriptor (TX1 k).2.2.1 = some (tyX1 k) := by decide +kernel
abbrev cX1_init : ByteArray := prog_3_method_1_code
def yX1_init : MethodName := ⟨RX1, "<init>", "()V"⟩
abbrev cX1_depth : ByteArray := prog_3_method_2_code
def yX1_depth : MethodName := ⟨RX1, "depth", "()I"⟩
abbrev cX1_record : ByteArray := prog_3_method_3_code
def yX1_record : MethodName := ⟨RX1, "record", "(LStabilityAnalyzer$Readings;)V"⟩
abbrev cX1_restore : ByteArray := prog_3_method_4_code
def yX1_restore : MethodName := ⟨RX1, "restore", "(LStabilityAnalyzer$Readings;)V"⟩
abbrev cX1_stateAt : ByteArray := prog_3_method_5_code
def yX1_stateAt : MethodName := ⟨RX1, "stateAt", "(I)LStabilityAnalyzer$Readings;"⟩
def RX2 : String := "StabilityAnalyzer$Image"
def TX2 : u_T := fun k => match k with
  | 0 => ("StabilityAnalyzer$Image", "readings", "LStabilityAnalyzer$Readings;", true)
  | _ => ("StabilityAnalyzer$Image", "used", "Z", false)
def tyX2 : Nat → FieldType := fun k => match k with
  | 0 => .object "StabilityAnalyzer$Readings"
  | _ => .boolean
abbrev wsX20 : List Cond := u_ws RX2 TX2 2
theorem nmX2 : ∀ a, a < 2 → ∀ b, b < 2 → a ≠ b → (TX2 a).2.1 ≠ (TX2 b).2.1 := by decide +kernel
theorem tyX2_ok : ∀ k, k < 2 → parseFieldDescriptor (TX2 k).2.2.1 = some (tyX2 k) := by decide +kernel
abbrev cX2_init : ByteArray := prog_4_method_1_code
def yX2_init : MethodName := ⟨RX2, "<init>", "()V"⟩
def RX3 : String := "StabilityAnalyzer$Loader"
def TX3 : u_T := fun k => match k with
  | 0 => ("StabilityAnalyzer$Loader", "faultKind", "I", false)
  | 1 => ("StabilityAnalyzer$Loader", "faultPlace", "I", false)
  | 2 => ("StabilityAnalyzer$Loader", "place", "I", false)
  | 3 => ("StabilityAnalyzer$Loader", "phase", "I", false)
  | _ => ("StabilityAnalyzer$Loader", "times", "I", false)
def tyX3 : Nat → FieldType := fun k => match k with
  | 0 => .int
  | 1 => .int
  | 2 => .int
  | 3 => .int
  | _ => .int
abbrev wsX30 : List Cond := u_ws RX3 TX3 5
theorem nmX3 : ∀ a, a < 5 → ∀ b, b < 5 → a ≠ b → (TX3 a).2.1 ≠ (TX3 b).2.1 := by decide +kernel
theorem tyX3_ok : ∀ k, k < 5 → parseFieldDescriptor (TX3 k).2.2.1 = some (tyX3 k) := by decide +kernel
abbrev cX3_init : ByteArray := prog_5_method_1_code
def yX3_init : MethodName := ⟨RX3, "<init>", "()V"⟩
abbrev cX3_readsAll : ByteArray := prog_5_method_2_code
def yX3_readsAll : MethodName := ⟨RX3, "readsAll", "(LStabilityAnalyzer$Text;LStabilityAnalyzer$Readings;)Z"⟩
abbrev cX3_readsItem : ByteArray := prog_5_method_3_code
def yX3_readsItem : MethodName := ⟨RX3, "readsItem", "(LStabilityAnalyzer$Text;LStabilityAnalyzer$Readings;)Z"⟩
abbrev cX3_readsPhase : ByteArray := prog_5_method_4_code
def yX3_readsPhase : MethodName := ⟨RX3, "readsPhase", "(LStabilityAnalyzer$Text;)Z"⟩
abbrev cX3_readsTimes : ByteArray := prog_5_method_5_code
def yX3_readsTimes : MethodName := ⟨RX3, "readsTimes", "(LStabilityAnalyzer$Text;)Z"⟩
abbrev cX3_readNumber : ByteArray := prog_5_method_6_code
def yX3_readNumber : MethodName := ⟨RX3, "readNumber", "(LStabilityAnalyzer$Text;I)I"⟩
abbrev cX3_isDigit : ByteArray := prog_5_method_7_code
def yX3_isDigit : MethodName := ⟨RX3, "isDigit", "(I)Z"⟩
abbrev cX3_refuses : ByteArray := prog_5_method_8_code
def yX3_refuses : MethodName := ⟨RX3, "refuses", "(II)Z"⟩
def RX4 : String := "StabilityAnalyzer$Readings"
def TX4 : u_T := fun k => match k with
  | 0 => ("StabilityAnalyzer$Readings", "phases", "[I", true)
  | _ => ("StabilityAnalyzer$Readings", "size", "I", false)
def tyX4 : Nat → FieldType := fun k => match k with
  | 0 => .array .int
  | _ => .int
abbrev wsX40 : List Cond := u_ws RX4 TX4 2
theorem nmX4 : ∀ a, a < 2 → ∀ b, b < 2 → a ≠ b → (TX4 a).2.1 ≠ (TX4 b).2.1 := by decide +kernel
theorem tyX4_ok : ∀ k, k < 2 → parseFieldDescriptor (TX4 k).2.2.1 = some (tyX4 k) := by decide +kernel
abbrev cX4_init : ByteArray := prog_6_method_1_code
def yX4_init : MethodName := ⟨RX4, "<init>", "()V"⟩
abbrev cX4_size : ByteArray := prog_6_method_2_code
def yX4_size : MethodName := ⟨RX4, "size", "()I"⟩
abbrev cX4_reaches : ByteArray := prog_6_method_3_code
def yX4_reaches : MethodName := ⟨RX4, "reaches", "(I)Z"⟩
abbrev cX4_has : ByteArray := prog_6_method_4_code
def yX4_has : MethodName := ⟨RX4, "has", "(I)Z"⟩
abbrev cX4_at : ByteArray := prog_6_method_5_code
def yX4_at : MethodName := ⟨RX4, "at", "(I)I"⟩
abbrev cX4_put : ByteArray := prog_6_method_6_code
def yX4_put : MethodName := ⟨RX4, "put", "(II)V"⟩
abbrev cX4_append : ByteArray := prog_6_method_7_code
def yX4_append : MethodName := ⟨RX4, "append", "(I)V"⟩
abbrev cX4_appendTimes : ByteArray := prog_6_method_8_code
def yX4_appendTimes : MethodName := ⟨RX4, "appendTimes", "(II)V"⟩
abbrev cX4_empty : ByteArray := prog_6_method_9_code
def yX4_empty : MethodName := ⟨RX4, "empty", "()V"⟩
abbrev cX4_copyFrom : ByteArray := prog_6_method_10_code
def yX4_copyFrom : MethodName := ⟨RX4, "copyFrom", "(LStabilityAnalyzer$Readings;)V"⟩
abbrev cX4_present : ByteArray := prog_6_method_11_code
def yX4_present : MethodName := ⟨RX4, "present", "()I"⟩
abbrev cX4_least : ByteArray := prog_6_method_12_code
def yX4_least : MethodName := ⟨RX4, "least", "()I"⟩
abbrev cX4_greatest : ByteArray := prog_6_method_13_code
def yX4_greatest : MethodName := ⟨RX4, "greatest", "()I"⟩
abbrev cX4_gaps : ByteArray := prog_6_method_14_code
def yX4_gaps : MethodName := ⟨RX4, "gaps", "()I"⟩
abbrev cX4_longestGap : ByteArray := prog_6_method_15_code
def yX4_longestGap : MethodName := ⟨RX4, "longestGap", "()I"⟩
abbrev cX4_startsGap : ByteArray := prog_6_method_16_code
def yX4_startsGap : MethodName := ⟨RX4, "startsGap", "(I)Z"⟩
abbrev cX4_gapEnd : ByteArray := prog_6_method_17_code
def yX4_gapEnd : MethodName := ⟨RX4, "gapEnd", "(I)I"⟩
abbrev cX4_lineAt : ByteArray := prog_6_method_18_code
def yX4_lineAt : MethodName := ⟨RX4, "lineAt", "(III)J"⟩
abbrev cX4_isOutlier : ByteArray := prog_6_method_19_code
def yX4_isOutlier : MethodName := ⟨RX4, "isOutlier", "(II)Z"⟩
abbrev cX4_countOf : ByteArray := prog_6_method_20_code
def yX4_countOf : MethodName := ⟨RX4, "countOf", "(II)I"⟩
abbrev cX4_differenceAt : ByteArray := prog_6_method_21_code
def yX4_differenceAt : MethodName := ⟨RX4, "differenceAt", "(III)I"⟩
abbrev cX4_secondAt : ByteArray := prog_6_method_22_code
def yX4_secondAt : MethodName := ⟨RX4, "secondAt", "(II)I"⟩
abbrev cX4_thirdAt : ByteArray := prog_6_method_23_code
def yX4_thirdAt : MethodName := ⟨RX4, "thirdAt", "(II)I"⟩
abbrev cX4_meanAt : ByteArray := prog_6_method_24_code
def yX4_meanAt : MethodName := ⟨RX4, "meanAt", "(II)I"⟩
def RX5 : String := "StabilityAnalyzer$Text"
def TX5 : u_T := fun k => match k with
  | 0 => ("StabilityAnalyzer$Text", "bytes", "[I", true)
  | _ => ("StabilityAnalyzer$Text", "size", "I", false)
def tyX5 : Nat → FieldType := fun k => match k with
  | 0 => .array .int
  | _ => .int
abbrev wsX50 : List Cond := u_ws RX5 TX5 2
theorem nmX5 : ∀ a, a < 2 → ∀ b, b < 2 → a ≠ b → (TX5 a).2.1 ≠ (TX5 b).2.1 := by decide +kernel
theorem tyX5_ok : ∀ k, k < 2 → parseFieldDescriptor (TX5 k).2.2.1 = some (tyX5 k) := by decide +kernel
abbrev cX5_init : ByteArray := prog_7_method_1_code
def yX5_init : MethodName := ⟨RX5, "<init>", "()V"⟩
abbrev cX5_size : ByteArray := prog_7_method_2_code
def yX5_size : MethodName := ⟨RX5, "size", "()I"⟩
abbrev cX5_at : ByteArray := prog_7_method_3_code
def yX5_at : MethodName := ⟨RX5, "at", "(I)I"⟩
abbrev cX5_append : ByteArray := prog_7_method_4_code
def yX5_append : MethodName := ⟨RX5, "append", "(I)V"⟩
abbrev cX5_empty : ByteArray := prog_7_method_5_code
def yX5_empty : MethodName := ⟨RX5, "empty", "()V"⟩
def RX6 : String := "StabilityAnalyzer"
def TX6 : u_T := fun k => match k with
  | 0 => ("StabilityAnalyzer", "now", "LStabilityAnalyzer$Readings;", true)
  | 1 => ("StabilityAnalyzer", "next", "LStabilityAnalyzer$Readings;", true)
  | 2 => ("StabilityAnalyzer", "amounts", "[J", true)
  | 3 => ("StabilityAnalyzer", "history", "LStabilityAnalyzer$History;", true)
  | 4 => ("StabilityAnalyzer", "images", "[LStabilityAnalyzer$Image;", true)
  | 5 => ("StabilityAnalyzer", "text", "LStabilityAnalyzer$Text;", true)
  | 6 => ("StabilityAnalyzer", "loader", "LStabilityAnalyzer$Loader;", true)
  | 7 => ("StabilityAnalyzer", "one", "LStabilityAnalyzer$Fraction;", true)
  | _ => ("StabilityAnalyzer", "two", "LStabilityAnalyzer$Fraction;", true)
def tyX6 : Nat → FieldType := fun k => match k with
  | 0 => .object "StabilityAnalyzer$Readings"
  | 1 => .object "StabilityAnalyzer$Readings"
  | 2 => .array .long
  | 3 => .object "StabilityAnalyzer$History"
  | 4 => .array (.object "StabilityAnalyzer$Image")
  | 5 => .object "StabilityAnalyzer$Text"
  | 6 => .object "StabilityAnalyzer$Loader"
  | 7 => .object "StabilityAnalyzer$Fraction"
  | _ => .object "StabilityAnalyzer$Fraction"
abbrev wsX60 : List Cond := u_ws RX6 TX6 9
theorem nmX6 : ∀ a, a < 9 → ∀ b, b < 9 → a ≠ b → (TX6 a).2.1 ≠ (TX6 b).2.1 := by decide +kernel
theorem tyX6_ok : ∀ k, k < 9 → parseFieldDescriptor (TX6 k).2.2.1 = some (tyX6 k) := by decide +kernel
abbrev cX6_init : ByteArray := prog_1_method_1_code
def yX6_init : MethodName := ⟨RX6, "<init>", "()V"⟩
abbrev cX6_add : ByteArray := prog_1_method_2_code
def yX6_add : MethodName := ⟨RX6, "add", "(I)I"⟩
abbrev cX6_skip : ByteArray := prog_1_method_3_code
def yX6_skip : MethodName := ⟨RX6, "skip", "(I)I"⟩
abbrev cX6_set : ByteArray := prog_1_method_4_code
def yX6_set : MethodName := ⟨RX6, "set", "(II)I"⟩
abbrev cX6_clear : ByteArray := prog_1_method_5_code
def yX6_clear : MethodName := ⟨RX6, "clear", "()I"⟩
abbrev cX6_removeLine : ByteArray := prog_1_method_6_code
def yX6_removeLine : MethodName := ⟨RX6, "removeLine", "(II)I"⟩
abbrev cX6_addLine : ByteArray := prog_1_method_7_code
def yX6_addLine : MethodName := ⟨RX6, "addLine", "(II)I"⟩
abbrev cX6_removeDrift : ByteArray := prog_1_method_8_code
def yX6_removeDrift : MethodName := ⟨RX6, "removeDrift", "()I"⟩
abbrev cX6_removeOutliers : ByteArray := prog_1_method_9_code
def yX6_removeOutliers : MethodName := ⟨RX6, "removeOutliers", "(I)I"⟩
abbrev cX6_fill : ByteArray := prog_1_method_10_code
def yX6_fill : MethodName := ⟨RX6, "fill", "(I)I"⟩
abbrev cX6_thin : ByteArray := prog_1_method_11_code
def yX6_thin : MethodName := ⟨RX6, "thin", "(II)I"⟩
abbrev cX6_undo : ByteArray := prog_1_method_12_code
def yX6_undo : MethodName := ⟨RX6, "undo", "()I"⟩
abbrev cX6_told : ByteArray := prog_1_method_13_code
def yX6_told : MethodName := ⟨RX6, "told", "(I)I"⟩
abbrev cX6_reading : ByteArray := prog_1_method_14_code
def yX6_reading : MethodName := ⟨RX6, "reading", "(I)I"⟩
abbrev cX6_difference : ByteArray := prog_1_method_15_code
def yX6_difference : MethodName := ⟨RX6, "difference", "(III)I"⟩
abbrev cX6_count : ByteArray := prog_1_method_16_code
def yX6_count : MethodName := ⟨RX6, "count", "(II)I"⟩
abbrev cX6_variance : ByteArray := prog_1_method_17_code
def yX6_variance : MethodName := ⟨RX6, "variance", "(III)J"⟩
abbrev cX6_deviation : ByteArray := prog_1_method_18_code
def yX6_deviation : MethodName := ⟨RX6, "deviation", "(II)J"⟩
abbrev cX6_compare : ByteArray := prog_1_method_19_code
def yX6_compare : MethodName := ⟨RX6, "compare", "(III)I"⟩
abbrev cX6_best : ByteArray := prog_1_method_20_code
def yX6_best : MethodName := ⟨RX6, "best", "(I)I"⟩
abbrev cX6_noise : ByteArray := prog_1_method_21_code
def yX6_noise : MethodName := ⟨RX6, "noise", "(I)I"⟩
abbrev cX6_freedom : ByteArray := prog_1_method_22_code
def yX6_freedom : MethodName := ⟨RX6, "freedom", "(I)I"⟩
abbrev cX6_outliers : ByteArray := prog_1_method_23_code
def yX6_outliers : MethodName := ⟨RX6, "outliers", "(I)I"⟩
abbrev cX6_write : ByteArray := prog_1_method_24_code
def yX6_write : MethodName := ⟨RX6, "write", "(I)I"⟩
abbrev cX6_wipe : ByteArray := prog_1_method_25_code
def yX6_wipe : MethodName := ⟨RX6, "wipe", "()I"⟩
abbrev cX6_load : ByteArray := prog_1_method_26_code
def yX6_load : MethodName := ⟨RX6, "load", "()I"⟩
abbrev cX6_fault : ByteArray := prog_1_method_27_code
def yX6_fault : MethodName := ⟨RX6, "fault", "(I)I"⟩
abbrev cX6_keep : ByteArray := prog_1_method_28_code
def yX6_keep : MethodName := ⟨RX6, "keep", "(I)I"⟩
abbrev cX6_back : ByteArray := prog_1_method_29_code
def yX6_back : MethodName := ⟨RX6, "back", "(I)I"⟩
abbrev cX6_isPhase : ByteArray := prog_1_method_30_code
def yX6_isPhase : MethodName := ⟨RX6, "isPhase", "(J)Z"⟩
abbrev cX6_isLimit : ByteArray := prog_1_method_31_code
def yX6_isLimit : MethodName := ⟨RX6, "isLimit", "(I)Z"⟩
abbrev cX6_isOrder : ByteArray := prog_1_method_32_code
def yX6_isOrder : MethodName := ⟨RX6, "isOrder", "(I)Z"⟩
abbrev cX6_isM : ByteArray := prog_1_method_33_code
def yX6_isM : MethodName := ⟨RX6, "isM", "(I)Z"⟩
abbrev cX6_isVariance : ByteArray := prog_1_method_34_code
def yX6_isVariance : MethodName := ⟨RX6, "isVariance", "(I)Z"⟩
abbrev cX6_imageAt : ByteArray := prog_1_method_35_code
def yX6_imageAt : MethodName := ⟨RX6, "imageAt", "(I)LStabilityAnalyzer$Image;"⟩
abbrev cX6_subtractAmounts : ByteArray := prog_1_method_36_code
def yX6_subtractAmounts : MethodName := ⟨RX6, "subtractAmounts", "()I"⟩
abbrev cX6_allStayPhases : ByteArray := prog_1_method_37_code
def yX6_allStayPhases : MethodName := ⟨RX6, "allStayPhases", "()Z"⟩
abbrev cX6_sumOfSecondDifferences : ByteArray := prog_1_method_38_code
def yX6_sumOfSecondDifferences : MethodName := ⟨RX6, "sumOfSecondDifferences", "()J"⟩
abbrev cX6_fillGap : ByteArray := prog_1_method_39_code
def yX6_fillGap : MethodName := ⟨RX6, "fillGap", "(II)V"⟩
abbrev cX6_greatestM : ByteArray := prog_1_method_40_code
def yX6_greatestM : MethodName := ⟨RX6, "greatestM", "()I"⟩
abbrev cX6_measure : ByteArray := prog_1_method_41_code
def yX6_measure : MethodName := ⟨RX6, "measure", "(IILStabilityAnalyzer$Fraction;)V"⟩
abbrev cX6_orderFor : ByteArray := prog_1_method_42_code
def yX6_orderFor : MethodName := ⟨RX6, "orderFor", "(I)I"⟩
abbrev cX6_divisorFor : ByteArray := prog_1_method_43_code
def yX6_divisorFor : MethodName := ⟨RX6, "divisorFor", "(IJ)J"⟩
abbrev cX6_squareRoot : ByteArray := prog_1_method_44_code
def yX6_squareRoot : MethodName := ⟨RX6, "squareRoot", "(J)J"⟩
abbrev cX6_kindOfNoise : ByteArray := prog_1_method_45_code
def yX6_kindOfNoise : MethodName := ⟨RX6, "kindOfNoise", "(I)I"⟩
abbrev cX6_degreesOfFreedom : ByteArray := prog_1_method_46_code
def yX6_degreesOfFreedom : MethodName := ⟨RX6, "degreesOfFreedom", "(III)I"⟩
def RX7 : String := "StabilityAnalyzerModel"
def TX7 : u_T := fun k => match k with
  | 0 => ("StabilityAnalyzerModel", "x", "[I", true)
  | 1 => ("StabilityAnalyzerModel", "past", "[I", true)
  | 2 => ("StabilityAnalyzerModel", "pastMany", "I", false)
  | 3 => ("StabilityAnalyzerModel", "images", "[I", true)
  | 4 => ("StabilityAnalyzerModel", "filled", "I", false)
  | 5 => ("StabilityAnalyzerModel", "text", "[I", true)
  | 6 => ("StabilityAnalyzerModel", "length", "I", false)
  | 7 => ("StabilityAnalyzerModel", "faultKind", "I", false)
  | 8 => ("StabilityAnalyzerModel", "faultPlace", "I", false)
  | 9 => ("StabilityAnalyzerModel", "less", "[J", true)
  | 10 => ("StabilityAnalyzerModel", "isOut", "[Z", true)
  | 11 => ("StabilityAnalyzerModel", "above", "J", false)
  | 12 => ("StabilityAnalyzerModel", "below", "J", false)
  | 13 => ("StabilityAnalyzerModel", "at", "I", false)
  | 14 => ("StabilityAnalyzerModel", "wrongKind", "I", false)
  | 15 => ("StabilityAnalyzerModel", "wrongPlace", "I", false)
  | 16 => ("StabilityAnalyzerModel", "read", "[I", true)
  | 17 => ("StabilityAnalyzerModel", "readMany", "I", false)
  | _ => ("StabilityAnalyzerModel", "number", "I", false)
def tyX7 : Nat → FieldType := fun k => match k with
  | 0 => .array .int
  | 1 => .array .int
  | 2 => .int
  | 3 => .array .int
  | 4 => .int
  | 5 => .array .int
  | 6 => .int
  | 7 => .int
  | 8 => .int
  | 9 => .array .long
  | 10 => .array .boolean
  | 11 => .long
  | 12 => .long
  | 13 => .int
  | 14 => .int
  | 15 => .int
  | 16 => .array .int
  | 17 => .int
  | _ => .int
abbrev wsX70 : List Cond := u_ws RX7 TX7 19
theorem nmX7 : ∀ a, a < 19 → ∀ b, b < 19 → a ≠ b → (TX7 a).2.1 ≠ (TX7 b).2.1 := by decide +kernel
theorem tyX7_ok : ∀ k, k < 19 → parseFieldDescriptor (TX7 k).2.2.1 = some (tyX7 k) := by decide +kernel
abbrev cX7_init : ByteArray := prog_9_method_1_code
def yX7_init : MethodName := ⟨RX7, "<init>", "()V"⟩
abbrev cX7_isIn : ByteArray := prog_9_method_3_code
def yX7_isIn : MethodName := ⟨RX7, "isIn", "(III)Z"⟩
abbrev cX7_many : ByteArray := prog_9_method_4_code
def yX7_many : MethodName := ⟨RX7, "many", "()I"⟩
abbrev cX7_isReading : ByteArray := prog_9_method_5_code
def yX7_isReading : MethodName := ⟨RX7, "isReading", "(I)Z"⟩
abbrev cX7_isThere : ByteArray := prog_9_method_6_code
def yX7_isThere : MethodName := ⟨RX7, "isThere", "(I)Z"⟩
abbrev cX7_remember : ByteArray := prog_9_method_7_code
def yX7_remember : MethodName := ⟨RX7, "remember", "()V"⟩
abbrev cX7_isPhase : ByteArray := prog_9_method_8_code
def yX7_isPhase : MethodName := ⟨RX7, "isPhase", "(J)Z"⟩
abbrev cX7_floor : ByteArray := prog_9_method_9_code
def yX7_floor : MethodName := ⟨RX7, "floor", "(JJ)J"⟩
abbrev cX7_add : ByteArray := prog_9_method_10_code
def yX7_add : MethodName := ⟨RX7, "add", "(I)I"⟩
abbrev cX7_skip : ByteArray := prog_9_method_11_code
def yX7_skip : MethodName := ⟨RX7, "skip", "(I)I"⟩
abbrev cX7_set : ByteArray := prog_9_method_12_code
def yX7_set : MethodName := ⟨RX7, "set", "(II)I"⟩
abbrev cX7_clear : ByteArray := prog_9_method_13_code
def yX7_clear : MethodName := ⟨RX7, "clear", "()I"⟩
abbrev cX7_subtract : ByteArray := prog_9_method_14_code
def yX7_subtract : MethodName := ⟨RX7, "subtract", "()I"⟩
abbrev cX7_onLine : ByteArray := prog_9_method_15_code
def yX7_onLine : MethodName := ⟨RX7, "onLine", "(III)J"⟩
abbrev cX7_removeLine : ByteArray := prog_9_method_16_code
def yX7_removeLine : MethodName := ⟨RX7, "removeLine", "(II)I"⟩
abbrev cX7_addLine : ByteArray := prog_9_method_17_code
def yX7_addLine : MethodName := ⟨RX7, "addLine", "(II)I"⟩
abbrev cX7_removeDrift : ByteArray := prog_9_method_18_code
def yX7_removeDrift : MethodName := ⟨RX7, "removeDrift", "()I"⟩
abbrev cX7_isOutlier : ByteArray := prog_9_method_19_code
def yX7_isOutlier : MethodName := ⟨RX7, "isOutlier", "(II)Z"⟩
abbrev cX7_layOutliers : ByteArray := prog_9_method_20_code
def yX7_layOutliers : MethodName := ⟨RX7, "layOutliers", "(I)I"⟩
abbrev cX7_removeOutliers : ByteArray := prog_9_method_21_code
def yX7_removeOutliers : MethodName := ⟨RX7, "removeOutliers", "(I)I"⟩
abbrev cX7_endOfGap : ByteArray := prog_9_method_22_code
def yX7_endOfGap : MethodName := ⟨RX7, "endOfGap", "(I)I"⟩
abbrev cX7_beginsGap : ByteArray := prog_9_method_23_code
def yX7_beginsGap : MethodName := ⟨RX7, "beginsGap", "(I)Z"⟩
abbrev cX7_fill : ByteArray := prog_9_method_24_code
def yX7_fill : MethodName := ⟨RX7, "fill", "(I)I"⟩
abbrev cX7_thin : ByteArray := prog_9_method_25_code
def yX7_thin : MethodName := ⟨RX7, "thin", "(II)I"⟩
abbrev cX7_undo : ByteArray := prog_9_method_26_code
def yX7_undo : MethodName := ⟨RX7, "undo", "()I"⟩
abbrev cX7_gaps : ByteArray := prog_9_method_27_code
def yX7_gaps : MethodName := ⟨RX7, "gaps", "(Z)I"⟩
abbrev cX7_present : ByteArray := prog_9_method_28_code
def yX7_present : MethodName := ⟨RX7, "present", "()I"⟩
abbrev cX7_end : ByteArray := prog_9_method_29_code
def yX7_end : MethodName := ⟨RX7, "end", "(Z)I"⟩
abbrev cX7_widest : ByteArray := prog_9_method_30_code
def yX7_widest : MethodName := ⟨RX7, "widest", "()I"⟩
abbrev cX7_told : ByteArray := prog_9_method_31_code
def yX7_told : MethodName := ⟨RX7, "told", "(I)I"⟩
abbrev cX7_reading : ByteArray := prog_9_method_32_code
def yX7_reading : MethodName := ⟨RX7, "reading", "(I)I"⟩
abbrev cX7_exists : ByteArray := prog_9_method_33_code
def yX7_exists : MethodName := ⟨RX7, "exists", "(III)Z"⟩
abbrev cX7_exists2 : ByteArray := prog_9_method_34_code
def yX7_exists2 : MethodName := ⟨RX7, "exists2", "(II)Z"⟩
abbrev cX7_second : ByteArray := prog_9_method_35_code
def yX7_second : MethodName := ⟨RX7, "second", "(II)I"⟩
abbrev cX7_differenceAt : ByteArray := prog_9_method_36_code
def yX7_differenceAt : MethodName := ⟨RX7, "differenceAt", "(III)I"⟩
abbrev cX7_isWide : ByteArray := prog_9_method_37_code
def yX7_isWide : MethodName := ⟨RX7, "isWide", "(I)Z"⟩
abbrev cX7_difference : ByteArray := prog_9_method_38_code
def yX7_difference : MethodName := ⟨RX7, "difference", "(III)I"⟩
abbrev cX7_countOf : ByteArray := prog_9_method_39_code
def yX7_countOf : MethodName := ⟨RX7, "countOf", "(II)I"⟩
abbrev cX7_count : ByteArray := prog_9_method_40_code
def yX7_count : MethodName := ⟨RX7, "count", "(II)I"⟩
abbrev cX7_common : ByteArray := prog_9_method_41_code
def yX7_common : MethodName := ⟨RX7, "common", "(JJ)J"⟩
abbrev cX7_layVariance : ByteArray := prog_9_method_42_code
def yX7_layVariance : MethodName := ⟨RX7, "layVariance", "(II)Z"⟩
abbrev cX7_isVariance : ByteArray := prog_9_method_43_code
def yX7_isVariance : MethodName := ⟨RX7, "isVariance", "(II)Z"⟩
abbrev cX7_variance : ByteArray := prog_9_method_44_code
def yX7_variance : MethodName := ⟨RX7, "variance", "(III)J"⟩
abbrev cX7_deviation : ByteArray := prog_9_method_45_code
def yX7_deviation : MethodName := ⟨RX7, "deviation", "(II)J"⟩
abbrev cX7_order : ByteArray := prog_9_method_46_code
def yX7_order : MethodName := ⟨RX7, "order", "(JJJJ)I"⟩
abbrev cX7_compared : ByteArray := prog_9_method_47_code
def yX7_compared : MethodName := ⟨RX7, "compared", "(III)I"⟩
abbrev cX7_compare : ByteArray := prog_9_method_48_code
def yX7_compare : MethodName := ⟨RX7, "compare", "(III)I"⟩
abbrev cX7_best : ByteArray := prog_9_method_49_code
def yX7_best : MethodName := ⟨RX7, "best", "(I)I"⟩
abbrev cX7_noiseAt : ByteArray := prog_9_method_50_code
def yX7_noiseAt : MethodName := ⟨RX7, "noiseAt", "(I)I"⟩
abbrev cX7_noise : ByteArray := prog_9_method_51_code
def yX7_noise : MethodName := ⟨RX7, "noise", "(I)I"⟩
abbrev cX7_freedom : ByteArray := prog_9_method_52_code
def yX7_freedom : MethodName := ⟨RX7, "freedom", "(I)I"⟩
abbrev cX7_outliers : ByteArray := prog_9_method_53_code
def yX7_outliers : MethodName := ⟨RX7, "outliers", "(I)I"⟩
abbrev cX7_write : ByteArray := prog_9_method_54_code
def yX7_write : MethodName := ⟨RX7, "write", "(I)I"⟩
abbrev cX7_wipe : ByteArray := prog_9_method_55_code
def yX7_wipe : MethodName := ⟨RX7, "wipe", "()I"⟩
abbrev cX7_isWrong : ByteArray := prog_9_method_56_code
def yX7_isWrong : MethodName := ⟨RX7, "isWrong", "(II)Z"⟩
abbrev cX7_isDigit : ByteArray := prog_9_method_57_code
def yX7_isDigit : MethodName := ⟨RX7, "isDigit", "()Z"⟩
abbrev cX7_takes : ByteArray := prog_9_method_58_code
def yX7_takes : MethodName := ⟨RX7, "takes", "(I)Z"⟩
abbrev cX7_lacksNumber : ByteArray := prog_9_method_59_code
def yX7_lacksNumber : MethodName := ⟨RX7, "lacksNumber", "(I)Z"⟩
abbrev cX7_isItemWrong : ByteArray := prog_9_method_60_code
def yX7_isItemWrong : MethodName := ⟨RX7, "isItemWrong", "()Z"⟩
abbrev cX7_load : ByteArray := prog_9_method_61_code
def yX7_load : MethodName := ⟨RX7, "load", "()I"⟩
abbrev cX7_fault : ByteArray := prog_9_method_62_code
def yX7_fault : MethodName := ⟨RX7, "fault", "(I)I"⟩
abbrev cX7_isImage : ByteArray := prog_9_method_63_code
def yX7_isImage : MethodName := ⟨RX7, "isImage", "(I)Z"⟩
abbrev cX7_keep : ByteArray := prog_9_method_64_code
def yX7_keep : MethodName := ⟨RX7, "keep", "(I)I"⟩
abbrev cX7_back : ByteArray := prog_9_method_65_code
def yX7_back : MethodName := ⟨RX7, "back", "(I)I"⟩
def RJ13 : String := "java/lang/Long"
def TJ13 : u_T := fun k => match k with
  | _ => ("", "", "", false)
def tyJ13 : Nat → FieldType := fun k => match k with
  | _ => .int
theorem nmJ13 : ∀ a, a < 0 → ∀ b, b < 0 → a ≠ b → (TJ13 a).2.1 ≠ (TJ13 b).2.1 := by decide +kernel
theorem tyJ13_ok : ∀ k, k < 0 → parseFieldDescriptor (TJ13 k).2.2.1 = some (tyJ13 k) := by decide +kernel
abbrev cJ13_compare_74951 : ByteArray := prog_10_method_42_code
def yJ13_compare_74951 : MethodName := ⟨RJ13, "compare", "(JJ)I"⟩
def RJ9 : String := "java/lang/Math"
def TJ9 : u_T := fun k => match k with
  | _ => ("", "", "", false)
def tyJ9 : Nat → FieldType := fun k => match k with
  | _ => .int
theorem nmJ9 : ∀ a, a < 0 → ∀ b, b < 0 → a ≠ b → (TJ9 a).2.1 ≠ (TJ9 b).2.1 := by decide +kernel
theorem tyJ9_ok : ∀ k, k < 0 → parseFieldDescriptor (TJ9 k).2.2.1 = some (tyJ9 k) := by decide +kernel
abbrev cJ9_floorDiv_f86c9 : ByteArray := prog_11_method_49_code
def yJ9_floorDiv_f86c9 : MethodName := ⟨RJ9, "floorDiv", "(JJ)J"⟩
abbrev cJ9_max_7cf53 : ByteArray := prog_11_method_65_code
def yJ9_max_7cf53 : MethodName := ⟨RJ9, "max", "(II)I"⟩
def RL : String := "StabilityAnalyzerLaw"
abbrev cL_law : ByteArray := code
def yL_law : MethodName := ⟨RL, "law", "([I)Z"⟩
abbrev vwCl : List vw_C := [(RX0, TX0, 2), (RX1, TX1, 3), (RX2, TX2, 2), (RX3, TX3, 5), (RX4, TX4, 2), (RX5, TX5, 2), (RX6, TX6, 9), (RX7, TX7, 19)]
end
section
/-! the tables of the abstract machine, printed by wip/gen.py out of the claim's own names and tables: methods by number, their rows -/
abbrev qOp : Type := Nat × Nat × Nat × Nat × Value × List (Int × Nat)
abbrev qRow : Type := Nat × Instr × Nat
abbrev m_fr_exists : Nat := 0
abbrev m_fr_become : Nat := 1
abbrev m_fr_copyFrom : Nat := 2
abbrev m_fr_orderOfMultiples : Nat := 3
abbrev m_fr_timesRoundedDown : Nat := 4
abbrev m_fr_greatestDivisor : Nat := 5
abbrev m_hi_depth : Nat := 6
abbrev m_hi_record : Nat := 7
abbrev m_hi_restore : Nat := 8
abbrev m_hi_stateAt : Nat := 9
abbrev m_lo_readsAll : Nat := 10
abbrev m_lo_readsItem : Nat := 11
abbrev m_lo_readsPhase : Nat := 12
abbrev m_lo_readsTimes : Nat := 13
abbrev m_lo_readNumber : Nat := 14
abbrev m_lo_isDigit : Nat := 15
abbrev m_lo_refuses : Nat := 16
abbrev m_rd_size : Nat := 17
abbrev m_rd_reaches : Nat := 18
abbrev m_rd_has : Nat := 19
abbrev m_rd_at : Nat := 20
abbrev m_rd_put : Nat := 21
abbrev m_rd_append : Nat := 22
abbrev m_rd_appendTimes : Nat := 23
abbrev m_rd_empty : Nat := 24
abbrev m_rd_copyFrom : Nat := 25
abbrev m_rd_present : Nat := 26
abbrev m_rd_least : Nat := 27
abbrev m_rd_greatest : Nat := 28
abbrev m_rd_gaps : Nat := 29
abbrev m_rd_longestGap : Nat := 30
abbrev m_rd_startsGap : Nat := 31
abbrev m_rd_gapEnd : Nat := 32
abbrev m_rd_lineAt : Nat := 33
abbrev m_rd_isOutlier : Nat := 34
abbrev m_rd_countOf : Nat := 35
abbrev m_rd_differenceAt : Nat := 36
abbrev m_rd_secondAt : Nat := 37
abbrev m_rd_thirdAt : Nat := 38
abbrev m_rd_meanAt : Nat := 39
abbrev m_tx_size : Nat := 40
abbrev m_tx_at : Nat := 41
abbrev m_tx_append : Nat := 42
abbrev m_tx_empty : Nat := 43
abbrev m_sa_add : Nat := 44
abbrev m_sa_skip : Nat := 45
abbrev m_sa_set : Nat := 46
abbrev m_sa_clear : Nat := 47
abbrev m_sa_removeLine : Nat := 48
abbrev m_sa_addLine : Nat := 49
abbrev m_sa_removeDrift : Nat := 50
abbrev m_sa_removeOutliers : Nat := 51
abbrev m_sa_fill : Nat := 52
abbrev m_sa_thin : Nat := 53
abbrev m_sa_undo : Nat := 54
abbrev m_sa_told : Nat := 55
abbrev m_sa_reading : Nat := 56
abbrev m_sa_difference : Nat := 57
abbrev m_sa_count : Nat := 58
abbrev m_sa_variance : Nat := 59
abbrev m_sa_deviation : Nat := 60
abbrev m_sa_compare : Nat := 61
abbrev m_sa_best : Nat := 62
abbrev m_sa_noise : Nat := 63
abbrev m_sa_freedom : Nat := 64
abbrev m_sa_outliers : Nat := 65
abbrev m_sa_write : Nat := 66
abbrev m_sa_wipe : Nat := 67
abbrev m_sa_load : Nat := 68
abbrev m_sa_fault : Nat := 69
abbrev m_sa_keep : Nat := 70
abbrev m_sa_back : Nat := 71
abbrev m_sa_isPhase : Nat := 72
abbrev m_sa_isLimit : Nat := 73
abbrev m_sa_isOrder : Nat := 74
abbrev m_sa_isM : Nat := 75
abbrev m_sa_isVariance : Nat := 76
abbrev m_sa_imageAt : Nat := 77
abbrev m_sa_subtractAmounts : Nat := 78
abbrev m_sa_allStayPhases : Nat := 79
abbrev m_sa_sumOfSecondDifferences : Nat := 80
abbrev m_sa_fillGap : Nat := 81
abbrev m_sa_greatestM : Nat := 82
abbrev m_sa_measure : Nat := 83
abbrev m_sa_orderFor : Nat := 84
abbrev m_sa_divisorFor : Nat := 85
abbrev m_sa_squareRoot : Nat := 86
abbrev m_sa_kindOfNoise : Nat := 87
abbrev m_sa_degreesOfFreedom : Nat := 88
abbrev m_md_isIn : Nat := 89
abbrev m_md_many : Nat := 90
abbrev m_md_isReading : Nat := 91
abbrev m_md_isThere : Nat := 92
abbrev m_md_remember : Nat := 93
abbrev m_md_isPhase : Nat := 94
abbrev m_md_floor : Nat := 95
abbrev m_md_add : Nat := 96
abbrev m_md_skip : Nat := 97
abbrev m_md_set : Nat := 98
abbrev m_md_clear : Nat := 99
abbrev m_md_subtract : Nat := 100
abbrev m_md_onLine : Nat := 101
abbrev m_md_removeLine : Nat := 102
abbrev m_md_addLine : Nat := 103
abbrev m_md_removeDrift : Nat := 104
abbrev m_md_isOutlier : Nat := 105
abbrev m_md_layOutliers : Nat := 106
abbrev m_md_removeOutliers : Nat := 107
abbrev m_md_endOfGap : Nat := 108
abbrev m_md_beginsGap : Nat := 109
abbrev m_md_fill : Nat := 110
abbrev m_md_thin : Nat := 111
abbrev m_md_undo : Nat := 112
abbrev m_md_gaps : Nat := 113
abbrev m_md_present : Nat := 114
abbrev m_md_end : Nat := 115
abbrev m_md_widest : Nat := 116
abbrev m_md_told : Nat := 117
abbrev m_md_reading : Nat := 118
abbrev m_md_exists : Nat := 119
abbrev m_md_exists2 : Nat := 120
abbrev m_md_second : Nat := 121
abbrev m_md_differenceAt : Nat := 122
abbrev m_md_isWide : Nat := 123
abbrev m_md_difference : Nat := 124
abbrev m_md_countOf : Nat := 125
abbrev m_md_count : Nat := 126
abbrev m_md_common : Nat := 127
abbrev m_md_layVariance : Nat := 128
abbrev m_md_isVariance : Nat := 129
abbrev m_md_variance : Nat := 130
abbrev m_md_deviation : Nat := 131
abbrev m_md_order : Nat := 132
abbrev m_md_compared : Nat := 133
abbrev m_md_compare : Nat := 134
abbrev m_md_best : Nat := 135
abbrev m_md_noiseAt : Nat := 136
abbrev m_md_noise : Nat := 137
abbrev m_md_freedom : Nat := 138
abbrev m_md_outliers : Nat := 139
abbrev m_md_write : Nat := 140
abbrev m_md_wipe : Nat := 141
abbrev m_md_isWrong : Nat := 142
abbrev m_md_isDigit : Nat := 143
abbrev m_md_takes : Nat := 144
abbrev m_md_lacksNumber : Nat := 145
abbrev m_md_isItemWrong : Nat := 146
abbrev m_md_load : Nat := 147
abbrev m_md_fault : Nat := 148
abbrev m_md_isImage : Nat := 149
abbrev m_md_keep : Nat := 150
abbrev m_md_back : Nat := 151
abbrev m_long_compare : Nat := 152
abbrev m_math_floorDiv : Nat := 153
abbrev m_math_max : Nat := 154
abbrev m_lw_law : Nat := 155
def qo_0 : List qOp := [(3, 0, 0, 0, .null, []), (35, 0, 1, 162, .null, []), (0, 0, 0, 0, .long 0, []), (25, 0, 0, 0, .null, []), (28, 5, 7, 0, .null, []), (0, 0, 0, 0, .int 1, []), (32, 0, 8, 0, .null, []), (0, 0, 0, 0, .int 0, []), (51, 0, 0, 0, .null, [])]
def qr_0 : List qRow := [(0, .aload_n 0, 1), (1, .getfield 13, 3), (4, .lconst 0, 1), (5, .lcmp, 1), (6, .ifCond .le 7, 3), (9, .iconst 1, 1), (10, .goto 4, 3), (13, .iconst 0, 1), (14, .ireturn, 1)]
def qo_1 : List qOp := [(2, 1, 0, 0, .null, []), (2, 3, 0, 0, .null, []), (48, 5, 2, 0, .null, [(0, 451), (0, 452), (0, 52)]), (5, 5, 0, 0, .null, []), (2, 3, 0, 0, .null, []), (0, 0, 0, 0, .long 0, []), (25, 0, 0, 0, .null, []), (28, 5, 12, 0, .null, []), (2, 5, 0, 0, .null, []), (0, 0, 0, 0, .long 0, []), (25, 0, 0, 0, .null, []), (28, 4, 19, 0, .null, []), (3, 0, 0, 0, .null, []), (0, 0, 0, 0, .long 0, []), (38, 0, 0, 160, .null, []), (3, 0, 0, 0, .null, []), (0, 0, 0, 0, .long 0, []), (38, 0, 1, 162, .null, []), (54, 0, 0, 0, .null, []), (3, 0, 0, 0, .null, []), (2, 1, 0, 0, .null, []), (2, 5, 0, 0, .null, []), (21, 0, 0, 0, .null, []), (38, 0, 0, 160, .null, []), (3, 0, 0, 0, .null, []), (2, 3, 0, 0, .null, []), (2, 5, 0, 0, .null, []), (21, 0, 0, 0, .null, []), (38, 0, 1, 162, .null, []), (54, 0, 0, 0, .null, [])]
def qr_1 : List qRow := [(0, .lload_n 1, 1), (1, .lload_n 3, 1), (2, .invokestatic 16, 3), (5, .lstore 5, 2), (7, .lload_n 3, 1), (8, .lconst 0, 1), (9, .lcmp, 1), (10, .ifCond .le 10, 3), (13, .lload 5, 2), (15, .lconst 0, 1), (16, .lcmp, 1), (17, .ifCond .gt 14, 3), (20, .aload_n 0, 1), (21, .lconst 0, 1), (22, .putfield 7, 3), (25, .aload_n 0, 1), (26, .lconst 0, 1), (27, .putfield 13, 3), (30, .return_, 1), (31, .aload_n 0, 1), (32, .lload_n 1, 1), (33, .lload 5, 2), (35, .ldiv, 1), (36, .putfield 7, 3), (39, .aload_n 0, 1), (40, .lload_n 3, 1), (41, .lload 5, 2), (43, .ldiv, 1), (44, .putfield 13, 3), (47, .return_, 1)]
def qo_2 : List qOp := [(3, 0, 0, 0, .null, []), (3, 1, 0, 0, .null, []), (35, 0, 0, 160, .null, []), (38, 0, 0, 160, .null, []), (3, 0, 0, 0, .null, []), (3, 1, 0, 0, .null, []), (35, 0, 1, 162, .null, []), (38, 0, 1, 162, .null, []), (54, 0, 0, 0, .null, [])]
def qr_2 : List qRow := [(0, .aload_n 0, 1), (1, .aload_n 1, 1), (2, .getfield 7, 3), (5, .putfield 7, 3), (8, .aload_n 0, 1), (9, .aload_n 1, 1), (10, .getfield 13, 3), (13, .putfield 13, 3), (16, .return_, 1)]
def qo_3 : List qOp := [(3, 0, 0, 0, .null, []), (49, 0, 0, 0, .null, [(0, 467), (0, 455), (0, 456), (0, 52)]), (28, 0, 6, 0, .null, []), (3, 3, 0, 0, .null, []), (49, 0, 0, 0, .null, [(0, 467), (0, 455), (0, 456), (0, 52)]), (28, 1, 8, 0, .null, []), (0, 0, 0, 0, .int 0, []), (50, 0, 0, 0, .null, []), (2, 1, 0, 0, .null, []), (3, 0, 0, 0, .null, []), (35, 0, 0, 160, .null, []), (20, 0, 0, 0, .null, []), (5, 6, 0, 0, .null, []), (2, 4, 0, 0, .null, []), (3, 3, 0, 0, .null, []), (35, 0, 0, 160, .null, []), (20, 0, 0, 0, .null, []), (5, 8, 0, 0, .null, []), (2, 6, 0, 0, .null, []), (3, 0, 0, 0, .null, []), (35, 0, 1, 162, .null, []), (21, 0, 0, 0, .null, []), (2, 8, 0, 0, .null, []), (3, 3, 0, 0, .null, []), (35, 0, 1, 162, .null, []), (21, 0, 0, 0, .null, []), (48, 152, 2, 0, .null, [(0, 479), (0, 480), (0, 55)]), (4, 10, 0, 0, .null, []), (1, 10, 0, 0, .null, []), (28, 0, 32, 0, .null, []), (1, 10, 0, 0, .null, []), (50, 0, 0, 0, .null, []), (2, 6, 0, 0, .null, []), (3, 0, 0, 0, .null, []), (35, 0, 1, 162, .null, []), (22, 0, 0, 0, .null, []), (3, 3, 0, 0, .null, []), (35, 0, 1, 162, .null, []), (20, 0, 0, 0, .null, []), (2, 8, 0, 0, .null, []), (3, 3, 0, 0, .null, []), (35, 0, 1, 162, .null, []), (22, 0, 0, 0, .null, []), (3, 0, 0, 0, .null, []), (35, 0, 1, 162, .null, []), (20, 0, 0, 0, .null, []), (48, 152, 2, 0, .null, [(0, 479), (0, 480), (0, 55)]), (50, 0, 0, 0, .null, [])]
def qr_3 : List qRow := [(0, .aload_n 0, 1), (1, .invokevirtual 20, 3), (4, .ifCond .eq 10, 3), (7, .aload_n 3, 1), (8, .invokevirtual 20, 3), (11, .ifCond .ne 5, 3), (14, .iconst 0, 1), (15, .ireturn, 1), (16, .lload_n 1, 1), (17, .aload_n 0, 1), (18, .getfield 7, 3), (21, .lmul, 1), (22, .lstore 6, 2), (24, .lload 4, 2), (26, .aload_n 3, 1), (27, .getfield 7, 3), (30, .lmul, 1), (31, .lstore 8, 2), (33, .lload 6, 2), (35, .aload_n 0, 1), (36, .getfield 13, 3), (39, .ldiv, 1), (40, .lload 8, 2), (42, .aload_n 3, 1), (43, .getfield 13, 3), (46, .ldiv, 1), (47, .invokestatic 24, 3), (50, .istore 10, 2), (52, .iload 10, 2), (54, .ifCond .eq 6, 3), (57, .iload 10, 2), (59, .ireturn, 1), (60, .lload 6, 2), (62, .aload_n 0, 1), (63, .getfield 13, 3), (66, .lrem, 1), (67, .aload_n 3, 1), (68, .getfield 13, 3), (71, .lmul, 1), (72, .lload 8, 2), (74, .aload_n 3, 1), (75, .getfield 13, 3), (78, .lrem, 1), (79, .aload_n 0, 1), (80, .getfield 13, 3), (83, .lmul, 1), (84, .invokestatic 24, 3), (87, .ireturn, 1)]
def qo_4 : List qOp := [(3, 0, 0, 0, .null, []), (49, 0, 0, 0, .null, [(0, 467), (0, 455), (0, 456), (0, 52)]), (28, 1, 5, 0, .null, []), (0, 0, 0, 0, .long 0, []), (52, 0, 0, 0, .null, []), (3, 0, 0, 0, .null, []), (35, 0, 0, 160, .null, []), (3, 0, 0, 0, .null, []), (35, 0, 1, 162, .null, []), (21, 0, 0, 0, .null, []), (2, 1, 0, 0, .null, []), (20, 0, 0, 0, .null, []), (3, 0, 0, 0, .null, []), (35, 0, 0, 160, .null, []), (3, 0, 0, 0, .null, []), (35, 0, 1, 162, .null, []), (22, 0, 0, 0, .null, []), (2, 1, 0, 0, .null, []), (20, 0, 0, 0, .null, []), (3, 0, 0, 0, .null, []), (35, 0, 1, 162, .null, []), (21, 0, 0, 0, .null, []), (18, 0, 0, 0, .null, []), (52, 0, 0, 0, .null, [])]
def qr_4 : List qRow := [(0, .aload_n 0, 1), (1, .invokevirtual 20, 3), (4, .ifCond .ne 5, 3), (7, .lconst 0, 1), (8, .lreturn, 1), (9, .aload_n 0, 1), (10, .getfield 7, 3), (13, .aload_n 0, 1), (14, .getfield 13, 3), (17, .ldiv, 1), (18, .lload_n 1, 1), (19, .lmul, 1), (20, .aload_n 0, 1), (21, .getfield 7, 3), (24, .aload_n 0, 1), (25, .getfield 13, 3), (28, .lrem, 1), (29, .lload_n 1, 1), (30, .lmul, 1), (31, .aload_n 0, 1), (32, .getfield 13, 3), (35, .ldiv, 1), (36, .ladd, 1), (37, .lreturn, 1)]
def qo_5 : List qOp := [(2, 0, 0, 0, .null, []), (5, 4, 0, 0, .null, []), (2, 2, 0, 0, .null, []), (5, 6, 0, 0, .null, []), (0, 0, 0, 0, .int 0, []), (4, 8, 0, 0, .null, []), (1, 8, 0, 0, .null, []), (0, 0, 0, 0, .int 100, []), (29, 3, 23, 0, .null, []), (2, 6, 0, 0, .null, []), (0, 0, 0, 0, .long 0, []), (25, 0, 0, 0, .null, []), (28, 0, 23, 0, .null, []), (2, 4, 0, 0, .null, []), (2, 6, 0, 0, .null, []), (22, 0, 0, 0, .null, []), (5, 9, 0, 0, .null, []), (2, 6, 0, 0, .null, []), (5, 4, 0, 0, .null, []), (2, 9, 0, 0, .null, []), (5, 6, 0, 0, .null, []), (7, 8, 0, 0, .int 1, []), (32, 0, 6, 0, .null, []), (2, 4, 0, 0, .null, []), (52, 0, 0, 0, .null, [])]
def qr_5 : List qRow := [(0, .lload_n 0, 1), (1, .lstore 4, 2), (3, .lload_n 2, 1), (4, .lstore 6, 2), (6, .iconst 0, 1), (7, .istore 8, 2), (9, .iload 8, 2), (11, .bipush 100, 2), (13, .if_icmp .ge 31, 3), (16, .lload 6, 2), (18, .lconst 0, 1), (19, .lcmp, 1), (20, .ifCond .eq 24, 3), (23, .lload 4, 2), (25, .lload 6, 2), (27, .lrem, 1), (28, .lstore 9, 2), (30, .lload 6, 2), (32, .lstore 4, 2), (34, .lload 9, 2), (36, .lstore 6, 2), (38, .iinc 8 1, 3), (41, .goto (-32), 3), (44, .lload 4, 2), (46, .lreturn, 1)]
def qo_6 : List qOp := [(3, 0, 0, 0, .null, []), (34, 1, 2, 89, .null, []), (50, 0, 0, 0, .null, [])]
def qr_6 : List qRow := [(0, .aload_n 0, 1), (1, .getfield 21, 3), (4, .ireturn, 1)]
def qo_7 : List qOp := [(3, 0, 0, 0, .null, []), (34, 1, 2, 89, .null, []), (0, 0, 0, 0, .int 8, []), (29, 1, 18, 0, .null, []), (3, 0, 0, 0, .null, []), (3, 0, 0, 0, .null, []), (34, 1, 1, 88, .null, []), (0, 0, 0, 0, .int 1, []), (8, 0, 0, 0, .null, []), (0, 0, 0, 0, .int 8, []), (16, 0, 0, 0, .null, []), (37, 1, 1, 88, .null, []), (3, 0, 0, 0, .null, []), (55, 0, 0, 0, .null, []), (34, 1, 2, 89, .null, []), (0, 0, 0, 0, .int 1, []), (9, 0, 0, 0, .null, []), (37, 1, 2, 89, .null, []), (3, 0, 0, 0, .null, []), (3, 0, 0, 0, .null, []), (34, 1, 2, 89, .null, []), (49, 9, 1, 1, .null, [(0, 216), (0, 218), (0, 0), (0, 48)]), (6, 2, 0, 0, .null, []), (3, 2, 0, 0, .null, []), (30, 0, 34, 0, .null, []), (3, 2, 0, 0, .null, []), (3, 1, 0, 0, .null, []), (49, 25, 1, 4, .null, [(0, 220), (0, 221), (0, 222), (0, 47)]), (3, 0, 0, 0, .null, []), (55, 0, 0, 0, .null, []), (34, 1, 2, 89, .null, []), (0, 0, 0, 0, .int 1, []), (8, 0, 0, 0, .null, []), (37, 1, 2, 89, .null, []), (54, 0, 0, 0, .null, [])]
def qr_7 : List qRow := [(0, .aload_n 0, 1), (1, .getfield 21, 3), (4, .bipush 8, 2), (6, .if_icmp .ne 26, 3), (9, .aload_n 0, 1), (10, .aload_n 0, 1), (11, .getfield 17, 3), (14, .iconst 1, 1), (15, .iadd, 1), (16, .bipush 8, 2), (18, .irem, 1), (19, .putfield 17, 3), (22, .aload_n 0, 1), (23, .dup, 1), (24, .getfield 21, 3), (27, .iconst 1, 1), (28, .isub, 1), (29, .putfield 21, 3), (32, .aload_n 0, 1), (33, .aload_n 0, 1), (34, .getfield 21, 3), (37, .invokevirtual 25, 3), (40, .astore_n 2, 1), (41, .aload_n 2, 1), (42, .ifnull 18, 3), (45, .aload_n 2, 1), (46, .aload_n 1, 1), (47, .invokevirtual 29, 3), (50, .aload_n 0, 1), (51, .dup, 1), (52, .getfield 21, 3), (55, .iconst 1, 1), (56, .iadd, 1), (57, .putfield 21, 3), (60, .return_, 1)]
def qo_8 : List qOp := [(3, 0, 0, 0, .null, []), (3, 0, 0, 0, .null, []), (34, 1, 2, 89, .null, []), (0, 0, 0, 0, .int 1, []), (9, 0, 0, 0, .null, []), (49, 9, 1, 1, .null, [(0, 216), (0, 218), (0, 0), (0, 48)]), (6, 2, 0, 0, .null, []), (3, 2, 0, 0, .null, []), (30, 0, 18, 0, .null, []), (3, 1, 0, 0, .null, []), (3, 2, 0, 0, .null, []), (49, 25, 1, 4, .null, [(0, 220), (0, 221), (0, 222), (0, 47)]), (3, 0, 0, 0, .null, []), (55, 0, 0, 0, .null, []), (34, 1, 2, 89, .null, []), (0, 0, 0, 0, .int 1, []), (9, 0, 0, 0, .null, []), (37, 1, 2, 89, .null, []), (54, 0, 0, 0, .null, [])]
def qr_8 : List qRow := [(0, .aload_n 0, 1), (1, .aload_n 0, 1), (2, .getfield 21, 3), (5, .iconst 1, 1), (6, .isub, 1), (7, .invokevirtual 25, 3), (10, .astore_n 2, 1), (11, .aload_n 2, 1), (12, .ifnull 18, 3), (15, .aload_n 1, 1), (16, .aload_n 2, 1), (17, .invokevirtual 29, 3), (20, .aload_n 0, 1), (21, .dup, 1), (22, .getfield 21, 3), (25, .iconst 1, 1), (26, .isub, 1), (27, .putfield 21, 3), (30, .return_, 1)]
def qo_9 : List qOp := [(3, 0, 0, 0, .null, []), (34, 1, 1, 88, .null, []), (1, 1, 0, 0, .null, []), (8, 0, 0, 0, .null, []), (0, 0, 0, 0, .int 8, []), (16, 0, 0, 0, .null, []), (4, 2, 0, 0, .null, []), (1, 1, 0, 0, .null, []), (28, 2, 16, 0, .null, []), (1, 2, 0, 0, .null, []), (28, 2, 16, 0, .null, []), (1, 2, 0, 0, .null, []), (3, 0, 0, 0, .null, []), (36, 1, 0, 87, .null, []), (40, 0, 0, 0, .null, []), (29, 2, 18, 0, .null, []), (0, 0, 0, 0, .null, []), (53, 0, 0, 0, .null, []), (3, 0, 0, 0, .null, []), (36, 1, 0, 87, .null, []), (1, 2, 0, 0, .null, []), (44, 103, 0, 0, .null, []), (53, 0, 0, 0, .null, [])]
def qr_9 : List qRow := [(0, .aload_n 0, 1), (1, .getfield 17, 3), (4, .iload_n 1, 1), (5, .iadd, 1), (6, .bipush 8, 2), (8, .irem, 1), (9, .istore_n 2, 1), (10, .iload_n 1, 1), (11, .ifCond .lt 16, 3), (14, .iload_n 2, 1), (15, .ifCond .lt 12, 3), (18, .iload_n 2, 1), (19, .aload_n 0, 1), (20, .getfield 11, 3), (23, .arraylength, 1), (24, .if_icmp .lt 5, 3), (27, .aconst_null, 1), (28, .areturn, 1), (29, .aload_n 0, 1), (30, .getfield 11, 3), (33, .iload_n 2, 1), (34, .aaload, 1), (35, .areturn, 1)]
def qo_10 : List qOp := [(3, 2, 0, 0, .null, []), (49, 24, 0, 4, .null, [(0, 535), (0, 225), (0, 226), (0, 47)]), (3, 0, 0, 0, .null, []), (0, 0, 0, 0, .int 0, []), (37, 3, 2, 140, .null, []), (0, 0, 0, 0, .int 0, []), (4, 3, 0, 0, .null, []), (1, 3, 0, 0, .null, []), (0, 0, 0, 0, .int 120, []), (29, 3, 24, 0, .null, []), (3, 0, 0, 0, .null, []), (34, 3, 2, 140, .null, []), (3, 1, 0, 0, .null, []), (49, 40, 0, 5, .null, [(0, 536), (0, 406), (0, 407), (0, 50)]), (29, 3, 24, 0, .null, []), (3, 0, 0, 0, .null, []), (3, 1, 0, 0, .null, []), (3, 2, 0, 0, .null, []), (49, 11, 2, 3, .null, [(0, 537), (0, 539), (0, 12), (0, 51)]), (28, 1, 22, 0, .null, []), (0, 0, 0, 0, .int 0, []), (51, 0, 0, 0, .null, []), (7, 3, 0, 0, .int 1, []), (32, 0, 7, 0, .null, []), (0, 0, 0, 0, .int 1, []), (51, 0, 0, 0, .null, [])]
def qr_10 : List qRow := [(0, .aload_n 2, 1), (1, .invokevirtual 28, 3), (4, .aload_n 0, 1), (5, .iconst 0, 1), (6, .putfield 19, 3), (9, .iconst 0, 1), (10, .istore_n 3, 1), (11, .iload_n 3, 1), (12, .bipush 120, 2), (14, .if_icmp .ge 31, 3), (17, .aload_n 0, 1), (18, .getfield 19, 3), (21, .aload_n 1, 1), (22, .invokevirtual 33, 3), (25, .if_icmp .ge 20, 3), (28, .aload_n 0, 1), (29, .aload_n 1, 1), (30, .aload_n 2, 1), (31, .invokevirtual 39, 3), (34, .ifCond .ne 5, 3), (37, .iconst 0, 1), (38, .ireturn, 1), (39, .iinc 3 1, 3), (42, .goto (-31), 3), (45, .iconst 1, 1), (46, .ireturn, 1)]
def qo_11 : List qOp := [(3, 0, 0, 0, .null, []), (34, 3, 2, 140, .null, []), (4, 3, 0, 0, .null, []), (3, 0, 0, 0, .null, []), (3, 1, 0, 0, .null, []), (49, 12, 1, 3, .null, [(0, 541), (0, 543), (0, 13), (0, 51)]), (28, 0, 11, 0, .null, []), (3, 0, 0, 0, .null, []), (3, 1, 0, 0, .null, []), (49, 13, 1, 3, .null, [(0, 560), (0, 562), (0, 16), (0, 51)]), (28, 1, 13, 0, .null, []), (0, 0, 0, 0, .int 0, []), (51, 0, 0, 0, .null, []), (3, 1, 0, 0, .null, []), (3, 0, 0, 0, .null, []), (34, 3, 2, 140, .null, []), (49, 41, 1, 5, .null, [(0, 545), (0, 546), (0, 547), (0, 50)]), (0, 0, 0, 0, .int 59, []), (29, 0, 25, 0, .null, []), (3, 0, 0, 0, .null, []), (0, 0, 0, 0, .int 1, []), (3, 0, 0, 0, .null, []), (34, 3, 2, 140, .null, []), (49, 16, 2, 3, .null, [(0, 552), (0, 554), (0, 14), (0, 51)]), (51, 0, 0, 0, .null, []), (3, 0, 0, 0, .null, []), (55, 0, 0, 0, .null, []), (34, 3, 2, 140, .null, []), (0, 0, 0, 0, .int 1, []), (8, 0, 0, 0, .null, []), (37, 3, 2, 140, .null, []), (3, 2, 0, 0, .null, []), (49, 17, 0, 4, .null, [(0, 564), (0, 208), (0, 209), (0, 47)]), (3, 0, 0, 0, .null, []), (34, 3, 4, 142, .null, []), (8, 0, 0, 0, .null, []), (0, 0, 0, 0, .int 64, []), (29, 5, 43, 0, .null, []), (3, 0, 0, 0, .null, []), (0, 0, 0, 0, .int 3, []), (1, 3, 0, 0, .null, []), (49, 16, 2, 3, .null, [(0, 552), (0, 554), (0, 14), (0, 51)]), (51, 0, 0, 0, .null, []), (3, 2, 0, 0, .null, []), (3, 0, 0, 0, .null, []), (34, 3, 3, 141, .null, []), (3, 0, 0, 0, .null, []), (34, 3, 4, 142, .null, []), (49, 23, 2, 4, .null, [(0, 565), (0, 245), (0, 246), (0, 47)]), (0, 0, 0, 0, .int 1, []), (51, 0, 0, 0, .null, [])]
def qr_11 : List qRow := [(0, .aload_n 0, 1), (1, .getfield 19, 3), (4, .istore_n 3, 1), (5, .aload_n 0, 1), (6, .aload_n 1, 1), (7, .invokevirtual 43, 3), (10, .ifCond .eq 11, 3), (13, .aload_n 0, 1), (14, .aload_n 1, 1), (15, .invokevirtual 47, 3), (18, .ifCond .ne 5, 3), (21, .iconst 0, 1), (22, .ireturn, 1), (23, .aload_n 1, 1), (24, .aload_n 0, 1), (25, .getfield 19, 3), (28, .invokevirtual 50, 3), (31, .bipush 59, 2), (33, .if_icmp .eq 13, 3), (36, .aload_n 0, 1), (37, .iconst 1, 1), (38, .aload_n 0, 1), (39, .getfield 19, 3), (42, .invokevirtual 54, 3), (45, .ireturn, 1), (46, .aload_n 0, 1), (47, .dup, 1), (48, .getfield 19, 3), (51, .iconst 1, 1), (52, .iadd, 1), (53, .putfield 19, 3), (56, .aload_n 2, 1), (57, .invokevirtual 58, 3), (60, .aload_n 0, 1), (61, .getfield 25, 3), (64, .iadd, 1), (65, .bipush 64, 2), (67, .if_icmp .le 10, 3), (70, .aload_n 0, 1), (71, .iconst 3, 1), (72, .iload_n 3, 1), (73, .invokevirtual 54, 3), (76, .ireturn, 1), (77, .aload_n 2, 1), (78, .aload_n 0, 1), (79, .getfield 22, 3), (82, .aload_n 0, 1), (83, .getfield 25, 3), (86, .invokevirtual 59, 3), (89, .iconst 1, 1), (90, .ireturn, 1)]
def qo_12 : List qOp := [(3, 0, 0, 0, .null, []), (0, 135, 0, 0, .int (-1000000001), []), (37, 3, 3, 141, .null, []), (3, 1, 0, 0, .null, []), (3, 0, 0, 0, .null, []), (34, 3, 2, 140, .null, []), (49, 41, 1, 5, .null, [(0, 545), (0, 546), (0, 547), (0, 50)]), (0, 0, 0, 0, .int 63, []), (29, 1, 17, 0, .null, []), (3, 0, 0, 0, .null, []), (55, 0, 0, 0, .null, []), (34, 3, 2, 140, .null, []), (0, 0, 0, 0, .int 1, []), (8, 0, 0, 0, .null, []), (37, 3, 2, 140, .null, []), (0, 0, 0, 0, .int 1, []), (51, 0, 0, 0, .null, []), (3, 1, 0, 0, .null, []), (3, 0, 0, 0, .null, []), (34, 3, 2, 140, .null, []), (49, 41, 1, 5, .null, [(0, 545), (0, 546), (0, 547), (0, 50)]), (0, 0, 0, 0, .int 45, []), (29, 1, 25, 0, .null, []), (0, 0, 0, 0, .int 1, []), (32, 0, 26, 0, .null, []), (0, 0, 0, 0, .int 0, []), (4, 2, 0, 0, .null, []), (1, 2, 0, 0, .null, []), (28, 0, 35, 0, .null, []), (3, 0, 0, 0, .null, []), (55, 0, 0, 0, .null, []), (34, 3, 2, 140, .null, []), (0, 0, 0, 0, .int 1, []), (8, 0, 0, 0, .null, []), (37, 3, 2, 140, .null, []), (3, 1, 0, 0, .null, []), (3, 0, 0, 0, .null, []), (34, 3, 2, 140, .null, []), (49, 41, 1, 5, .null, [(0, 545), (0, 546), (0, 547), (0, 50)]), (48, 15, 1, 0, .null, [(0, 549), (0, 550), (0, 51)]), (28, 1, 47, 0, .null, []), (3, 0, 0, 0, .null, []), (0, 0, 0, 0, .int 1, []), (3, 0, 0, 0, .null, []), (34, 3, 2, 140, .null, []), (49, 16, 2, 3, .null, [(0, 552), (0, 554), (0, 14), (0, 51)]), (51, 0, 0, 0, .null, []), (3, 0, 0, 0, .null, []), (3, 1, 0, 0, .null, []), (0, 0, 0, 0, .int 5, []), (49, 14, 2, 3, .null, [(0, 556), (0, 558), (0, 15), (0, 51)]), (4, 3, 0, 0, .null, []), (3, 0, 0, 0, .null, []), (1, 2, 0, 0, .null, []), (28, 0, 58, 0, .null, []), (1, 3, 0, 0, .null, []), (17, 0, 0, 0, .null, []), (32, 0, 59, 0, .null, []), (1, 3, 0, 0, .null, []), (37, 3, 3, 141, .null, []), (0, 0, 0, 0, .int 1, []), (51, 0, 0, 0, .null, [])]
def qr_12 : List qRow := [(0, .aload_n 0, 1), (1, .ldc 9, 2), (3, .putfield 22, 3), (6, .aload_n 1, 1), (7, .aload_n 0, 1), (8, .getfield 19, 3), (11, .invokevirtual 50, 3), (14, .bipush 63, 2), (16, .if_icmp .ne 15, 3), (19, .aload_n 0, 1), (20, .dup, 1), (21, .getfield 19, 3), (24, .iconst 1, 1), (25, .iadd, 1), (26, .putfield 19, 3), (29, .iconst 1, 1), (30, .ireturn, 1), (31, .aload_n 1, 1), (32, .aload_n 0, 1), (33, .getfield 19, 3), (36, .invokevirtual 50, 3), (39, .bipush 45, 2), (41, .if_icmp .ne 7, 3), (44, .iconst 1, 1), (45, .goto 4, 3), (48, .iconst 0, 1), (49, .istore_n 2, 1), (50, .iload_n 2, 1), (51, .ifCond .eq 13, 3), (54, .aload_n 0, 1), (55, .dup, 1), (56, .getfield 19, 3), (59, .iconst 1, 1), (60, .iadd, 1), (61, .putfield 19, 3), (64, .aload_n 1, 1), (65, .aload_n 0, 1), (66, .getfield 19, 3), (69, .invokevirtual 50, 3), (72, .invokestatic 63, 3), (75, .ifCond .ne 13, 3), (78, .aload_n 0, 1), (79, .iconst 1, 1), (80, .aload_n 0, 1), (81, .getfield 19, 3), (84, .invokevirtual 54, 3), (87, .ireturn, 1), (88, .aload_n 0, 1), (89, .aload_n 1, 1), (90, .iconst 5, 1), (91, .invokevirtual 67, 3), (94, .istore_n 3, 1), (95, .aload_n 0, 1), (96, .iload_n 2, 1), (97, .ifCond .eq 8, 3), (100, .iload_n 3, 1), (101, .ineg, 1), (102, .goto 4, 3), (105, .iload_n 3, 1), (106, .putfield 22, 3), (109, .iconst 1, 1), (110, .ireturn, 1)]
def qo_13 : List qOp := [(3, 0, 0, 0, .null, []), (0, 0, 0, 0, .int 1, []), (37, 3, 4, 142, .null, []), (3, 1, 0, 0, .null, []), (3, 0, 0, 0, .null, []), (34, 3, 2, 140, .null, []), (49, 41, 1, 5, .null, [(0, 545), (0, 546), (0, 547), (0, 50)]), (0, 0, 0, 0, .int 42, []), (29, 0, 11, 0, .null, []), (0, 0, 0, 0, .int 1, []), (51, 0, 0, 0, .null, []), (3, 0, 0, 0, .null, []), (55, 0, 0, 0, .null, []), (34, 3, 2, 140, .null, []), (0, 0, 0, 0, .int 1, []), (8, 0, 0, 0, .null, []), (37, 3, 2, 140, .null, []), (3, 0, 0, 0, .null, []), (34, 3, 2, 140, .null, []), (4, 2, 0, 0, .null, []), (3, 1, 0, 0, .null, []), (3, 0, 0, 0, .null, []), (34, 3, 2, 140, .null, []), (49, 41, 1, 5, .null, [(0, 545), (0, 546), (0, 547), (0, 50)]), (48, 15, 1, 0, .null, [(0, 549), (0, 550), (0, 51)]), (28, 1, 32, 0, .null, []), (3, 0, 0, 0, .null, []), (0, 0, 0, 0, .int 1, []), (3, 0, 0, 0, .null, []), (34, 3, 2, 140, .null, []), (49, 16, 2, 3, .null, [(0, 552), (0, 554), (0, 14), (0, 51)]), (51, 0, 0, 0, .null, []), (3, 0, 0, 0, .null, []), (3, 0, 0, 0, .null, []), (3, 1, 0, 0, .null, []), (0, 0, 0, 0, .int 2, []), (49, 14, 2, 3, .null, [(0, 556), (0, 558), (0, 15), (0, 51)]), (37, 3, 4, 142, .null, []), (3, 0, 0, 0, .null, []), (34, 3, 4, 142, .null, []), (0, 0, 0, 0, .int 1, []), (29, 2, 46, 0, .null, []), (3, 0, 0, 0, .null, []), (34, 3, 4, 142, .null, []), (0, 0, 0, 0, .int 64, []), (29, 5, 51, 0, .null, []), (3, 0, 0, 0, .null, []), (0, 0, 0, 0, .int 2, []), (1, 2, 0, 0, .null, []), (49, 16, 2, 3, .null, [(0, 552), (0, 554), (0, 14), (0, 51)]), (51, 0, 0, 0, .null, []), (0, 0, 0, 0, .int 1, []), (51, 0, 0, 0, .null, [])]
def qr_13 : List qRow := [(0, .aload_n 0, 1), (1, .iconst 1, 1), (2, .putfield 25, 3), (5, .aload_n 1, 1), (6, .aload_n 0, 1), (7, .getfield 19, 3), (10, .invokevirtual 50, 3), (13, .bipush 42, 2), (15, .if_icmp .eq 5, 3), (18, .iconst 1, 1), (19, .ireturn, 1), (20, .aload_n 0, 1), (21, .dup, 1), (22, .getfield 19, 3), (25, .iconst 1, 1), (26, .iadd, 1), (27, .putfield 19, 3), (30, .aload_n 0, 1), (31, .getfield 19, 3), (34, .istore_n 2, 1), (35, .aload_n 1, 1), (36, .aload_n 0, 1), (37, .getfield 19, 3), (40, .invokevirtual 50, 3), (43, .invokestatic 63, 3), (46, .ifCond .ne 13, 3), (49, .aload_n 0, 1), (50, .iconst 1, 1), (51, .aload_n 0, 1), (52, .getfield 19, 3), (55, .invokevirtual 54, 3), (58, .ireturn, 1), (59, .aload_n 0, 1), (60, .aload_n 0, 1), (61, .aload_n 1, 1), (62, .iconst 2, 1), (63, .invokevirtual 67, 3), (66, .putfield 25, 3), (69, .aload_n 0, 1), (70, .getfield 25, 3), (73, .iconst 1, 1), (74, .if_icmp .lt 12, 3), (77, .aload_n 0, 1), (78, .getfield 25, 3), (81, .bipush 64, 2), (83, .if_icmp .le 10, 3), (86, .aload_n 0, 1), (87, .iconst 2, 1), (88, .iload_n 2, 1), (89, .invokevirtual 54, 3), (92, .ireturn, 1), (93, .iconst 1, 1), (94, .ireturn, 1)]
def qo_14 : List qOp := [(0, 0, 0, 0, .int 0, []), (4, 3, 0, 0, .null, []), (0, 0, 0, 0, .int 0, []), (4, 4, 0, 0, .null, []), (1, 4, 0, 0, .null, []), (1, 2, 0, 0, .null, []), (29, 3, 32, 0, .null, []), (3, 1, 0, 0, .null, []), (3, 0, 0, 0, .null, []), (34, 3, 2, 140, .null, []), (49, 41, 1, 5, .null, [(0, 545), (0, 546), (0, 547), (0, 50)]), (48, 15, 1, 0, .null, [(0, 549), (0, 550), (0, 51)]), (28, 0, 32, 0, .null, []), (0, 0, 0, 0, .int 10, []), (1, 3, 0, 0, .null, []), (10, 0, 0, 0, .null, []), (3, 1, 0, 0, .null, []), (3, 0, 0, 0, .null, []), (34, 3, 2, 140, .null, []), (49, 41, 1, 5, .null, [(0, 545), (0, 546), (0, 547), (0, 50)]), (0, 0, 0, 0, .int 48, []), (9, 0, 0, 0, .null, []), (8, 0, 0, 0, .null, []), (4, 3, 0, 0, .null, []), (3, 0, 0, 0, .null, []), (55, 0, 0, 0, .null, []), (34, 3, 2, 140, .null, []), (0, 0, 0, 0, .int 1, []), (8, 0, 0, 0, .null, []), (37, 3, 2, 140, .null, []), (7, 4, 0, 0, .int 1, []), (32, 0, 4, 0, .null, []), (1, 3, 0, 0, .null, []), (50, 0, 0, 0, .null, [])]
def qr_14 : List qRow := [(0, .iconst 0, 1), (1, .istore_n 3, 1), (2, .iconst 0, 1), (3, .istore 4, 2), (5, .iload 4, 2), (7, .iload_n 2, 1), (8, .if_icmp .ge 50, 3), (11, .aload_n 1, 1), (12, .aload_n 0, 1), (13, .getfield 19, 3), (16, .invokevirtual 50, 3), (19, .invokestatic 63, 3), (22, .ifCond .eq 36, 3), (25, .bipush 10, 2), (27, .iload_n 3, 1), (28, .imul, 1), (29, .aload_n 1, 1), (30, .aload_n 0, 1), (31, .getfield 19, 3), (34, .invokevirtual 50, 3), (37, .bipush 48, 2), (39, .isub, 1), (40, .iadd, 1), (41, .istore_n 3, 1), (42, .aload_n 0, 1), (43, .dup, 1), (44, .getfield 19, 3), (47, .iconst 1, 1), (48, .iadd, 1), (49, .putfield 19, 3), (52, .iinc 4 1, 3), (55, .goto (-50), 3), (58, .iload_n 3, 1), (59, .ireturn, 1)]
def qo_15 : List qOp := [(1, 0, 0, 0, .null, []), (0, 0, 0, 0, .int 48, []), (29, 2, 8, 0, .null, []), (1, 0, 0, 0, .null, []), (0, 0, 0, 0, .int 57, []), (29, 4, 8, 0, .null, []), (0, 0, 0, 0, .int 1, []), (32, 0, 9, 0, .null, []), (0, 0, 0, 0, .int 0, []), (51, 0, 0, 0, .null, [])]
def qr_15 : List qRow := [(0, .iload_n 0, 1), (1, .bipush 48, 2), (3, .if_icmp .lt 13, 3), (6, .iload_n 0, 1), (7, .bipush 57, 2), (9, .if_icmp .gt 7, 3), (12, .iconst 1, 1), (13, .goto 4, 3), (16, .iconst 0, 1), (17, .ireturn, 1)]
def qo_16 : List qOp := [(3, 0, 0, 0, .null, []), (1, 1, 0, 0, .null, []), (37, 3, 0, 136, .null, []), (3, 0, 0, 0, .null, []), (1, 2, 0, 0, .null, []), (37, 3, 1, 138, .null, []), (0, 0, 0, 0, .int 0, []), (51, 0, 0, 0, .null, [])]
def qr_16 : List qRow := [(0, .aload_n 0, 1), (1, .iload_n 1, 1), (2, .putfield 10, 3), (5, .aload_n 0, 1), (6, .iload_n 2, 1), (7, .putfield 16, 3), (10, .iconst 0, 1), (11, .ireturn, 1)]
def qo_17 : List qOp := [(3, 0, 0, 0, .null, []), (34, 4, 1, 71, .null, []), (50, 0, 0, 0, .null, [])]
def qr_17 : List qRow := [(0, .aload_n 0, 1), (1, .getfield 15, 3), (4, .ireturn, 1)]
def qo_18 : List qOp := [(1, 1, 0, 0, .null, []), (28, 2, 8, 0, .null, []), (1, 1, 0, 0, .null, []), (3, 0, 0, 0, .null, []), (34, 4, 1, 71, .null, []), (29, 3, 8, 0, .null, []), (0, 0, 0, 0, .int 1, []), (32, 0, 9, 0, .null, []), (0, 0, 0, 0, .int 0, []), (51, 0, 0, 0, .null, [])]
def qr_18 : List qRow := [(0, .iload_n 1, 1), (1, .ifCond .lt 15, 3), (4, .iload_n 1, 1), (5, .aload_n 0, 1), (6, .getfield 15, 3), (9, .if_icmp .ge 7, 3), (12, .iconst 1, 1), (13, .goto 4, 3), (16, .iconst 0, 1), (17, .ireturn, 1)]
def qo_19 : List qOp := [(3, 0, 0, 0, .null, []), (1, 1, 0, 0, .null, []), (49, 20, 1, 4, .null, [(0, 229), (0, 230), (0, 231), (0, 47)]), (0, 233, 0, 0, .int (-1000000001), []), (29, 0, 7, 0, .null, []), (0, 0, 0, 0, .int 1, []), (32, 0, 8, 0, .null, []), (0, 0, 0, 0, .int 0, []), (51, 0, 0, 0, .null, [])]
def qr_19 : List qRow := [(0, .aload_n 0, 1), (1, .iload_n 1, 1), (2, .invokevirtual 19, 3), (5, .ldc 23, 2), (7, .if_icmp .eq 7, 3), (10, .iconst 1, 1), (11, .goto 4, 3), (14, .iconst 0, 1), (15, .ireturn, 1)]
def qo_20 : List qOp := [(1, 1, 0, 0, .null, []), (28, 2, 11, 0, .null, []), (1, 1, 0, 0, .null, []), (3, 0, 0, 0, .null, []), (34, 4, 1, 71, .null, []), (29, 3, 11, 0, .null, []), (1, 1, 0, 0, .null, []), (3, 0, 0, 0, .null, []), (36, 4, 0, 70, .null, []), (40, 0, 0, 0, .null, []), (29, 2, 13, 0, .null, []), (0, 233, 0, 0, .int (-1000000001), []), (50, 0, 0, 0, .null, []), (3, 0, 0, 0, .null, []), (36, 4, 0, 70, .null, []), (1, 1, 0, 0, .null, []), (41, 0, 0, 0, .null, []), (50, 0, 0, 0, .null, [])]
def qr_20 : List qRow := [(0, .iload_n 1, 1), (1, .ifCond .lt 20, 3), (4, .iload_n 1, 1), (5, .aload_n 0, 1), (6, .getfield 15, 3), (9, .if_icmp .ge 12, 3), (12, .iload_n 1, 1), (13, .aload_n 0, 1), (14, .getfield 9, 3), (17, .arraylength, 1), (18, .if_icmp .lt 6, 3), (21, .ldc 23, 2), (23, .ireturn, 1), (24, .aload_n 0, 1), (25, .getfield 9, 3), (28, .iload_n 1, 1), (29, .iaload, 1), (30, .ireturn, 1)]
def qo_21 : List qOp := [(1, 1, 0, 0, .null, []), (28, 2, 16, 0, .null, []), (1, 1, 0, 0, .null, []), (3, 0, 0, 0, .null, []), (34, 4, 1, 71, .null, []), (29, 3, 16, 0, .null, []), (1, 1, 0, 0, .null, []), (3, 0, 0, 0, .null, []), (36, 4, 0, 70, .null, []), (40, 0, 0, 0, .null, []), (29, 3, 16, 0, .null, []), (3, 0, 0, 0, .null, []), (36, 4, 0, 70, .null, []), (1, 1, 0, 0, .null, []), (1, 2, 0, 0, .null, []), (45, 0, 0, 0, .null, []), (54, 0, 0, 0, .null, [])]
def qr_21 : List qRow := [(0, .iload_n 1, 1), (1, .ifCond .lt 27, 3), (4, .iload_n 1, 1), (5, .aload_n 0, 1), (6, .getfield 15, 3), (9, .if_icmp .ge 19, 3), (12, .iload_n 1, 1), (13, .aload_n 0, 1), (14, .getfield 9, 3), (17, .arraylength, 1), (18, .if_icmp .ge 10, 3), (21, .aload_n 0, 1), (22, .getfield 9, 3), (25, .iload_n 1, 1), (26, .iload_n 2, 1), (27, .iastore, 1), (28, .return_, 1)]
def qo_22 : List qOp := [(3, 0, 0, 0, .null, []), (34, 4, 1, 71, .null, []), (28, 2, 21, 0, .null, []), (3, 0, 0, 0, .null, []), (34, 4, 1, 71, .null, []), (3, 0, 0, 0, .null, []), (36, 4, 0, 70, .null, []), (40, 0, 0, 0, .null, []), (29, 3, 21, 0, .null, []), (3, 0, 0, 0, .null, []), (36, 4, 0, 70, .null, []), (3, 0, 0, 0, .null, []), (34, 4, 1, 71, .null, []), (1, 1, 0, 0, .null, []), (45, 0, 0, 0, .null, []), (3, 0, 0, 0, .null, []), (55, 0, 0, 0, .null, []), (34, 4, 1, 71, .null, []), (0, 0, 0, 0, .int 1, []), (8, 0, 0, 0, .null, []), (37, 4, 1, 71, .null, []), (54, 0, 0, 0, .null, [])]
def qr_22 : List qRow := [(0, .aload_n 0, 1), (1, .getfield 15, 3), (4, .ifCond .lt 35, 3), (7, .aload_n 0, 1), (8, .getfield 15, 3), (11, .aload_n 0, 1), (12, .getfield 9, 3), (15, .arraylength, 1), (16, .if_icmp .ge 23, 3), (19, .aload_n 0, 1), (20, .getfield 9, 3), (23, .aload_n 0, 1), (24, .getfield 15, 3), (27, .iload_n 1, 1), (28, .iastore, 1), (29, .aload_n 0, 1), (30, .dup, 1), (31, .getfield 15, 3), (34, .iconst 1, 1), (35, .iadd, 1), (36, .putfield 15, 3), (39, .return_, 1)]
def qo_23 : List qOp := [(0, 0, 0, 0, .int 0, []), (4, 3, 0, 0, .null, []), (1, 3, 0, 0, .null, []), (1, 2, 0, 0, .null, []), (29, 3, 10, 0, .null, []), (3, 0, 0, 0, .null, []), (1, 1, 0, 0, .null, []), (49, 22, 1, 4, .null, [(0, 234), (0, 235), (0, 236), (0, 47)]), (7, 3, 0, 0, .int 1, []), (32, 0, 2, 0, .null, []), (54, 0, 0, 0, .null, [])]
def qr_23 : List qRow := [(0, .iconst 0, 1), (1, .istore_n 3, 1), (2, .iload_n 3, 1), (3, .iload_n 2, 1), (4, .if_icmp .ge 14, 3), (7, .aload_n 0, 1), (8, .iload_n 1, 1), (9, .invokevirtual 24, 3), (12, .iinc 3 1, 3), (15, .goto (-13), 3), (18, .return_, 1)]
def qo_24 : List qOp := [(3, 0, 0, 0, .null, []), (0, 0, 0, 0, .int 0, []), (37, 4, 1, 71, .null, []), (54, 0, 0, 0, .null, [])]
def qr_24 : List qRow := [(0, .aload_n 0, 1), (1, .iconst 0, 1), (2, .putfield 15, 3), (5, .return_, 1)]
def qo_25 : List qOp := [(3, 0, 0, 0, .null, []), (49, 24, 0, 4, .null, [(0, 224), (0, 225), (0, 226), (0, 47)]), (0, 0, 0, 0, .int 0, []), (4, 2, 0, 0, .null, []), (1, 2, 0, 0, .null, []), (3, 1, 0, 0, .null, []), (49, 17, 0, 4, .null, [(0, 228), (0, 208), (0, 209), (0, 47)]), (29, 3, 15, 0, .null, []), (3, 0, 0, 0, .null, []), (3, 1, 0, 0, .null, []), (1, 2, 0, 0, .null, []), (49, 20, 1, 4, .null, [(0, 229), (0, 230), (0, 231), (0, 47)]), (49, 22, 1, 4, .null, [(0, 234), (0, 235), (0, 236), (0, 47)]), (7, 2, 0, 0, .int 1, []), (32, 0, 4, 0, .null, []), (54, 0, 0, 0, .null, [])]
def qr_25 : List qRow := [(0, .aload_n 0, 1), (1, .invokevirtual 28, 3), (4, .iconst 0, 1), (5, .istore_n 2, 1), (6, .iload_n 2, 1), (7, .aload_n 1, 1), (8, .invokevirtual 31, 3), (11, .if_icmp .ge 18, 3), (14, .aload_n 0, 1), (15, .aload_n 1, 1), (16, .iload_n 2, 1), (17, .invokevirtual 19, 3), (20, .invokevirtual 24, 3), (23, .iinc 2 1, 3), (26, .goto (-20), 3), (29, .return_, 1)]
def qo_26 : List qOp := [(0, 0, 0, 0, .int 0, []), (4, 1, 0, 0, .null, []), (0, 0, 0, 0, .int 0, []), (4, 2, 0, 0, .null, []), (1, 2, 0, 0, .null, []), (3, 0, 0, 0, .null, []), (34, 4, 1, 71, .null, []), (29, 3, 15, 0, .null, []), (3, 0, 0, 0, .null, []), (1, 2, 0, 0, .null, []), (49, 19, 1, 4, .null, [(0, 279), (0, 271), (0, 272), (0, 47)]), (28, 0, 13, 0, .null, []), (7, 1, 0, 0, .int 1, []), (7, 2, 0, 0, .int 1, []), (32, 0, 4, 0, .null, []), (1, 1, 0, 0, .null, []), (50, 0, 0, 0, .null, [])]
def qr_26 : List qRow := [(0, .iconst 0, 1), (1, .istore_n 1, 1), (2, .iconst 0, 1), (3, .istore_n 2, 1), (4, .iload_n 2, 1), (5, .aload_n 0, 1), (6, .getfield 15, 3), (9, .if_icmp .ge 20, 3), (12, .aload_n 0, 1), (13, .iload_n 2, 1), (14, .invokevirtual 34, 3), (17, .ifCond .eq 6, 3), (20, .iinc 1 1, 3), (23, .iinc 2 1, 3), (26, .goto (-22), 3), (29, .iload_n 1, 1), (30, .ireturn, 1)]
def qo_27 : List qOp := [(0, 233, 0, 0, .int (-1000000001), []), (4, 1, 0, 0, .null, []), (0, 0, 0, 0, .int 0, []), (4, 2, 0, 0, .null, []), (1, 2, 0, 0, .null, []), (3, 0, 0, 0, .null, []), (34, 4, 1, 71, .null, []), (29, 3, 26, 0, .null, []), (3, 0, 0, 0, .null, []), (1, 2, 0, 0, .null, []), (49, 19, 1, 4, .null, [(0, 279), (0, 271), (0, 272), (0, 47)]), (28, 0, 24, 0, .null, []), (1, 1, 0, 0, .null, []), (0, 233, 0, 0, .int (-1000000001), []), (29, 0, 20, 0, .null, []), (3, 0, 0, 0, .null, []), (1, 2, 0, 0, .null, []), (49, 20, 1, 4, .null, [(0, 229), (0, 230), (0, 231), (0, 47)]), (1, 1, 0, 0, .null, []), (29, 3, 24, 0, .null, []), (3, 0, 0, 0, .null, []), (1, 2, 0, 0, .null, []), (49, 20, 1, 4, .null, [(0, 229), (0, 230), (0, 231), (0, 47)]), (4, 1, 0, 0, .null, []), (7, 2, 0, 0, .int 1, []), (32, 0, 4, 0, .null, []), (1, 1, 0, 0, .null, []), (50, 0, 0, 0, .null, [])]
def qr_27 : List qRow := [(0, .ldc 23, 2), (2, .istore_n 1, 1), (3, .iconst 0, 1), (4, .istore_n 2, 1), (5, .iload_n 2, 1), (6, .aload_n 0, 1), (7, .getfield 15, 3), (10, .if_icmp .ge 38, 3), (13, .aload_n 0, 1), (14, .iload_n 2, 1), (15, .invokevirtual 34, 3), (18, .ifCond .eq 24, 3), (21, .iload_n 1, 1), (22, .ldc 23, 2), (24, .if_icmp .eq 12, 3), (27, .aload_n 0, 1), (28, .iload_n 2, 1), (29, .invokevirtual 19, 3), (32, .iload_n 1, 1), (33, .if_icmp .ge 9, 3), (36, .aload_n 0, 1), (37, .iload_n 2, 1), (38, .invokevirtual 19, 3), (41, .istore_n 1, 1), (42, .iinc 2 1, 3), (45, .goto (-40), 3), (48, .iload_n 1, 1), (49, .ireturn, 1)]
def qo_28 : List qOp := [(0, 233, 0, 0, .int (-1000000001), []), (4, 1, 0, 0, .null, []), (0, 0, 0, 0, .int 0, []), (4, 2, 0, 0, .null, []), (1, 2, 0, 0, .null, []), (3, 0, 0, 0, .null, []), (34, 4, 1, 71, .null, []), (29, 3, 16, 0, .null, []), (1, 1, 0, 0, .null, []), (3, 0, 0, 0, .null, []), (1, 2, 0, 0, .null, []), (49, 20, 1, 4, .null, [(0, 229), (0, 230), (0, 231), (0, 47)]), (48, 154, 2, 0, .null, [(0, 385), (0, 386), (0, 54)]), (4, 1, 0, 0, .null, []), (7, 2, 0, 0, .int 1, []), (32, 0, 4, 0, .null, []), (1, 1, 0, 0, .null, []), (50, 0, 0, 0, .null, [])]
def qr_28 : List qRow := [(0, .ldc 23, 2), (2, .istore_n 1, 1), (3, .iconst 0, 1), (4, .istore_n 2, 1), (5, .iload_n 2, 1), (6, .aload_n 0, 1), (7, .getfield 15, 3), (10, .if_icmp .ge 19, 3), (13, .iload_n 1, 1), (14, .aload_n 0, 1), (15, .iload_n 2, 1), (16, .invokevirtual 19, 3), (19, .invokestatic 38, 3), (22, .istore_n 1, 1), (23, .iinc 2 1, 3), (26, .goto (-21), 3), (29, .iload_n 1, 1), (30, .ireturn, 1)]
def qo_29 : List qOp := [(0, 0, 0, 0, .int 0, []), (4, 1, 0, 0, .null, []), (0, 0, 0, 0, .int 0, []), (4, 2, 0, 0, .null, []), (1, 2, 0, 0, .null, []), (3, 0, 0, 0, .null, []), (34, 4, 1, 71, .null, []), (29, 3, 15, 0, .null, []), (3, 0, 0, 0, .null, []), (1, 2, 0, 0, .null, []), (49, 31, 1, 4, .null, [(0, 392), (0, 394), (0, 8), (0, 47)]), (28, 0, 13, 0, .null, []), (7, 1, 0, 0, .int 1, []), (7, 2, 0, 0, .int 1, []), (32, 0, 4, 0, .null, []), (1, 1, 0, 0, .null, []), (50, 0, 0, 0, .null, [])]
def qr_29 : List qRow := [(0, .iconst 0, 1), (1, .istore_n 1, 1), (2, .iconst 0, 1), (3, .istore_n 2, 1), (4, .iload_n 2, 1), (5, .aload_n 0, 1), (6, .getfield 15, 3), (9, .if_icmp .ge 20, 3), (12, .aload_n 0, 1), (13, .iload_n 2, 1), (14, .invokevirtual 44, 3), (17, .ifCond .eq 6, 3), (20, .iinc 1 1, 3), (23, .iinc 2 1, 3), (26, .goto (-22), 3), (29, .iload_n 1, 1), (30, .ireturn, 1)]
def qo_30 : List qOp := [(0, 0, 0, 0, .int 0, []), (4, 1, 0, 0, .null, []), (0, 0, 0, 0, .int 0, []), (4, 2, 0, 0, .null, []), (1, 2, 0, 0, .null, []), (3, 0, 0, 0, .null, []), (34, 4, 1, 71, .null, []), (29, 3, 22, 0, .null, []), (3, 0, 0, 0, .null, []), (1, 2, 0, 0, .null, []), (49, 31, 1, 4, .null, [(0, 392), (0, 394), (0, 8), (0, 47)]), (28, 0, 20, 0, .null, []), (1, 1, 0, 0, .null, []), (3, 0, 0, 0, .null, []), (1, 2, 0, 0, .null, []), (49, 32, 1, 4, .null, [(0, 400), (0, 346), (0, 347), (0, 47)]), (1, 2, 0, 0, .null, []), (9, 0, 0, 0, .null, []), (48, 154, 2, 0, .null, [(0, 385), (0, 386), (0, 54)]), (4, 1, 0, 0, .null, []), (7, 2, 0, 0, .int 1, []), (32, 0, 4, 0, .null, []), (1, 1, 0, 0, .null, []), (50, 0, 0, 0, .null, [])]
def qr_30 : List qRow := [(0, .iconst 0, 1), (1, .istore_n 1, 1), (2, .iconst 0, 1), (3, .istore_n 2, 1), (4, .iload_n 2, 1), (5, .aload_n 0, 1), (6, .getfield 15, 3), (9, .if_icmp .ge 29, 3), (12, .aload_n 0, 1), (13, .iload_n 2, 1), (14, .invokevirtual 44, 3), (17, .ifCond .eq 15, 3), (20, .iload_n 1, 1), (21, .aload_n 0, 1), (22, .iload_n 2, 1), (23, .invokevirtual 47, 3), (26, .iload_n 2, 1), (27, .isub, 1), (28, .invokestatic 38, 3), (31, .istore_n 1, 1), (32, .iinc 2 1, 3), (35, .goto (-31), 3), (38, .iload_n 1, 1), (39, .ireturn, 1)]
def qo_31 : List qOp := [(3, 0, 0, 0, .null, []), (1, 1, 0, 0, .null, []), (49, 19, 1, 4, .null, [(0, 279), (0, 271), (0, 272), (0, 47)]), (28, 1, 14, 0, .null, []), (1, 1, 0, 0, .null, []), (28, 0, 12, 0, .null, []), (3, 0, 0, 0, .null, []), (1, 1, 0, 0, .null, []), (0, 0, 0, 0, .int 1, []), (9, 0, 0, 0, .null, []), (49, 19, 1, 4, .null, [(0, 279), (0, 271), (0, 272), (0, 47)]), (28, 0, 14, 0, .null, []), (0, 0, 0, 0, .int 1, []), (32, 0, 15, 0, .null, []), (0, 0, 0, 0, .int 0, []), (51, 0, 0, 0, .null, [])]
def qr_31 : List qRow := [(0, .aload_n 0, 1), (1, .iload_n 1, 1), (2, .invokevirtual 34, 3), (5, .ifCond .ne 21, 3), (8, .iload_n 1, 1), (9, .ifCond .eq 13, 3), (12, .aload_n 0, 1), (13, .iload_n 1, 1), (14, .iconst 1, 1), (15, .isub, 1), (16, .invokevirtual 34, 3), (19, .ifCond .eq 7, 3), (22, .iconst 1, 1), (23, .goto 4, 3), (26, .iconst 0, 1), (27, .ireturn, 1)]
def qo_32 : List qOp := [(1, 1, 0, 0, .null, []), (4, 2, 0, 0, .null, []), (1, 2, 0, 0, .null, []), (3, 0, 0, 0, .null, []), (34, 4, 1, 71, .null, []), (29, 3, 12, 0, .null, []), (3, 0, 0, 0, .null, []), (1, 2, 0, 0, .null, []), (49, 19, 1, 4, .null, [(0, 279), (0, 271), (0, 272), (0, 47)]), (28, 1, 12, 0, .null, []), (7, 2, 0, 0, .int 1, []), (32, 0, 2, 0, .null, []), (1, 2, 0, 0, .null, []), (50, 0, 0, 0, .null, [])]
def qr_32 : List qRow := [(0, .iload_n 1, 1), (1, .istore_n 2, 1), (2, .iload_n 2, 1), (3, .aload_n 0, 1), (4, .getfield 15, 3), (7, .if_icmp .ge 17, 3), (10, .aload_n 0, 1), (11, .iload_n 2, 1), (12, .invokevirtual 34, 3), (15, .ifCond .ne 9, 3), (18, .iinc 2 1, 3), (21, .goto (-19), 3), (24, .iload_n 2, 1), (25, .ireturn, 1)]
def qo_33 : List qOp := [(3, 0, 0, 0, .null, []), (1, 1, 0, 0, .null, []), (49, 19, 1, 4, .null, [(0, 279), (0, 271), (0, 272), (0, 47)]), (28, 0, 11, 0, .null, []), (3, 0, 0, 0, .null, []), (1, 2, 0, 0, .null, []), (49, 19, 1, 4, .null, [(0, 279), (0, 271), (0, 272), (0, 47)]), (28, 0, 11, 0, .null, []), (1, 2, 0, 0, .null, []), (1, 1, 0, 0, .null, []), (29, 4, 13, 0, .null, []), (0, 0, 0, 0, .long 0, []), (52, 0, 0, 0, .null, []), (3, 0, 0, 0, .null, []), (1, 2, 0, 0, .null, []), (49, 20, 1, 4, .null, [(0, 229), (0, 230), (0, 231), (0, 47)]), (3, 0, 0, 0, .null, []), (1, 1, 0, 0, .null, []), (49, 20, 1, 4, .null, [(0, 229), (0, 230), (0, 231), (0, 47)]), (9, 0, 0, 0, .null, []), (26, 0, 0, 0, .null, []), (5, 4, 0, 0, .null, []), (3, 0, 0, 0, .null, []), (1, 1, 0, 0, .null, []), (49, 20, 1, 4, .null, [(0, 229), (0, 230), (0, 231), (0, 47)]), (26, 0, 0, 0, .null, []), (2, 4, 0, 0, .null, []), (1, 3, 0, 0, .null, []), (1, 1, 0, 0, .null, []), (9, 0, 0, 0, .null, []), (26, 0, 0, 0, .null, []), (20, 0, 0, 0, .null, []), (1, 2, 0, 0, .null, []), (1, 1, 0, 0, .null, []), (9, 0, 0, 0, .null, []), (26, 0, 0, 0, .null, []), (48, 153, 2, 0, .null, [(0, 280), (0, 281), (0, 54)]), (18, 0, 0, 0, .null, []), (52, 0, 0, 0, .null, [])]
def qr_33 : List qRow := [(0, .aload_n 0, 1), (1, .iload_n 1, 1), (2, .invokevirtual 34, 3), (5, .ifCond .eq 16, 3), (8, .aload_n 0, 1), (9, .iload_n 2, 1), (10, .invokevirtual 34, 3), (13, .ifCond .eq 8, 3), (16, .iload_n 2, 1), (17, .iload_n 1, 1), (18, .if_icmp .gt 5, 3), (21, .lconst 0, 1), (22, .lreturn, 1), (23, .aload_n 0, 1), (24, .iload_n 2, 1), (25, .invokevirtual 19, 3), (28, .aload_n 0, 1), (29, .iload_n 1, 1), (30, .invokevirtual 19, 3), (33, .isub, 1), (34, .i2l, 1), (35, .lstore 4, 2), (37, .aload_n 0, 1), (38, .iload_n 1, 1), (39, .invokevirtual 19, 3), (42, .i2l, 1), (43, .lload 4, 2), (45, .iload_n 3, 1), (46, .iload_n 1, 1), (47, .isub, 1), (48, .i2l, 1), (49, .lmul, 1), (50, .iload_n 2, 1), (51, .iload_n 1, 1), (52, .isub, 1), (53, .i2l, 1), (54, .invokestatic 50, 3), (57, .ladd, 1), (58, .lreturn, 1)]
def qo_34 : List qOp := [(3, 0, 0, 0, .null, []), (0, 0, 0, 0, .int 2, []), (0, 0, 0, 0, .int 1, []), (1, 1, 0, 0, .null, []), (0, 0, 0, 0, .int 1, []), (9, 0, 0, 0, .null, []), (49, 36, 3, 4, .null, [(0, 304), (0, 305), (0, 306), (0, 47)]), (4, 3, 0, 0, .null, []), (1, 3, 0, 0, .null, []), (0, 233, 0, 0, .int (-1000000001), []), (29, 0, 23, 0, .null, []), (1, 3, 0, 0, .null, []), (0, 0, 0, 0, .int 2, []), (1, 2, 0, 0, .null, []), (10, 0, 0, 0, .null, []), (29, 4, 21, 0, .null, []), (1, 3, 0, 0, .null, []), (0, 0, 0, 0, .int (-2), []), (1, 2, 0, 0, .null, []), (10, 0, 0, 0, .null, []), (29, 3, 23, 0, .null, []), (0, 0, 0, 0, .int 1, []), (32, 0, 24, 0, .null, []), (0, 0, 0, 0, .int 0, []), (51, 0, 0, 0, .null, [])]
def qr_34 : List qRow := [(0, .aload_n 0, 1), (1, .iconst 2, 1), (2, .iconst 1, 1), (3, .iload_n 1, 1), (4, .iconst 1, 1), (5, .isub, 1), (6, .invokevirtual 54, 3), (9, .istore_n 3, 1), (10, .iload_n 3, 1), (11, .ldc 23, 2), (13, .if_icmp .eq 22, 3), (16, .iload_n 3, 1), (17, .iconst 2, 1), (18, .iload_n 2, 1), (19, .imul, 1), (20, .if_icmp .gt 11, 3), (23, .iload_n 3, 1), (24, .bipush (-2), 2), (26, .iload_n 2, 1), (27, .imul, 1), (28, .if_icmp .ge 7, 3), (31, .iconst 1, 1), (32, .goto 4, 3), (35, .iconst 0, 1), (36, .ireturn, 1)]
def qo_35 : List qOp := [(0, 0, 0, 0, .int 0, []), (4, 3, 0, 0, .null, []), (0, 0, 0, 0, .int 0, []), (4, 4, 0, 0, .null, []), (1, 4, 0, 0, .null, []), (3, 0, 0, 0, .null, []), (34, 4, 1, 71, .null, []), (29, 3, 18, 0, .null, []), (3, 0, 0, 0, .null, []), (1, 1, 0, 0, .null, []), (1, 2, 0, 0, .null, []), (1, 4, 0, 0, .null, []), (49, 36, 3, 4, .null, [(0, 304), (0, 305), (0, 306), (0, 47)]), (0, 233, 0, 0, .int (-1000000001), []), (29, 0, 16, 0, .null, []), (7, 3, 0, 0, .int 1, []), (7, 4, 0, 0, .int 1, []), (32, 0, 4, 0, .null, []), (1, 3, 0, 0, .null, []), (50, 0, 0, 0, .null, [])]
def qr_35 : List qRow := [(0, .iconst 0, 1), (1, .istore_n 3, 1), (2, .iconst 0, 1), (3, .istore 4, 2), (5, .iload 4, 2), (7, .aload_n 0, 1), (8, .getfield 15, 3), (11, .if_icmp .ge 25, 3), (14, .aload_n 0, 1), (15, .iload_n 1, 1), (16, .iload_n 2, 1), (17, .iload 4, 2), (19, .invokevirtual 54, 3), (22, .ldc 23, 2), (24, .if_icmp .eq 6, 3), (27, .iinc 3 1, 3), (30, .iinc 4 1, 3), (33, .goto (-28), 3), (36, .iload_n 3, 1), (37, .ireturn, 1)]
def qo_36 : List qOp := [(3, 0, 0, 0, .null, []), (1, 3, 0, 0, .null, []), (49, 18, 1, 4, .null, [(0, 308), (0, 253), (0, 254), (0, 47)]), (28, 1, 6, 0, .null, []), (0, 233, 0, 0, .int (-1000000001), []), (50, 0, 0, 0, .null, []), (1, 1, 0, 0, .null, []), (0, 0, 0, 0, .int 2, []), (29, 1, 14, 0, .null, []), (3, 0, 0, 0, .null, []), (1, 2, 0, 0, .null, []), (1, 3, 0, 0, .null, []), (49, 37, 2, 4, .null, [(0, 309), (0, 311), (0, 3), (0, 47)]), (50, 0, 0, 0, .null, []), (1, 1, 0, 0, .null, []), (0, 0, 0, 0, .int 3, []), (29, 1, 22, 0, .null, []), (3, 0, 0, 0, .null, []), (1, 2, 0, 0, .null, []), (1, 3, 0, 0, .null, []), (49, 38, 2, 4, .null, [(0, 313), (0, 315), (0, 4), (0, 47)]), (32, 0, 26, 0, .null, []), (3, 0, 0, 0, .null, []), (1, 2, 0, 0, .null, []), (1, 3, 0, 0, .null, []), (49, 39, 2, 4, .null, [(0, 317), (0, 319), (0, 5), (0, 47)]), (50, 0, 0, 0, .null, [])]
def qr_36 : List qRow := [(0, .aload_n 0, 1), (1, .iload_n 3, 1), (2, .invokevirtual 58, 3), (5, .ifCond .ne 6, 3), (8, .ldc 23, 2), (10, .ireturn, 1), (11, .iload_n 1, 1), (12, .iconst 2, 1), (13, .if_icmp .ne 10, 3), (16, .aload_n 0, 1), (17, .iload_n 2, 1), (18, .iload_n 3, 1), (19, .invokevirtual 61, 3), (22, .ireturn, 1), (23, .iload_n 1, 1), (24, .iconst 3, 1), (25, .if_icmp .ne 12, 3), (28, .aload_n 0, 1), (29, .iload_n 2, 1), (30, .iload_n 3, 1), (31, .invokevirtual 64, 3), (34, .goto 9, 3), (37, .aload_n 0, 1), (38, .iload_n 2, 1), (39, .iload_n 3, 1), (40, .invokevirtual 67, 3), (43, .ireturn, 1)]
def qo_37 : List qOp := [(3, 0, 0, 0, .null, []), (1, 2, 0, 0, .null, []), (49, 20, 1, 4, .null, [(0, 229), (0, 230), (0, 231), (0, 47)]), (4, 3, 0, 0, .null, []), (3, 0, 0, 0, .null, []), (1, 2, 0, 0, .null, []), (1, 1, 0, 0, .null, []), (8, 0, 0, 0, .null, []), (49, 20, 1, 4, .null, [(0, 229), (0, 230), (0, 231), (0, 47)]), (4, 4, 0, 0, .null, []), (3, 0, 0, 0, .null, []), (1, 2, 0, 0, .null, []), (0, 0, 0, 0, .int 2, []), (1, 1, 0, 0, .null, []), (10, 0, 0, 0, .null, []), (8, 0, 0, 0, .null, []), (49, 20, 1, 4, .null, [(0, 229), (0, 230), (0, 231), (0, 47)]), (4, 5, 0, 0, .null, []), (1, 3, 0, 0, .null, []), (0, 233, 0, 0, .int (-1000000001), []), (29, 0, 27, 0, .null, []), (1, 4, 0, 0, .null, []), (0, 233, 0, 0, .int (-1000000001), []), (29, 0, 27, 0, .null, []), (1, 5, 0, 0, .null, []), (0, 233, 0, 0, .int (-1000000001), []), (29, 1, 29, 0, .null, []), (0, 233, 0, 0, .int (-1000000001), []), (50, 0, 0, 0, .null, []), (1, 5, 0, 0, .null, []), (0, 0, 0, 0, .int 2, []), (1, 4, 0, 0, .null, []), (10, 0, 0, 0, .null, []), (9, 0, 0, 0, .null, []), (1, 3, 0, 0, .null, []), (8, 0, 0, 0, .null, []), (50, 0, 0, 0, .null, [])]
def qr_37 : List qRow := [(0, .aload_n 0, 1), (1, .iload_n 2, 1), (2, .invokevirtual 19, 3), (5, .istore_n 3, 1), (6, .aload_n 0, 1), (7, .iload_n 2, 1), (8, .iload_n 1, 1), (9, .iadd, 1), (10, .invokevirtual 19, 3), (13, .istore 4, 2), (15, .aload_n 0, 1), (16, .iload_n 2, 1), (17, .iconst 2, 1), (18, .iload_n 1, 1), (19, .imul, 1), (20, .iadd, 1), (21, .invokevirtual 19, 3), (24, .istore 5, 2), (26, .iload_n 3, 1), (27, .ldc 23, 2), (29, .if_icmp .eq 17, 3), (32, .iload 4, 2), (34, .ldc 23, 2), (36, .if_icmp .eq 10, 3), (39, .iload 5, 2), (41, .ldc 23, 2), (43, .if_icmp .ne 6, 3), (46, .ldc 23, 2), (48, .ireturn, 1), (49, .iload 5, 2), (51, .iconst 2, 1), (52, .iload 4, 2), (54, .imul, 1), (55, .isub, 1), (56, .iload_n 3, 1), (57, .iadd, 1), (58, .ireturn, 1)]
def qo_38 : List qOp := [(3, 0, 0, 0, .null, []), (1, 2, 0, 0, .null, []), (49, 20, 1, 4, .null, [(0, 229), (0, 230), (0, 231), (0, 47)]), (4, 3, 0, 0, .null, []), (3, 0, 0, 0, .null, []), (1, 2, 0, 0, .null, []), (1, 1, 0, 0, .null, []), (8, 0, 0, 0, .null, []), (49, 20, 1, 4, .null, [(0, 229), (0, 230), (0, 231), (0, 47)]), (4, 4, 0, 0, .null, []), (3, 0, 0, 0, .null, []), (1, 2, 0, 0, .null, []), (0, 0, 0, 0, .int 2, []), (1, 1, 0, 0, .null, []), (10, 0, 0, 0, .null, []), (8, 0, 0, 0, .null, []), (49, 20, 1, 4, .null, [(0, 229), (0, 230), (0, 231), (0, 47)]), (4, 5, 0, 0, .null, []), (3, 0, 0, 0, .null, []), (1, 2, 0, 0, .null, []), (0, 0, 0, 0, .int 3, []), (1, 1, 0, 0, .null, []), (10, 0, 0, 0, .null, []), (8, 0, 0, 0, .null, []), (49, 20, 1, 4, .null, [(0, 229), (0, 230), (0, 231), (0, 47)]), (4, 6, 0, 0, .null, []), (1, 3, 0, 0, .null, []), (0, 233, 0, 0, .int (-1000000001), []), (29, 0, 38, 0, .null, []), (1, 4, 0, 0, .null, []), (0, 233, 0, 0, .int (-1000000001), []), (29, 0, 38, 0, .null, []), (1, 5, 0, 0, .null, []), (0, 233, 0, 0, .int (-1000000001), []), (29, 0, 38, 0, .null, []), (1, 6, 0, 0, .null, []), (0, 233, 0, 0, .int (-1000000001), []), (29, 1, 40, 0, .null, []), (0, 233, 0, 0, .int (-1000000001), []), (50, 0, 0, 0, .null, []), (1, 6, 0, 0, .null, []), (0, 0, 0, 0, .int 3, []), (1, 5, 0, 0, .null, []), (10, 0, 0, 0, .null, []), (9, 0, 0, 0, .null, []), (0, 0, 0, 0, .int 3, []), (1, 4, 0, 0, .null, []), (10, 0, 0, 0, .null, []), (8, 0, 0, 0, .null, []), (1, 3, 0, 0, .null, []), (9, 0, 0, 0, .null, []), (50, 0, 0, 0, .null, [])]
def qr_38 : List qRow := [(0, .aload_n 0, 1), (1, .iload_n 2, 1), (2, .invokevirtual 19, 3), (5, .istore_n 3, 1), (6, .aload_n 0, 1), (7, .iload_n 2, 1), (8, .iload_n 1, 1), (9, .iadd, 1), (10, .invokevirtual 19, 3), (13, .istore 4, 2), (15, .aload_n 0, 1), (16, .iload_n 2, 1), (17, .iconst 2, 1), (18, .iload_n 1, 1), (19, .imul, 1), (20, .iadd, 1), (21, .invokevirtual 19, 3), (24, .istore 5, 2), (26, .aload_n 0, 1), (27, .iload_n 2, 1), (28, .iconst 3, 1), (29, .iload_n 1, 1), (30, .imul, 1), (31, .iadd, 1), (32, .invokevirtual 19, 3), (35, .istore 6, 2), (37, .iload_n 3, 1), (38, .ldc 23, 2), (40, .if_icmp .eq 24, 3), (43, .iload 4, 2), (45, .ldc 23, 2), (47, .if_icmp .eq 17, 3), (50, .iload 5, 2), (52, .ldc 23, 2), (54, .if_icmp .eq 10, 3), (57, .iload 6, 2), (59, .ldc 23, 2), (61, .if_icmp .ne 6, 3), (64, .ldc 23, 2), (66, .ireturn, 1), (67, .iload 6, 2), (69, .iconst 3, 1), (70, .iload 5, 2), (72, .imul, 1), (73, .isub, 1), (74, .iconst 3, 1), (75, .iload 4, 2), (77, .imul, 1), (78, .iadd, 1), (79, .iload_n 3, 1), (80, .isub, 1), (81, .ireturn, 1)]
def qo_39 : List qOp := [(0, 0, 0, 0, .int 0, []), (4, 3, 0, 0, .null, []), (0, 0, 0, 0, .int 0, []), (4, 4, 0, 0, .null, []), (1, 4, 0, 0, .null, []), (1, 1, 0, 0, .null, []), (29, 3, 25, 0, .null, []), (3, 0, 0, 0, .null, []), (1, 1, 0, 0, .null, []), (1, 2, 0, 0, .null, []), (1, 4, 0, 0, .null, []), (8, 0, 0, 0, .null, []), (49, 37, 2, 4, .null, [(0, 309), (0, 311), (0, 3), (0, 47)]), (4, 5, 0, 0, .null, []), (1, 5, 0, 0, .null, []), (0, 233, 0, 0, .int (-1000000001), []), (29, 1, 19, 0, .null, []), (0, 233, 0, 0, .int (-1000000001), []), (50, 0, 0, 0, .null, []), (1, 3, 0, 0, .null, []), (1, 5, 0, 0, .null, []), (8, 0, 0, 0, .null, []), (4, 3, 0, 0, .null, []), (7, 4, 0, 0, .int 1, []), (32, 0, 4, 0, .null, []), (1, 3, 0, 0, .null, []), (50, 0, 0, 0, .null, [])]
def qr_39 : List qRow := [(0, .iconst 0, 1), (1, .istore_n 3, 1), (2, .iconst 0, 1), (3, .istore 4, 2), (5, .iload 4, 2), (7, .iload_n 1, 1), (8, .if_icmp .ge 35, 3), (11, .aload_n 0, 1), (12, .iload_n 1, 1), (13, .iload_n 2, 1), (14, .iload 4, 2), (16, .iadd, 1), (17, .invokevirtual 61, 3), (20, .istore 5, 2), (22, .iload 5, 2), (24, .ldc 23, 2), (26, .if_icmp .ne 6, 3), (29, .ldc 23, 2), (31, .ireturn, 1), (32, .iload_n 3, 1), (33, .iload 5, 2), (35, .iadd, 1), (36, .istore_n 3, 1), (37, .iinc 4 1, 3), (40, .goto (-35), 3), (43, .iload_n 3, 1), (44, .ireturn, 1)]
def qo_40 : List qOp := [(3, 0, 0, 0, .null, []), (34, 5, 1, 123, .null, []), (50, 0, 0, 0, .null, [])]
def qr_40 : List qRow := [(0, .aload_n 0, 1), (1, .getfield 15, 3), (4, .ireturn, 1)]
def qo_41 : List qOp := [(1, 1, 0, 0, .null, []), (28, 2, 11, 0, .null, []), (1, 1, 0, 0, .null, []), (3, 0, 0, 0, .null, []), (34, 5, 1, 123, .null, []), (29, 3, 11, 0, .null, []), (1, 1, 0, 0, .null, []), (3, 0, 0, 0, .null, []), (36, 5, 0, 122, .null, []), (40, 0, 0, 0, .null, []), (29, 2, 13, 0, .null, []), (0, 0, 0, 0, .int (-1), []), (50, 0, 0, 0, .null, []), (3, 0, 0, 0, .null, []), (36, 5, 0, 122, .null, []), (1, 1, 0, 0, .null, []), (41, 0, 0, 0, .null, []), (50, 0, 0, 0, .null, [])]
def qr_41 : List qRow := [(0, .iload_n 1, 1), (1, .ifCond .lt 20, 3), (4, .iload_n 1, 1), (5, .aload_n 0, 1), (6, .getfield 15, 3), (9, .if_icmp .ge 12, 3), (12, .iload_n 1, 1), (13, .aload_n 0, 1), (14, .getfield 9, 3), (17, .arraylength, 1), (18, .if_icmp .lt 5, 3), (21, .iconst (-1), 1), (22, .ireturn, 1), (23, .aload_n 0, 1), (24, .getfield 9, 3), (27, .iload_n 1, 1), (28, .iaload, 1), (29, .ireturn, 1)]
def qo_42 : List qOp := [(3, 0, 0, 0, .null, []), (34, 5, 1, 123, .null, []), (28, 2, 21, 0, .null, []), (3, 0, 0, 0, .null, []), (34, 5, 1, 123, .null, []), (3, 0, 0, 0, .null, []), (36, 5, 0, 122, .null, []), (40, 0, 0, 0, .null, []), (29, 3, 21, 0, .null, []), (3, 0, 0, 0, .null, []), (36, 5, 0, 122, .null, []), (3, 0, 0, 0, .null, []), (34, 5, 1, 123, .null, []), (1, 1, 0, 0, .null, []), (45, 0, 0, 0, .null, []), (3, 0, 0, 0, .null, []), (55, 0, 0, 0, .null, []), (34, 5, 1, 123, .null, []), (0, 0, 0, 0, .int 1, []), (8, 0, 0, 0, .null, []), (37, 5, 1, 123, .null, []), (54, 0, 0, 0, .null, [])]
def qr_42 : List qRow := [(0, .aload_n 0, 1), (1, .getfield 15, 3), (4, .ifCond .lt 35, 3), (7, .aload_n 0, 1), (8, .getfield 15, 3), (11, .aload_n 0, 1), (12, .getfield 9, 3), (15, .arraylength, 1), (16, .if_icmp .ge 23, 3), (19, .aload_n 0, 1), (20, .getfield 9, 3), (23, .aload_n 0, 1), (24, .getfield 15, 3), (27, .iload_n 1, 1), (28, .iastore, 1), (29, .aload_n 0, 1), (30, .dup, 1), (31, .getfield 15, 3), (34, .iconst 1, 1), (35, .iadd, 1), (36, .putfield 15, 3), (39, .return_, 1)]
def qo_43 : List qOp := [(3, 0, 0, 0, .null, []), (0, 0, 0, 0, .int 0, []), (37, 5, 1, 123, .null, []), (54, 0, 0, 0, .null, [])]
def qr_43 : List qRow := [(0, .aload_n 0, 1), (1, .iconst 0, 1), (2, .putfield 15, 3), (5, .return_, 1)]
def qo_44 : List qOp := [(1, 1, 0, 0, .null, []), (26, 0, 0, 0, .null, []), (48, 72, 1, 0, .null, [(0, 201), (0, 202), (0, 46)]), (28, 1, 6, 0, .null, []), (0, 206, 0, 0, .int (-1000000002), []), (50, 0, 0, 0, .null, []), (3, 0, 0, 0, .null, []), (36, 6, 0, 169, .null, []), (49, 17, 0, 4, .null, [(0, 207), (0, 208), (0, 209), (0, 47)]), (0, 0, 0, 0, .int 64, []), (29, 2, 13, 0, .null, []), (0, 211, 0, 0, .int (-1000000004), []), (50, 0, 0, 0, .null, []), (3, 0, 0, 0, .null, []), (36, 6, 3, 172, .null, []), (3, 0, 0, 0, .null, []), (36, 6, 0, 169, .null, []), (49, 7, 1, 1, .null, [(0, 212), (0, 213), (0, 214), (0, 48)]), (3, 0, 0, 0, .null, []), (36, 6, 0, 169, .null, []), (1, 1, 0, 0, .null, []), (49, 22, 1, 4, .null, [(0, 238), (0, 235), (0, 236), (0, 47)]), (3, 0, 0, 0, .null, []), (36, 6, 0, 169, .null, []), (49, 17, 0, 4, .null, [(0, 207), (0, 208), (0, 209), (0, 47)]), (0, 0, 0, 0, .int 1, []), (9, 0, 0, 0, .null, []), (50, 0, 0, 0, .null, [])]
def qr_44 : List qRow := [(0, .iload_n 1, 1), (1, .i2l, 1), (2, .invokestatic 61, 3), (5, .ifCond .ne 6, 3), (8, .ldc 65, 2), (10, .ireturn, 1), (11, .aload_n 0, 1), (12, .getfield 10, 3), (15, .invokevirtual 66, 3), (18, .bipush 64, 2), (20, .if_icmp .lt 6, 3), (23, .ldc 70, 2), (25, .ireturn, 1), (26, .aload_n 0, 1), (27, .getfield 26, 3), (30, .aload_n 0, 1), (31, .getfield 10, 3), (34, .invokevirtual 71, 3), (37, .aload_n 0, 1), (38, .getfield 10, 3), (41, .iload_n 1, 1), (42, .invokevirtual 75, 3), (45, .aload_n 0, 1), (46, .getfield 10, 3), (49, .invokevirtual 66, 3), (52, .iconst 1, 1), (53, .isub, 1), (54, .ireturn, 1)]
def qo_45 : List qOp := [(1, 1, 0, 0, .null, []), (0, 0, 0, 0, .int 1, []), (29, 2, 6, 0, .null, []), (1, 1, 0, 0, .null, []), (0, 0, 0, 0, .int 64, []), (29, 5, 8, 0, .null, []), (0, 206, 0, 0, .int (-1000000002), []), (50, 0, 0, 0, .null, []), (3, 0, 0, 0, .null, []), (36, 6, 0, 169, .null, []), (49, 17, 0, 4, .null, [(0, 207), (0, 208), (0, 209), (0, 47)]), (1, 1, 0, 0, .null, []), (8, 0, 0, 0, .null, []), (0, 0, 0, 0, .int 64, []), (29, 5, 17, 0, .null, []), (0, 211, 0, 0, .int (-1000000004), []), (50, 0, 0, 0, .null, []), (3, 0, 0, 0, .null, []), (36, 6, 3, 172, .null, []), (3, 0, 0, 0, .null, []), (36, 6, 0, 169, .null, []), (49, 7, 1, 1, .null, [(0, 212), (0, 213), (0, 214), (0, 48)]), (3, 0, 0, 0, .null, []), (36, 6, 0, 169, .null, []), (0, 243, 0, 0, .int (-1000000001), []), (1, 1, 0, 0, .null, []), (49, 23, 2, 4, .null, [(0, 244), (0, 245), (0, 246), (0, 47)]), (3, 0, 0, 0, .null, []), (36, 6, 0, 169, .null, []), (49, 17, 0, 4, .null, [(0, 207), (0, 208), (0, 209), (0, 47)]), (50, 0, 0, 0, .null, [])]
def qr_45 : List qRow := [(0, .iload_n 1, 1), (1, .iconst 1, 1), (2, .if_icmp .lt 9, 3), (5, .iload_n 1, 1), (6, .bipush 64, 2), (8, .if_icmp .le 6, 3), (11, .ldc 65, 2), (13, .ireturn, 1), (14, .aload_n 0, 1), (15, .getfield 10, 3), (18, .invokevirtual 66, 3), (21, .iload_n 1, 1), (22, .iadd, 1), (23, .bipush 64, 2), (25, .if_icmp .le 6, 3), (28, .ldc 70, 2), (30, .ireturn, 1), (31, .aload_n 0, 1), (32, .getfield 26, 3), (35, .aload_n 0, 1), (36, .getfield 10, 3), (39, .invokevirtual 71, 3), (42, .aload_n 0, 1), (43, .getfield 10, 3), (46, .ldc 79, 2), (48, .iload_n 1, 1), (49, .invokevirtual 80, 3), (52, .aload_n 0, 1), (53, .getfield 10, 3), (56, .invokevirtual 66, 3), (59, .ireturn, 1)]
def qo_46 : List qOp := [(3, 0, 0, 0, .null, []), (36, 6, 0, 169, .null, []), (1, 1, 0, 0, .null, []), (49, 18, 1, 4, .null, [(0, 252), (0, 253), (0, 254), (0, 47)]), (28, 0, 12, 0, .null, []), (1, 2, 0, 0, .null, []), (0, 243, 0, 0, .int (-1000000001), []), (29, 0, 14, 0, .null, []), (1, 2, 0, 0, .null, []), (26, 0, 0, 0, .null, []), (48, 72, 1, 0, .null, [(0, 201), (0, 202), (0, 46)]), (28, 1, 14, 0, .null, []), (0, 206, 0, 0, .int (-1000000002), []), (50, 0, 0, 0, .null, []), (3, 0, 0, 0, .null, []), (36, 6, 0, 169, .null, []), (1, 1, 0, 0, .null, []), (49, 20, 1, 4, .null, [(0, 256), (0, 230), (0, 231), (0, 47)]), (4, 3, 0, 0, .null, []), (3, 0, 0, 0, .null, []), (36, 6, 3, 172, .null, []), (3, 0, 0, 0, .null, []), (36, 6, 0, 169, .null, []), (49, 7, 1, 1, .null, [(0, 212), (0, 213), (0, 214), (0, 48)]), (3, 0, 0, 0, .null, []), (36, 6, 0, 169, .null, []), (1, 1, 0, 0, .null, []), (1, 2, 0, 0, .null, []), (49, 21, 2, 4, .null, [(0, 257), (0, 258), (0, 259), (0, 47)]), (1, 3, 0, 0, .null, []), (50, 0, 0, 0, .null, [])]
def qr_46 : List qRow := [(0, .aload_n 0, 1), (1, .getfield 10, 3), (4, .iload_n 1, 1), (5, .invokevirtual 84, 3), (8, .ifCond .eq 17, 3), (11, .iload_n 2, 1), (12, .ldc 79, 2), (14, .if_icmp .eq 14, 3), (17, .iload_n 2, 1), (18, .i2l, 1), (19, .invokestatic 61, 3), (22, .ifCond .ne 6, 3), (25, .ldc 65, 2), (27, .ireturn, 1), (28, .aload_n 0, 1), (29, .getfield 10, 3), (32, .iload_n 1, 1), (33, .invokevirtual 88, 3), (36, .istore_n 3, 1), (37, .aload_n 0, 1), (38, .getfield 26, 3), (41, .aload_n 0, 1), (42, .getfield 10, 3), (45, .invokevirtual 71, 3), (48, .aload_n 0, 1), (49, .getfield 10, 3), (52, .iload_n 1, 1), (53, .iload_n 2, 1), (54, .invokevirtual 92, 3), (57, .iload_n 3, 1), (58, .ireturn, 1)]
def qo_47 : List qOp := [(3, 0, 0, 0, .null, []), (36, 6, 0, 169, .null, []), (49, 17, 0, 4, .null, [(0, 207), (0, 208), (0, 209), (0, 47)]), (4, 1, 0, 0, .null, []), (3, 0, 0, 0, .null, []), (36, 6, 3, 172, .null, []), (3, 0, 0, 0, .null, []), (36, 6, 0, 169, .null, []), (49, 7, 1, 1, .null, [(0, 212), (0, 213), (0, 214), (0, 48)]), (3, 0, 0, 0, .null, []), (36, 6, 0, 169, .null, []), (49, 24, 0, 4, .null, [(0, 265), (0, 225), (0, 226), (0, 47)]), (1, 1, 0, 0, .null, []), (50, 0, 0, 0, .null, [])]
def qr_47 : List qRow := [(0, .aload_n 0, 1), (1, .getfield 10, 3), (4, .invokevirtual 66, 3), (7, .istore_n 1, 1), (8, .aload_n 0, 1), (9, .getfield 26, 3), (12, .aload_n 0, 1), (13, .getfield 10, 3), (16, .invokevirtual 71, 3), (19, .aload_n 0, 1), (20, .getfield 10, 3), (23, .invokevirtual 95, 3), (26, .iload_n 1, 1), (27, .ireturn, 1)]
def qo_48 : List qOp := [(3, 0, 0, 0, .null, []), (36, 6, 0, 169, .null, []), (1, 1, 0, 0, .null, []), (49, 18, 1, 4, .null, [(0, 252), (0, 253), (0, 254), (0, 47)]), (28, 0, 13, 0, .null, []), (3, 0, 0, 0, .null, []), (36, 6, 0, 169, .null, []), (1, 2, 0, 0, .null, []), (49, 18, 1, 4, .null, [(0, 252), (0, 253), (0, 254), (0, 47)]), (28, 0, 13, 0, .null, []), (1, 2, 0, 0, .null, []), (1, 1, 0, 0, .null, []), (29, 4, 15, 0, .null, []), (0, 206, 0, 0, .int (-1000000002), []), (50, 0, 0, 0, .null, []), (3, 0, 0, 0, .null, []), (36, 6, 0, 169, .null, []), (1, 1, 0, 0, .null, []), (49, 19, 1, 4, .null, [(0, 270), (0, 271), (0, 272), (0, 47)]), (28, 0, 25, 0, .null, []), (3, 0, 0, 0, .null, []), (36, 6, 0, 169, .null, []), (1, 2, 0, 0, .null, []), (49, 19, 1, 4, .null, [(0, 270), (0, 271), (0, 272), (0, 47)]), (28, 1, 27, 0, .null, []), (0, 274, 0, 0, .int (-1000000003), []), (50, 0, 0, 0, .null, []), (0, 0, 0, 0, .int 0, []), (4, 3, 0, 0, .null, []), (1, 3, 0, 0, .null, []), (3, 0, 0, 0, .null, []), (36, 6, 2, 171, .null, []), (40, 0, 0, 0, .null, []), (29, 3, 46, 0, .null, []), (3, 0, 0, 0, .null, []), (36, 6, 2, 171, .null, []), (1, 3, 0, 0, .null, []), (3, 0, 0, 0, .null, []), (36, 6, 0, 169, .null, []), (1, 1, 0, 0, .null, []), (1, 2, 0, 0, .null, []), (1, 3, 0, 0, .null, []), (49, 33, 3, 4, .null, [(0, 275), (0, 276), (0, 277), (0, 47)]), (46, 0, 0, 0, .null, []), (7, 3, 0, 0, .int 1, []), (32, 0, 29, 0, .null, []), (3, 0, 0, 0, .null, []), (49, 78, 0, 6, .null, [(0, 283), (0, 285), (0, 1), (0, 46)]), (50, 0, 0, 0, .null, [])]
def qr_48 : List qRow := [(0, .aload_n 0, 1), (1, .getfield 10, 3), (4, .iload_n 1, 1), (5, .invokevirtual 84, 3), (8, .ifCond .eq 19, 3), (11, .aload_n 0, 1), (12, .getfield 10, 3), (15, .iload_n 2, 1), (16, .invokevirtual 84, 3), (19, .ifCond .eq 8, 3), (22, .iload_n 2, 1), (23, .iload_n 1, 1), (24, .if_icmp .gt 6, 3), (27, .ldc 65, 2), (29, .ireturn, 1), (30, .aload_n 0, 1), (31, .getfield 10, 3), (34, .iload_n 1, 1), (35, .invokevirtual 98, 3), (38, .ifCond .eq 14, 3), (41, .aload_n 0, 1), (42, .getfield 10, 3), (45, .iload_n 2, 1), (46, .invokevirtual 98, 3), (49, .ifCond .ne 6, 3), (52, .ldc 101, 2), (54, .ireturn, 1), (55, .iconst 0, 1), (56, .istore_n 3, 1), (57, .iload_n 3, 1), (58, .aload_n 0, 1), (59, .getfield 19, 3), (62, .arraylength, 1), (63, .if_icmp .ge 25, 3), (66, .aload_n 0, 1), (67, .getfield 19, 3), (70, .iload_n 3, 1), (71, .aload_n 0, 1), (72, .getfield 10, 3), (75, .iload_n 1, 1), (76, .iload_n 2, 1), (77, .iload_n 3, 1), (78, .invokevirtual 102, 3), (81, .lastore, 1), (82, .iinc 3 1, 3), (85, .goto (-28), 3), (88, .aload_n 0, 1), (89, .invokevirtual 106, 3), (92, .ireturn, 1)]
def qo_49 : List qOp := [(1, 1, 0, 0, .null, []), (0, 0, 0, 0, .int (-9999), []), (29, 2, 10, 0, .null, []), (1, 1, 0, 0, .null, []), (0, 0, 0, 0, .int 9999, []), (29, 4, 10, 0, .null, []), (1, 2, 0, 0, .null, []), (26, 0, 0, 0, .null, []), (48, 72, 1, 0, .null, [(0, 201), (0, 202), (0, 46)]), (28, 1, 12, 0, .null, []), (0, 206, 0, 0, .int (-1000000002), []), (50, 0, 0, 0, .null, []), (0, 0, 0, 0, .int 0, []), (4, 3, 0, 0, .null, []), (1, 3, 0, 0, .null, []), (3, 0, 0, 0, .null, []), (36, 6, 2, 171, .null, []), (40, 0, 0, 0, .null, []), (29, 3, 34, 0, .null, []), (3, 0, 0, 0, .null, []), (36, 6, 2, 171, .null, []), (1, 3, 0, 0, .null, []), (1, 1, 0, 0, .null, []), (26, 0, 0, 0, .null, []), (1, 3, 0, 0, .null, []), (26, 0, 0, 0, .null, []), (20, 0, 0, 0, .null, []), (1, 2, 0, 0, .null, []), (26, 0, 0, 0, .null, []), (18, 0, 0, 0, .null, []), (23, 0, 0, 0, .null, []), (46, 0, 0, 0, .null, []), (7, 3, 0, 0, .int 1, []), (32, 0, 14, 0, .null, []), (3, 0, 0, 0, .null, []), (49, 78, 0, 6, .null, [(0, 283), (0, 285), (0, 1), (0, 46)]), (50, 0, 0, 0, .null, [])]
def qr_49 : List qRow := [(0, .iload_n 1, 1), (1, .sipush (-9999), 3), (4, .if_icmp .lt 18, 3), (7, .iload_n 1, 1), (8, .sipush 9999, 3), (11, .if_icmp .gt 11, 3), (14, .iload_n 2, 1), (15, .i2l, 1), (16, .invokestatic 61, 3), (19, .ifCond .ne 6, 3), (22, .ldc 65, 2), (24, .ireturn, 1), (25, .iconst 0, 1), (26, .istore_n 3, 1), (27, .iload_n 3, 1), (28, .aload_n 0, 1), (29, .getfield 19, 3), (32, .arraylength, 1), (33, .if_icmp .ge 24, 3), (36, .aload_n 0, 1), (37, .getfield 19, 3), (40, .iload_n 3, 1), (41, .iload_n 1, 1), (42, .i2l, 1), (43, .iload_n 3, 1), (44, .i2l, 1), (45, .lmul, 1), (46, .iload_n 2, 1), (47, .i2l, 1), (48, .ladd, 1), (49, .lneg, 1), (50, .lastore, 1), (51, .iinc 3 1, 3), (54, .goto (-27), 3), (57, .aload_n 0, 1), (58, .invokevirtual 106, 3), (61, .ireturn, 1)]
def qo_50 : List qOp := [(3, 0, 0, 0, .null, []), (36, 6, 0, 169, .null, []), (0, 0, 0, 0, .int 2, []), (0, 0, 0, 0, .int 1, []), (49, 35, 2, 4, .null, [(0, 300), (0, 301), (0, 302), (0, 47)]), (4, 1, 0, 0, .null, []), (1, 1, 0, 0, .null, []), (0, 0, 0, 0, .int 1, []), (29, 3, 11, 0, .null, []), (0, 274, 0, 0, .int (-1000000003), []), (50, 0, 0, 0, .null, []), (3, 0, 0, 0, .null, []), (49, 80, 0, 6, .null, [(0, 321), (0, 323), (0, 6), (0, 46)]), (1, 1, 0, 0, .null, []), (26, 0, 0, 0, .null, []), (48, 153, 2, 0, .null, [(0, 326), (0, 281), (0, 54)]), (27, 0, 0, 0, .null, []), (4, 2, 0, 0, .null, []), (0, 0, 0, 0, .int 0, []), (4, 3, 0, 0, .null, []), (1, 3, 0, 0, .null, []), (3, 0, 0, 0, .null, []), (36, 6, 2, 171, .null, []), (40, 0, 0, 0, .null, []), (29, 3, 43, 0, .null, []), (3, 0, 0, 0, .null, []), (36, 6, 2, 171, .null, []), (1, 3, 0, 0, .null, []), (1, 2, 0, 0, .null, []), (26, 0, 0, 0, .null, []), (1, 3, 0, 0, .null, []), (26, 0, 0, 0, .null, []), (20, 0, 0, 0, .null, []), (1, 3, 0, 0, .null, []), (0, 0, 0, 0, .int 1, []), (9, 0, 0, 0, .null, []), (26, 0, 0, 0, .null, []), (20, 0, 0, 0, .null, []), (0, 327, 0, 0, .long 2, []), (21, 0, 0, 0, .null, []), (46, 0, 0, 0, .null, []), (7, 3, 0, 0, .int 1, []), (32, 0, 20, 0, .null, []), (3, 0, 0, 0, .null, []), (49, 78, 0, 6, .null, [(0, 283), (0, 285), (0, 1), (0, 46)]), (0, 291, 0, 0, .int (-1000000005), []), (29, 1, 49, 0, .null, []), (0, 291, 0, 0, .int (-1000000005), []), (32, 0, 50, 0, .null, []), (1, 2, 0, 0, .null, []), (50, 0, 0, 0, .null, [])]
def qr_50 : List qRow := [(0, .aload_n 0, 1), (1, .getfield 10, 3), (4, .iconst 2, 1), (5, .iconst 1, 1), (6, .invokevirtual 109, 3), (9, .istore_n 1, 1), (10, .iload_n 1, 1), (11, .iconst 1, 1), (12, .if_icmp .ge 6, 3), (15, .ldc 101, 2), (17, .ireturn, 1), (18, .aload_n 0, 1), (19, .invokevirtual 113, 3), (22, .iload_n 1, 1), (23, .i2l, 1), (24, .invokestatic 117, 3), (27, .l2i, 1), (28, .istore_n 2, 1), (29, .iconst 0, 1), (30, .istore_n 3, 1), (31, .iload_n 3, 1), (32, .aload_n 0, 1), (33, .getfield 19, 3), (36, .arraylength, 1), (37, .if_icmp .ge 29, 3), (40, .aload_n 0, 1), (41, .getfield 19, 3), (44, .iload_n 3, 1), (45, .iload_n 2, 1), (46, .i2l, 1), (47, .iload_n 3, 1), (48, .i2l, 1), (49, .lmul, 1), (50, .iload_n 3, 1), (51, .iconst 1, 1), (52, .isub, 1), (53, .i2l, 1), (54, .lmul, 1), (55, .ldc2_w 123, 3), (58, .ldiv, 1), (59, .lastore, 1), (60, .iinc 3 1, 3), (63, .goto (-32), 3), (66, .aload_n 0, 1), (67, .invokevirtual 106, 3), (70, .ldc 125, 2), (72, .if_icmp .ne 8, 3), (75, .ldc 125, 2), (77, .goto 4, 3), (80, .iload_n 2, 1), (81, .ireturn, 1)]
def qo_51 : List qOp := [(1, 1, 0, 0, .null, []), (48, 73, 1, 0, .null, [(0, 332), (0, 333), (0, 46)]), (28, 1, 5, 0, .null, []), (0, 206, 0, 0, .int (-1000000002), []), (50, 0, 0, 0, .null, []), (0, 0, 0, 0, .int 0, []), (4, 2, 0, 0, .null, []), (3, 0, 0, 0, .null, []), (36, 6, 1, 170, .null, []), (3, 0, 0, 0, .null, []), (36, 6, 0, 169, .null, []), (49, 25, 1, 4, .null, [(0, 336), (0, 221), (0, 222), (0, 47)]), (0, 0, 0, 0, .int 0, []), (4, 3, 0, 0, .null, []), (1, 3, 0, 0, .null, []), (3, 0, 0, 0, .null, []), (36, 6, 0, 169, .null, []), (49, 17, 0, 4, .null, [(0, 207), (0, 208), (0, 209), (0, 47)]), (29, 3, 33, 0, .null, []), (3, 0, 0, 0, .null, []), (36, 6, 0, 169, .null, []), (1, 3, 0, 0, .null, []), (1, 1, 0, 0, .null, []), (49, 34, 2, 4, .null, [(0, 337), (0, 338), (0, 339), (0, 47)]), (28, 0, 31, 0, .null, []), (3, 0, 0, 0, .null, []), (36, 6, 1, 170, .null, []), (1, 3, 0, 0, .null, []), (0, 243, 0, 0, .int (-1000000001), []), (49, 21, 2, 4, .null, [(0, 257), (0, 258), (0, 259), (0, 47)]), (7, 2, 0, 0, .int 1, []), (7, 3, 0, 0, .int 1, []), (32, 0, 14, 0, .null, []), (3, 0, 0, 0, .null, []), (36, 6, 3, 172, .null, []), (3, 0, 0, 0, .null, []), (36, 6, 0, 169, .null, []), (49, 7, 1, 1, .null, [(0, 212), (0, 213), (0, 214), (0, 48)]), (3, 0, 0, 0, .null, []), (36, 6, 0, 169, .null, []), (3, 0, 0, 0, .null, []), (36, 6, 1, 170, .null, []), (49, 25, 1, 4, .null, [(0, 336), (0, 221), (0, 222), (0, 47)]), (1, 2, 0, 0, .null, []), (50, 0, 0, 0, .null, [])]
def qr_51 : List qRow := [(0, .iload_n 1, 1), (1, .invokestatic 126, 3), (4, .ifCond .ne 6, 3), (7, .ldc 65, 2), (9, .ireturn, 1), (10, .iconst 0, 1), (11, .istore_n 2, 1), (12, .aload_n 0, 1), (13, .getfield 16, 3), (16, .aload_n 0, 1), (17, .getfield 10, 3), (20, .invokevirtual 129, 3), (23, .iconst 0, 1), (24, .istore_n 3, 1), (25, .iload_n 3, 1), (26, .aload_n 0, 1), (27, .getfield 10, 3), (30, .invokevirtual 66, 3), (33, .if_icmp .ge 34, 3), (36, .aload_n 0, 1), (37, .getfield 10, 3), (40, .iload_n 3, 1), (41, .iload_n 1, 1), (42, .invokevirtual 132, 3), (45, .ifCond .eq 16, 3), (48, .aload_n 0, 1), (49, .getfield 16, 3), (52, .iload_n 3, 1), (53, .ldc 79, 2), (55, .invokevirtual 92, 3), (58, .iinc 2 1, 3), (61, .iinc 3 1, 3), (64, .goto (-39), 3), (67, .aload_n 0, 1), (68, .getfield 26, 3), (71, .aload_n 0, 1), (72, .getfield 10, 3), (75, .invokevirtual 71, 3), (78, .aload_n 0, 1), (79, .getfield 10, 3), (82, .aload_n 0, 1), (83, .getfield 16, 3), (86, .invokevirtual 129, 3), (89, .iload_n 2, 1), (90, .ireturn, 1)]
def qo_52 : List qOp := [(1, 1, 0, 0, .null, []), (0, 0, 0, 0, .int 1, []), (29, 2, 6, 0, .null, []), (1, 1, 0, 0, .null, []), (0, 0, 0, 0, .int 64, []), (29, 5, 8, 0, .null, []), (0, 206, 0, 0, .int (-1000000002), []), (50, 0, 0, 0, .null, []), (3, 0, 0, 0, .null, []), (36, 6, 3, 172, .null, []), (3, 0, 0, 0, .null, []), (36, 6, 0, 169, .null, []), (49, 7, 1, 1, .null, [(0, 212), (0, 213), (0, 214), (0, 48)]), (0, 0, 0, 0, .int 0, []), (4, 2, 0, 0, .null, []), (0, 0, 0, 0, .int 1, []), (4, 3, 0, 0, .null, []), (1, 3, 0, 0, .null, []), (3, 0, 0, 0, .null, []), (36, 6, 0, 169, .null, []), (49, 17, 0, 4, .null, [(0, 207), (0, 208), (0, 209), (0, 47)]), (29, 3, 61, 0, .null, []), (3, 0, 0, 0, .null, []), (36, 6, 0, 169, .null, []), (1, 3, 0, 0, .null, []), (0, 0, 0, 0, .int 1, []), (9, 0, 0, 0, .null, []), (49, 19, 1, 4, .null, [(0, 270), (0, 271), (0, 272), (0, 47)]), (28, 0, 59, 0, .null, []), (3, 0, 0, 0, .null, []), (36, 6, 0, 169, .null, []), (1, 3, 0, 0, .null, []), (49, 19, 1, 4, .null, [(0, 270), (0, 271), (0, 272), (0, 47)]), (28, 1, 59, 0, .null, []), (3, 0, 0, 0, .null, []), (36, 6, 0, 169, .null, []), (1, 3, 0, 0, .null, []), (49, 32, 1, 4, .null, [(0, 345), (0, 346), (0, 347), (0, 47)]), (4, 4, 0, 0, .null, []), (1, 4, 0, 0, .null, []), (3, 0, 0, 0, .null, []), (36, 6, 0, 169, .null, []), (49, 17, 0, 4, .null, [(0, 207), (0, 208), (0, 209), (0, 47)]), (29, 3, 59, 0, .null, []), (1, 4, 0, 0, .null, []), (1, 3, 0, 0, .null, []), (9, 0, 0, 0, .null, []), (1, 1, 0, 0, .null, []), (29, 4, 59, 0, .null, []), (3, 0, 0, 0, .null, []), (1, 3, 0, 0, .null, []), (1, 4, 0, 0, .null, []), (49, 81, 2, 6, .null, [(0, 349), (0, 351), (0, 7), (0, 46)]), (1, 2, 0, 0, .null, []), (1, 4, 0, 0, .null, []), (1, 3, 0, 0, .null, []), (9, 0, 0, 0, .null, []), (8, 0, 0, 0, .null, []), (4, 2, 0, 0, .null, []), (7, 3, 0, 0, .int 1, []), (32, 0, 17, 0, .null, []), (1, 2, 0, 0, .null, []), (50, 0, 0, 0, .null, [])]
def qr_52 : List qRow := [(0, .iload_n 1, 1), (1, .iconst 1, 1), (2, .if_icmp .lt 9, 3), (5, .iload_n 1, 1), (6, .bipush 64, 2), (8, .if_icmp .le 6, 3), (11, .ldc 65, 2), (13, .ireturn, 1), (14, .aload_n 0, 1), (15, .getfield 26, 3), (18, .aload_n 0, 1), (19, .getfield 10, 3), (22, .invokevirtual 71, 3), (25, .iconst 0, 1), (26, .istore_n 2, 1), (27, .iconst 1, 1), (28, .istore_n 3, 1), (29, .iload_n 3, 1), (30, .aload_n 0, 1), (31, .getfield 10, 3), (34, .invokevirtual 66, 3), (37, .if_icmp .ge 77, 3), (40, .aload_n 0, 1), (41, .getfield 10, 3), (44, .iload_n 3, 1), (45, .iconst 1, 1), (46, .isub, 1), (47, .invokevirtual 98, 3), (50, .ifCond .eq 58, 3), (53, .aload_n 0, 1), (54, .getfield 10, 3), (57, .iload_n 3, 1), (58, .invokevirtual 98, 3), (61, .ifCond .ne 47, 3), (64, .aload_n 0, 1), (65, .getfield 10, 3), (68, .iload_n 3, 1), (69, .invokevirtual 136, 3), (72, .istore 4, 2), (74, .iload 4, 2), (76, .aload_n 0, 1), (77, .getfield 10, 3), (80, .invokevirtual 66, 3), (83, .if_icmp .ge 25, 3), (86, .iload 4, 2), (88, .iload_n 3, 1), (89, .isub, 1), (90, .iload_n 1, 1), (91, .if_icmp .gt 17, 3), (94, .aload_n 0, 1), (95, .iload_n 3, 1), (96, .iload 4, 2), (98, .invokevirtual 139, 3), (101, .iload_n 2, 1), (102, .iload 4, 2), (104, .iload_n 3, 1), (105, .isub, 1), (106, .iadd, 1), (107, .istore_n 2, 1), (108, .iinc 3 1, 3), (111, .goto (-82), 3), (114, .iload_n 2, 1), (115, .ireturn, 1)]
def qo_53 : List qOp := [(1, 1, 0, 0, .null, []), (0, 0, 0, 0, .int 1, []), (29, 2, 11, 0, .null, []), (1, 1, 0, 0, .null, []), (0, 0, 0, 0, .int 16, []), (29, 4, 11, 0, .null, []), (1, 2, 0, 0, .null, []), (28, 2, 11, 0, .null, []), (1, 2, 0, 0, .null, []), (1, 1, 0, 0, .null, []), (29, 2, 13, 0, .null, []), (0, 206, 0, 0, .int (-1000000002), []), (50, 0, 0, 0, .null, []), (3, 0, 0, 0, .null, []), (36, 6, 1, 170, .null, []), (49, 24, 0, 4, .null, [(0, 265), (0, 225), (0, 226), (0, 47)]), (1, 2, 0, 0, .null, []), (4, 3, 0, 0, .null, []), (1, 3, 0, 0, .null, []), (3, 0, 0, 0, .null, []), (36, 6, 0, 169, .null, []), (49, 17, 0, 4, .null, [(0, 207), (0, 208), (0, 209), (0, 47)]), (29, 3, 35, 0, .null, []), (3, 0, 0, 0, .null, []), (36, 6, 1, 170, .null, []), (3, 0, 0, 0, .null, []), (36, 6, 0, 169, .null, []), (1, 3, 0, 0, .null, []), (49, 20, 1, 4, .null, [(0, 256), (0, 230), (0, 231), (0, 47)]), (49, 22, 1, 4, .null, [(0, 238), (0, 235), (0, 236), (0, 47)]), (1, 3, 0, 0, .null, []), (1, 1, 0, 0, .null, []), (8, 0, 0, 0, .null, []), (4, 3, 0, 0, .null, []), (32, 0, 18, 0, .null, []), (3, 0, 0, 0, .null, []), (36, 6, 3, 172, .null, []), (3, 0, 0, 0, .null, []), (36, 6, 0, 169, .null, []), (49, 7, 1, 1, .null, [(0, 212), (0, 213), (0, 214), (0, 48)]), (3, 0, 0, 0, .null, []), (36, 6, 0, 169, .null, []), (3, 0, 0, 0, .null, []), (36, 6, 1, 170, .null, []), (49, 25, 1, 4, .null, [(0, 336), (0, 221), (0, 222), (0, 47)]), (3, 0, 0, 0, .null, []), (36, 6, 0, 169, .null, []), (49, 17, 0, 4, .null, [(0, 207), (0, 208), (0, 209), (0, 47)]), (50, 0, 0, 0, .null, [])]
def qr_53 : List qRow := [(0, .iload_n 1, 1), (1, .iconst 1, 1), (2, .if_icmp .lt 18, 3), (5, .iload_n 1, 1), (6, .bipush 16, 2), (8, .if_icmp .gt 12, 3), (11, .iload_n 2, 1), (12, .ifCond .lt 8, 3), (15, .iload_n 2, 1), (16, .iload_n 1, 1), (17, .if_icmp .lt 6, 3), (20, .ldc 65, 2), (22, .ireturn, 1), (23, .aload_n 0, 1), (24, .getfield 16, 3), (27, .invokevirtual 95, 3), (30, .iload_n 2, 1), (31, .istore_n 3, 1), (32, .iload_n 3, 1), (33, .aload_n 0, 1), (34, .getfield 10, 3), (37, .invokevirtual 66, 3), (40, .if_icmp .ge 25, 3), (43, .aload_n 0, 1), (44, .getfield 16, 3), (47, .aload_n 0, 1), (48, .getfield 10, 3), (51, .iload_n 3, 1), (52, .invokevirtual 88, 3), (55, .invokevirtual 75, 3), (58, .iload_n 3, 1), (59, .iload_n 1, 1), (60, .iadd, 1), (61, .istore_n 3, 1), (62, .goto (-30), 3), (65, .aload_n 0, 1), (66, .getfield 26, 3), (69, .aload_n 0, 1), (70, .getfield 10, 3), (73, .invokevirtual 71, 3), (76, .aload_n 0, 1), (77, .getfield 10, 3), (80, .aload_n 0, 1), (81, .getfield 16, 3), (84, .invokevirtual 129, 3), (87, .aload_n 0, 1), (88, .getfield 10, 3), (91, .invokevirtual 66, 3), (94, .ireturn, 1)]
def qo_54 : List qOp := [(3, 0, 0, 0, .null, []), (36, 6, 3, 172, .null, []), (49, 6, 0, 1, .null, [(0, 361), (0, 362), (0, 363), (0, 48)]), (28, 1, 6, 0, .null, []), (0, 274, 0, 0, .int (-1000000003), []), (50, 0, 0, 0, .null, []), (3, 0, 0, 0, .null, []), (36, 6, 3, 172, .null, []), (3, 0, 0, 0, .null, []), (36, 6, 0, 169, .null, []), (49, 8, 1, 1, .null, [(0, 365), (0, 366), (0, 367), (0, 48)]), (3, 0, 0, 0, .null, []), (36, 6, 3, 172, .null, []), (49, 6, 0, 1, .null, [(0, 361), (0, 362), (0, 363), (0, 48)]), (50, 0, 0, 0, .null, [])]
def qr_54 : List qRow := [(0, .aload_n 0, 1), (1, .getfield 26, 3), (4, .invokevirtual 142, 3), (7, .ifCond .ne 6, 3), (10, .ldc 101, 2), (12, .ireturn, 1), (13, .aload_n 0, 1), (14, .getfield 26, 3), (17, .aload_n 0, 1), (18, .getfield 10, 3), (21, .invokevirtual 145, 3), (24, .aload_n 0, 1), (25, .getfield 26, 3), (28, .invokevirtual 142, 3), (31, .ireturn, 1)]
def qo_55 : List qOp := [(1, 1, 0, 0, .null, []), (33, 0, 37, 0, .null, [(0, 2), (1, 6), (2, 10), (3, 14), (4, 18), (5, 22), (6, 26), (7, 29), (8, 33)]), (3, 0, 0, 0, .null, []), (36, 6, 0, 169, .null, []), (49, 17, 0, 4, .null, [(0, 207), (0, 208), (0, 209), (0, 47)]), (50, 0, 0, 0, .null, []), (3, 0, 0, 0, .null, []), (36, 6, 0, 169, .null, []), (49, 26, 0, 4, .null, [(0, 373), (0, 374), (0, 375), (0, 47)]), (50, 0, 0, 0, .null, []), (3, 0, 0, 0, .null, []), (36, 6, 0, 169, .null, []), (49, 27, 0, 4, .null, [(0, 377), (0, 378), (0, 379), (0, 47)]), (50, 0, 0, 0, .null, []), (3, 0, 0, 0, .null, []), (36, 6, 0, 169, .null, []), (49, 28, 0, 4, .null, [(0, 381), (0, 382), (0, 383), (0, 47)]), (50, 0, 0, 0, .null, []), (3, 0, 0, 0, .null, []), (36, 6, 0, 169, .null, []), (49, 29, 0, 4, .null, [(0, 388), (0, 389), (0, 390), (0, 47)]), (50, 0, 0, 0, .null, []), (3, 0, 0, 0, .null, []), (36, 6, 0, 169, .null, []), (49, 30, 0, 4, .null, [(0, 396), (0, 397), (0, 398), (0, 47)]), (50, 0, 0, 0, .null, []), (3, 0, 0, 0, .null, []), (49, 82, 0, 6, .null, [(0, 401), (0, 403), (0, 9), (0, 46)]), (50, 0, 0, 0, .null, []), (3, 0, 0, 0, .null, []), (36, 6, 5, 174, .null, []), (49, 40, 0, 5, .null, [(0, 405), (0, 406), (0, 407), (0, 50)]), (50, 0, 0, 0, .null, []), (3, 0, 0, 0, .null, []), (36, 6, 3, 172, .null, []), (49, 6, 0, 1, .null, [(0, 361), (0, 362), (0, 363), (0, 48)]), (50, 0, 0, 0, .null, []), (0, 206, 0, 0, .int (-1000000002), []), (50, 0, 0, 0, .null, [])]
def qr_55 : List qRow := [(0, .iload_n 1, 1), (1, .tableswitch 120 0 8 #[51, 59, 67, 75, 83, 91, 99, 104, 112], 51), (52, .aload_n 0, 1), (53, .getfield 10, 3), (56, .invokevirtual 66, 3), (59, .ireturn, 1), (60, .aload_n 0, 1), (61, .getfield 10, 3), (64, .invokevirtual 148, 3), (67, .ireturn, 1), (68, .aload_n 0, 1), (69, .getfield 10, 3), (72, .invokevirtual 151, 3), (75, .ireturn, 1), (76, .aload_n 0, 1), (77, .getfield 10, 3), (80, .invokevirtual 154, 3), (83, .ireturn, 1), (84, .aload_n 0, 1), (85, .getfield 10, 3), (88, .invokevirtual 157, 3), (91, .ireturn, 1), (92, .aload_n 0, 1), (93, .getfield 10, 3), (96, .invokevirtual 160, 3), (99, .ireturn, 1), (100, .aload_n 0, 1), (101, .invokevirtual 163, 3), (104, .ireturn, 1), (105, .aload_n 0, 1), (106, .getfield 40, 3), (109, .invokevirtual 166, 3), (112, .ireturn, 1), (113, .aload_n 0, 1), (114, .getfield 26, 3), (117, .invokevirtual 142, 3), (120, .ireturn, 1), (121, .ldc 65, 2), (123, .ireturn, 1)]
def qo_56 : List qOp := [(3, 0, 0, 0, .null, []), (36, 6, 0, 169, .null, []), (1, 1, 0, 0, .null, []), (49, 18, 1, 4, .null, [(0, 252), (0, 253), (0, 254), (0, 47)]), (28, 1, 7, 0, .null, []), (0, 206, 0, 0, .int (-1000000002), []), (50, 0, 0, 0, .null, []), (3, 0, 0, 0, .null, []), (36, 6, 0, 169, .null, []), (1, 1, 0, 0, .null, []), (49, 20, 1, 4, .null, [(0, 256), (0, 230), (0, 231), (0, 47)]), (50, 0, 0, 0, .null, [])]
def qr_56 : List qRow := [(0, .aload_n 0, 1), (1, .getfield 10, 3), (4, .iload_n 1, 1), (5, .invokevirtual 84, 3), (8, .ifCond .ne 6, 3), (11, .ldc 65, 2), (13, .ireturn, 1), (14, .aload_n 0, 1), (15, .getfield 10, 3), (18, .iload_n 1, 1), (19, .invokevirtual 88, 3), (22, .ireturn, 1)]
def qo_57 : List qOp := [(1, 1, 0, 0, .null, []), (48, 74, 1, 0, .null, [(0, 417), (0, 418), (0, 46)]), (28, 0, 8, 0, .null, []), (1, 2, 0, 0, .null, []), (48, 75, 1, 0, .null, [(0, 420), (0, 421), (0, 46)]), (28, 0, 8, 0, .null, []), (1, 3, 0, 0, .null, []), (28, 3, 10, 0, .null, []), (0, 206, 0, 0, .int (-1000000002), []), (50, 0, 0, 0, .null, []), (3, 0, 0, 0, .null, []), (36, 6, 0, 169, .null, []), (1, 1, 0, 0, .null, []), (1, 2, 0, 0, .null, []), (1, 3, 0, 0, .null, []), (49, 36, 3, 4, .null, [(0, 325), (0, 305), (0, 306), (0, 47)]), (50, 0, 0, 0, .null, [])]
def qr_57 : List qRow := [(0, .iload_n 1, 1), (1, .invokestatic 167, 3), (4, .ifCond .eq 14, 3), (7, .iload_n 2, 1), (8, .invokestatic 170, 3), (11, .ifCond .eq 7, 3), (14, .iload_n 3, 1), (15, .ifCond .ge 6, 3), (18, .ldc 65, 2), (20, .ireturn, 1), (21, .aload_n 0, 1), (22, .getfield 10, 3), (25, .iload_n 1, 1), (26, .iload_n 2, 1), (27, .iload_n 3, 1), (28, .invokevirtual 173, 3), (31, .ireturn, 1)]
def qo_58 : List qOp := [(1, 1, 0, 0, .null, []), (48, 74, 1, 0, .null, [(0, 417), (0, 418), (0, 46)]), (28, 0, 6, 0, .null, []), (1, 2, 0, 0, .null, []), (48, 75, 1, 0, .null, [(0, 420), (0, 421), (0, 46)]), (28, 1, 8, 0, .null, []), (0, 206, 0, 0, .int (-1000000002), []), (50, 0, 0, 0, .null, []), (3, 0, 0, 0, .null, []), (36, 6, 0, 169, .null, []), (1, 1, 0, 0, .null, []), (1, 2, 0, 0, .null, []), (49, 35, 2, 4, .null, [(0, 300), (0, 301), (0, 302), (0, 47)]), (50, 0, 0, 0, .null, [])]
def qr_58 : List qRow := [(0, .iload_n 1, 1), (1, .invokestatic 167, 3), (4, .ifCond .eq 10, 3), (7, .iload_n 2, 1), (8, .invokestatic 170, 3), (11, .ifCond .ne 6, 3), (14, .ldc 65, 2), (16, .ireturn, 1), (17, .aload_n 0, 1), (18, .getfield 10, 3), (21, .iload_n 1, 1), (22, .iload_n 2, 1), (23, .invokevirtual 109, 3), (26, .ireturn, 1)]
def qo_59 : List qOp := [(1, 1, 0, 0, .null, []), (48, 76, 1, 0, .null, [(0, 431), (0, 432), (0, 46)]), (28, 0, 11, 0, .null, []), (1, 2, 0, 0, .null, []), (48, 75, 1, 0, .null, [(0, 420), (0, 421), (0, 46)]), (28, 0, 11, 0, .null, []), (1, 3, 0, 0, .null, []), (28, 2, 11, 0, .null, []), (1, 3, 0, 0, .null, []), (0, 0, 0, 0, .int 1, []), (29, 5, 13, 0, .null, []), (0, 434, 0, 0, .long (-1000000002), []), (52, 0, 0, 0, .null, []), (3, 0, 0, 0, .null, []), (1, 1, 0, 0, .null, []), (1, 2, 0, 0, .null, []), (3, 0, 0, 0, .null, []), (36, 6, 7, 176, .null, []), (49, 83, 3, 6, .null, [(0, 435), (0, 437), (0, 10), (0, 46)]), (3, 0, 0, 0, .null, []), (36, 6, 7, 176, .null, []), (49, 0, 0, 0, .null, [(0, 454), (0, 455), (0, 456), (0, 52)]), (28, 1, 25, 0, .null, []), (0, 442, 0, 0, .long (-1000000001), []), (52, 0, 0, 0, .null, []), (1, 3, 0, 0, .null, []), (28, 1, 31, 0, .null, []), (3, 0, 0, 0, .null, []), (36, 6, 7, 176, .null, []), (61, 0, 0, 0, .null, []), (32, 0, 34, 0, .null, []), (3, 0, 0, 0, .null, []), (36, 6, 7, 176, .null, []), (61, 0, 1, 1, .null, []), (52, 0, 0, 0, .null, [])]
def qr_59 : List qRow := [(0, .iload_n 1, 1), (1, .invokestatic 177, 3), (4, .ifCond .eq 19, 3), (7, .iload_n 2, 1), (8, .invokestatic 170, 3), (11, .ifCond .eq 12, 3), (14, .iload_n 3, 1), (15, .ifCond .lt 8, 3), (18, .iload_n 3, 1), (19, .iconst 1, 1), (20, .if_icmp .le 7, 3), (23, .ldc2_w 180, 3), (26, .lreturn, 1), (27, .aload_n 0, 1), (28, .iload_n 1, 1), (29, .iload_n 2, 1), (30, .aload_n 0, 1), (31, .getfield 54, 3), (34, .invokevirtual 182, 3), (37, .aload_n 0, 1), (38, .getfield 54, 3), (41, .invokevirtual 186, 3), (44, .ifCond .ne 7, 3), (47, .ldc2_w 190, 3), (50, .lreturn, 1), (51, .iload_n 3, 1), (52, .ifCond .ne 13, 3), (55, .aload_n 0, 1), (56, .getfield 54, 3), (59, .getfield 192, 3), (62, .goto 10, 3), (65, .aload_n 0, 1), (66, .getfield 54, 3), (69, .getfield 196, 3), (72, .lreturn, 1)]
def qo_60 : List qOp := [(1, 1, 0, 0, .null, []), (48, 76, 1, 0, .null, [(0, 431), (0, 432), (0, 46)]), (28, 0, 6, 0, .null, []), (1, 2, 0, 0, .null, []), (48, 75, 1, 0, .null, [(0, 420), (0, 421), (0, 46)]), (28, 1, 8, 0, .null, []), (0, 434, 0, 0, .long (-1000000002), []), (52, 0, 0, 0, .null, []), (3, 0, 0, 0, .null, []), (1, 1, 0, 0, .null, []), (1, 2, 0, 0, .null, []), (3, 0, 0, 0, .null, []), (36, 6, 7, 176, .null, []), (49, 83, 3, 6, .null, [(0, 435), (0, 437), (0, 10), (0, 46)]), (3, 0, 0, 0, .null, []), (36, 6, 7, 176, .null, []), (49, 0, 0, 0, .null, [(0, 454), (0, 455), (0, 456), (0, 52)]), (28, 1, 20, 0, .null, []), (0, 442, 0, 0, .long (-1000000001), []), (52, 0, 0, 0, .null, []), (3, 0, 0, 0, .null, []), (36, 6, 7, 176, .null, []), (0, 462, 0, 0, .long 1000000, []), (49, 4, 1, 0, .null, [(0, 463), (0, 464), (0, 465), (0, 52)]), (48, 86, 1, 0, .null, [(0, 468), (0, 469), (0, 46)]), (52, 0, 0, 0, .null, [])]
def qr_60 : List qRow := [(0, .iload_n 1, 1), (1, .invokestatic 177, 3), (4, .ifCond .eq 10, 3), (7, .iload_n 2, 1), (8, .invokestatic 170, 3), (11, .ifCond .ne 7, 3), (14, .ldc2_w 180, 3), (17, .lreturn, 1), (18, .aload_n 0, 1), (19, .iload_n 1, 1), (20, .iload_n 2, 1), (21, .aload_n 0, 1), (22, .getfield 54, 3), (25, .invokevirtual 182, 3), (28, .aload_n 0, 1), (29, .getfield 54, 3), (32, .invokevirtual 186, 3), (35, .ifCond .ne 7, 3), (38, .ldc2_w 190, 3), (41, .lreturn, 1), (42, .aload_n 0, 1), (43, .getfield 54, 3), (46, .ldc2_w 199, 3), (49, .invokevirtual 201, 3), (52, .invokestatic 205, 3), (55, .lreturn, 1)]
def qo_61 : List qOp := [(1, 1, 0, 0, .null, []), (48, 76, 1, 0, .null, [(0, 431), (0, 432), (0, 46)]), (28, 0, 9, 0, .null, []), (1, 2, 0, 0, .null, []), (48, 75, 1, 0, .null, [(0, 420), (0, 421), (0, 46)]), (28, 0, 9, 0, .null, []), (1, 3, 0, 0, .null, []), (48, 75, 1, 0, .null, [(0, 420), (0, 421), (0, 46)]), (28, 1, 11, 0, .null, []), (0, 206, 0, 0, .int (-1000000002), []), (50, 0, 0, 0, .null, []), (3, 0, 0, 0, .null, []), (1, 1, 0, 0, .null, []), (1, 2, 0, 0, .null, []), (3, 0, 0, 0, .null, []), (36, 6, 7, 176, .null, []), (49, 83, 3, 6, .null, [(0, 435), (0, 437), (0, 10), (0, 46)]), (3, 0, 0, 0, .null, []), (1, 1, 0, 0, .null, []), (1, 3, 0, 0, .null, []), (3, 0, 0, 0, .null, []), (36, 6, 8, 177, .null, []), (49, 83, 3, 6, .null, [(0, 435), (0, 437), (0, 10), (0, 46)]), (3, 0, 0, 0, .null, []), (36, 6, 7, 176, .null, []), (49, 0, 0, 0, .null, [(0, 454), (0, 455), (0, 456), (0, 52)]), (28, 0, 31, 0, .null, []), (3, 0, 0, 0, .null, []), (36, 6, 8, 177, .null, []), (49, 0, 0, 0, .null, [(0, 454), (0, 455), (0, 456), (0, 52)]), (28, 1, 33, 0, .null, []), (0, 243, 0, 0, .int (-1000000001), []), (50, 0, 0, 0, .null, []), (3, 0, 0, 0, .null, []), (36, 6, 7, 176, .null, []), (0, 0, 0, 0, .long 1, []), (3, 0, 0, 0, .null, []), (36, 6, 8, 177, .null, []), (0, 0, 0, 0, .long 1, []), (49, 3, 3, 0, .null, [(0, 475), (0, 476), (0, 477), (0, 52)]), (4, 4, 0, 0, .null, []), (1, 4, 0, 0, .null, []), (28, 1, 45, 0, .null, []), (0, 0, 0, 0, .int 0, []), (50, 0, 0, 0, .null, []), (1, 4, 0, 0, .null, []), (28, 3, 49, 0, .null, []), (0, 0, 0, 0, .int 1, []), (32, 0, 50, 0, .null, []), (0, 0, 0, 0, .int 2, []), (50, 0, 0, 0, .null, [])]
def qr_61 : List qRow := [(0, .iload_n 1, 1), (1, .invokestatic 177, 3), (4, .ifCond .eq 17, 3), (7, .iload_n 2, 1), (8, .invokestatic 170, 3), (11, .ifCond .eq 10, 3), (14, .iload_n 3, 1), (15, .invokestatic 170, 3), (18, .ifCond .ne 6, 3), (21, .ldc 65, 2), (23, .ireturn, 1), (24, .aload_n 0, 1), (25, .iload_n 1, 1), (26, .iload_n 2, 1), (27, .aload_n 0, 1), (28, .getfield 54, 3), (31, .invokevirtual 182, 3), (34, .aload_n 0, 1), (35, .iload_n 1, 1), (36, .iload_n 3, 1), (37, .aload_n 0, 1), (38, .getfield 58, 3), (41, .invokevirtual 182, 3), (44, .aload_n 0, 1), (45, .getfield 54, 3), (48, .invokevirtual 186, 3), (51, .ifCond .eq 13, 3), (54, .aload_n 0, 1), (55, .getfield 58, 3), (58, .invokevirtual 186, 3), (61, .ifCond .ne 6, 3), (64, .ldc 79, 2), (66, .ireturn, 1), (67, .aload_n 0, 1), (68, .getfield 54, 3), (71, .lconst 1, 1), (72, .aload_n 0, 1), (73, .getfield 58, 3), (76, .lconst 1, 1), (77, .invokevirtual 208, 3), (80, .istore 4, 2), (82, .iload 4, 2), (84, .ifCond .ne 5, 3), (87, .iconst 0, 1), (88, .ireturn, 1), (89, .iload 4, 2), (91, .ifCond .ge 7, 3), (94, .iconst 1, 1), (95, .goto 4, 3), (98, .iconst 2, 1), (99, .ireturn, 1)]
def qo_62 : List qOp := [(1, 1, 0, 0, .null, []), (48, 76, 1, 0, .null, [(0, 431), (0, 432), (0, 46)]), (28, 1, 5, 0, .null, []), (0, 206, 0, 0, .int (-1000000002), []), (50, 0, 0, 0, .null, []), (0, 243, 0, 0, .int (-1000000001), []), (4, 2, 0, 0, .null, []), (0, 0, 0, 0, .int 1, []), (4, 3, 0, 0, .null, []), (1, 3, 0, 0, .null, []), (0, 0, 0, 0, .int 31, []), (29, 4, 42, 0, .null, []), (3, 0, 0, 0, .null, []), (1, 1, 0, 0, .null, []), (1, 3, 0, 0, .null, []), (3, 0, 0, 0, .null, []), (36, 6, 7, 176, .null, []), (49, 83, 3, 6, .null, [(0, 435), (0, 437), (0, 10), (0, 46)]), (3, 0, 0, 0, .null, []), (36, 6, 7, 176, .null, []), (49, 0, 0, 0, .null, [(0, 454), (0, 455), (0, 456), (0, 52)]), (28, 0, 40, 0, .null, []), (1, 2, 0, 0, .null, []), (0, 243, 0, 0, .int (-1000000001), []), (29, 0, 33, 0, .null, []), (3, 0, 0, 0, .null, []), (36, 6, 7, 176, .null, []), (0, 0, 0, 0, .long 1, []), (3, 0, 0, 0, .null, []), (36, 6, 8, 177, .null, []), (0, 0, 0, 0, .long 1, []), (49, 3, 3, 0, .null, [(0, 475), (0, 476), (0, 477), (0, 52)]), (28, 3, 40, 0, .null, []), (3, 0, 0, 0, .null, []), (36, 6, 8, 177, .null, []), (3, 0, 0, 0, .null, []), (36, 6, 7, 176, .null, []), (49, 2, 1, 0, .null, [(0, 486), (0, 487), (0, 488), (0, 52)]), (1, 3, 0, 0, .null, []), (4, 2, 0, 0, .null, []), (7, 3, 0, 0, .int 1, []), (32, 0, 9, 0, .null, []), (1, 2, 0, 0, .null, []), (50, 0, 0, 0, .null, [])]
def qr_62 : List qRow := [(0, .iload_n 1, 1), (1, .invokestatic 177, 3), (4, .ifCond .ne 6, 3), (7, .ldc 65, 2), (9, .ireturn, 1), (10, .ldc 79, 2), (12, .istore_n 2, 1), (13, .iconst 1, 1), (14, .istore_n 3, 1), (15, .iload_n 3, 1), (16, .bipush 31, 2), (18, .if_icmp .gt 64, 3), (21, .aload_n 0, 1), (22, .iload_n 1, 1), (23, .iload_n 3, 1), (24, .aload_n 0, 1), (25, .getfield 54, 3), (28, .invokevirtual 182, 3), (31, .aload_n 0, 1), (32, .getfield 54, 3), (35, .invokevirtual 186, 3), (38, .ifCond .eq 38, 3), (41, .iload_n 2, 1), (42, .ldc 79, 2), (44, .if_icmp .eq 19, 3), (47, .aload_n 0, 1), (48, .getfield 54, 3), (51, .lconst 1, 1), (52, .aload_n 0, 1), (53, .getfield 58, 3), (56, .lconst 1, 1), (57, .invokevirtual 208, 3), (60, .ifCond .ge 16, 3), (63, .aload_n 0, 1), (64, .getfield 58, 3), (67, .aload_n 0, 1), (68, .getfield 54, 3), (71, .invokevirtual 212, 3), (74, .iload_n 3, 1), (75, .istore_n 2, 1), (76, .iinc 3 1, 3), (79, .goto (-64), 3), (82, .iload_n 2, 1), (83, .ireturn, 1)]
def qo_63 : List qOp := [(1, 1, 0, 0, .null, []), (0, 0, 0, 0, .int 1, []), (29, 2, 6, 0, .null, []), (1, 1, 0, 0, .null, []), (0, 0, 0, 0, .int 15, []), (29, 5, 8, 0, .null, []), (0, 206, 0, 0, .int (-1000000002), []), (50, 0, 0, 0, .null, []), (3, 0, 0, 0, .null, []), (1, 1, 0, 0, .null, []), (49, 87, 1, 6, .null, [(0, 494), (0, 496), (0, 11), (0, 46)]), (50, 0, 0, 0, .null, [])]
def qr_63 : List qRow := [(0, .iload_n 1, 1), (1, .iconst 1, 1), (2, .if_icmp .lt 9, 3), (5, .iload_n 1, 1), (6, .bipush 15, 2), (8, .if_icmp .le 6, 3), (11, .ldc 65, 2), (13, .ireturn, 1), (14, .aload_n 0, 1), (15, .iload_n 1, 1), (16, .invokevirtual 215, 3), (19, .ireturn, 1)]
def qo_64 : List qOp := [(1, 1, 0, 0, .null, []), (0, 0, 0, 0, .int 1, []), (29, 2, 6, 0, .null, []), (1, 1, 0, 0, .null, []), (0, 0, 0, 0, .int 15, []), (29, 5, 8, 0, .null, []), (0, 206, 0, 0, .int (-1000000002), []), (50, 0, 0, 0, .null, []), (3, 0, 0, 0, .null, []), (1, 1, 0, 0, .null, []), (49, 87, 1, 6, .null, [(0, 494), (0, 496), (0, 11), (0, 46)]), (4, 2, 0, 0, .null, []), (1, 2, 0, 0, .null, []), (0, 243, 0, 0, .int (-1000000001), []), (29, 1, 17, 0, .null, []), (0, 243, 0, 0, .int (-1000000001), []), (50, 0, 0, 0, .null, []), (0, 0, 0, 0, .int 1, []), (1, 2, 0, 0, .null, []), (3, 0, 0, 0, .null, []), (36, 6, 0, 169, .null, []), (0, 0, 0, 0, .int 2, []), (1, 1, 0, 0, .null, []), (49, 35, 2, 4, .null, [(0, 300), (0, 301), (0, 302), (0, 47)]), (1, 1, 0, 0, .null, []), (48, 88, 3, 0, .null, [(0, 503), (0, 504), (0, 46)]), (48, 154, 2, 0, .null, [(0, 506), (0, 386), (0, 54)]), (50, 0, 0, 0, .null, [])]
def qr_64 : List qRow := [(0, .iload_n 1, 1), (1, .iconst 1, 1), (2, .if_icmp .lt 9, 3), (5, .iload_n 1, 1), (6, .bipush 15, 2), (8, .if_icmp .le 6, 3), (11, .ldc 65, 2), (13, .ireturn, 1), (14, .aload_n 0, 1), (15, .iload_n 1, 1), (16, .invokevirtual 215, 3), (19, .istore_n 2, 1), (20, .iload_n 2, 1), (21, .ldc 79, 2), (23, .if_icmp .ne 6, 3), (26, .ldc 79, 2), (28, .ireturn, 1), (29, .iconst 1, 1), (30, .iload_n 2, 1), (31, .aload_n 0, 1), (32, .getfield 10, 3), (35, .iconst 2, 1), (36, .iload_n 1, 1), (37, .invokevirtual 109, 3), (40, .iload_n 1, 1), (41, .invokestatic 218, 3), (44, .invokestatic 221, 3), (47, .ireturn, 1)]
def qo_65 : List qOp := [(1, 1, 0, 0, .null, []), (48, 73, 1, 0, .null, [(0, 332), (0, 333), (0, 46)]), (28, 1, 5, 0, .null, []), (0, 206, 0, 0, .int (-1000000002), []), (50, 0, 0, 0, .null, []), (0, 0, 0, 0, .int 0, []), (4, 2, 0, 0, .null, []), (0, 0, 0, 0, .int 0, []), (4, 3, 0, 0, .null, []), (1, 3, 0, 0, .null, []), (3, 0, 0, 0, .null, []), (36, 6, 0, 169, .null, []), (49, 17, 0, 4, .null, [(0, 207), (0, 208), (0, 209), (0, 47)]), (29, 3, 23, 0, .null, []), (3, 0, 0, 0, .null, []), (36, 6, 0, 169, .null, []), (1, 3, 0, 0, .null, []), (1, 1, 0, 0, .null, []), (49, 34, 2, 4, .null, [(0, 337), (0, 338), (0, 339), (0, 47)]), (28, 0, 21, 0, .null, []), (7, 2, 0, 0, .int 1, []), (7, 3, 0, 0, .int 1, []), (32, 0, 9, 0, .null, []), (1, 2, 0, 0, .null, []), (50, 0, 0, 0, .null, [])]
def qr_65 : List qRow := [(0, .iload_n 1, 1), (1, .invokestatic 126, 3), (4, .ifCond .ne 6, 3), (7, .ldc 65, 2), (9, .ireturn, 1), (10, .iconst 0, 1), (11, .istore_n 2, 1), (12, .iconst 0, 1), (13, .istore_n 3, 1), (14, .iload_n 3, 1), (15, .aload_n 0, 1), (16, .getfield 10, 3), (19, .invokevirtual 66, 3), (22, .if_icmp .ge 24, 3), (25, .aload_n 0, 1), (26, .getfield 10, 3), (29, .iload_n 3, 1), (30, .iload_n 1, 1), (31, .invokevirtual 132, 3), (34, .ifCond .eq 6, 3), (37, .iinc 2 1, 3), (40, .iinc 3 1, 3), (43, .goto (-29), 3), (46, .iload_n 2, 1), (47, .ireturn, 1)]
def qo_66 : List qOp := [(1, 1, 0, 0, .null, []), (0, 0, 0, 0, .int 32, []), (29, 2, 6, 0, .null, []), (1, 1, 0, 0, .null, []), (0, 0, 0, 0, .int 126, []), (29, 5, 8, 0, .null, []), (0, 206, 0, 0, .int (-1000000002), []), (50, 0, 0, 0, .null, []), (3, 0, 0, 0, .null, []), (36, 6, 5, 174, .null, []), (49, 40, 0, 5, .null, [(0, 405), (0, 406), (0, 407), (0, 50)]), (0, 0, 0, 0, .int 120, []), (29, 2, 15, 0, .null, []), (0, 211, 0, 0, .int (-1000000004), []), (50, 0, 0, 0, .null, []), (3, 0, 0, 0, .null, []), (36, 6, 5, 174, .null, []), (1, 1, 0, 0, .null, []), (49, 42, 1, 5, .null, [(0, 515), (0, 516), (0, 517), (0, 50)]), (3, 0, 0, 0, .null, []), (36, 6, 5, 174, .null, []), (49, 40, 0, 5, .null, [(0, 405), (0, 406), (0, 407), (0, 50)]), (50, 0, 0, 0, .null, [])]
def qr_66 : List qRow := [(0, .iload_n 1, 1), (1, .bipush 32, 2), (3, .if_icmp .lt 9, 3), (6, .iload_n 1, 1), (7, .bipush 126, 2), (9, .if_icmp .le 6, 3), (12, .ldc 65, 2), (14, .ireturn, 1), (15, .aload_n 0, 1), (16, .getfield 40, 3), (19, .invokevirtual 166, 3), (22, .bipush 120, 2), (24, .if_icmp .lt 6, 3), (27, .ldc 70, 2), (29, .ireturn, 1), (30, .aload_n 0, 1), (31, .getfield 40, 3), (34, .iload_n 1, 1), (35, .invokevirtual 224, 3), (38, .aload_n 0, 1), (39, .getfield 40, 3), (42, .invokevirtual 166, 3), (45, .ireturn, 1)]
def qo_67 : List qOp := [(3, 0, 0, 0, .null, []), (36, 6, 5, 174, .null, []), (49, 40, 0, 5, .null, [(0, 405), (0, 406), (0, 407), (0, 50)]), (4, 1, 0, 0, .null, []), (3, 0, 0, 0, .null, []), (36, 6, 5, 174, .null, []), (49, 43, 0, 5, .null, [(0, 523), (0, 524), (0, 525), (0, 50)]), (1, 1, 0, 0, .null, []), (50, 0, 0, 0, .null, [])]
def qr_67 : List qRow := [(0, .aload_n 0, 1), (1, .getfield 40, 3), (4, .invokevirtual 166, 3), (7, .istore_n 1, 1), (8, .aload_n 0, 1), (9, .getfield 40, 3), (12, .invokevirtual 225, 3), (15, .iload_n 1, 1), (16, .ireturn, 1)]
def qo_68 : List qOp := [(3, 0, 0, 0, .null, []), (36, 6, 6, 175, .null, []), (3, 0, 0, 0, .null, []), (36, 6, 5, 174, .null, []), (3, 0, 0, 0, .null, []), (36, 6, 1, 170, .null, []), (49, 10, 2, 3, .null, [(0, 531), (0, 532), (0, 533), (0, 51)]), (28, 1, 10, 0, .null, []), (0, 274, 0, 0, .int (-1000000003), []), (50, 0, 0, 0, .null, []), (3, 0, 0, 0, .null, []), (36, 6, 3, 172, .null, []), (3, 0, 0, 0, .null, []), (36, 6, 0, 169, .null, []), (49, 7, 1, 1, .null, [(0, 212), (0, 213), (0, 214), (0, 48)]), (3, 0, 0, 0, .null, []), (36, 6, 0, 169, .null, []), (3, 0, 0, 0, .null, []), (36, 6, 1, 170, .null, []), (49, 25, 1, 4, .null, [(0, 336), (0, 221), (0, 222), (0, 47)]), (3, 0, 0, 0, .null, []), (36, 6, 0, 169, .null, []), (49, 17, 0, 4, .null, [(0, 207), (0, 208), (0, 209), (0, 47)]), (50, 0, 0, 0, .null, [])]
def qr_68 : List qRow := [(0, .aload_n 0, 1), (1, .getfield 47, 3), (4, .aload_n 0, 1), (5, .getfield 40, 3), (8, .aload_n 0, 1), (9, .getfield 16, 3), (12, .invokevirtual 226, 3), (15, .ifCond .ne 6, 3), (18, .ldc 101, 2), (20, .ireturn, 1), (21, .aload_n 0, 1), (22, .getfield 26, 3), (25, .aload_n 0, 1), (26, .getfield 10, 3), (29, .invokevirtual 71, 3), (32, .aload_n 0, 1), (33, .getfield 10, 3), (36, .aload_n 0, 1), (37, .getfield 16, 3), (40, .invokevirtual 129, 3), (43, .aload_n 0, 1), (44, .getfield 10, 3), (47, .invokevirtual 66, 3), (50, .ireturn, 1)]
def qo_69 : List qOp := [(1, 1, 0, 0, .null, []), (28, 2, 5, 0, .null, []), (1, 1, 0, 0, .null, []), (0, 0, 0, 0, .int 1, []), (29, 5, 7, 0, .null, []), (0, 206, 0, 0, .int (-1000000002), []), (50, 0, 0, 0, .null, []), (1, 1, 0, 0, .null, []), (28, 1, 13, 0, .null, []), (3, 0, 0, 0, .null, []), (36, 6, 6, 175, .null, []), (60, 3, 0, 2, .null, []), (32, 0, 16, 0, .null, []), (3, 0, 0, 0, .null, []), (36, 6, 6, 175, .null, []), (60, 3, 1, 3, .null, []), (50, 0, 0, 0, .null, [])]
def qr_69 : List qRow := [(0, .iload_n 1, 1), (1, .ifCond .lt 8, 3), (4, .iload_n 1, 1), (5, .iconst 1, 1), (6, .if_icmp .le 6, 3), (9, .ldc 65, 2), (11, .ireturn, 1), (12, .iload_n 1, 1), (13, .ifCond .ne 13, 3), (16, .aload_n 0, 1), (17, .getfield 47, 3), (20, .getfield 230, 3), (23, .goto 10, 3), (26, .aload_n 0, 1), (27, .getfield 47, 3), (30, .getfield 234, 3), (33, .ireturn, 1)]
def qo_70 : List qOp := [(3, 0, 0, 0, .null, []), (1, 1, 0, 0, .null, []), (49, 77, 1, 6, .null, [(0, 574), (0, 576), (0, 17), (0, 46)]), (6, 2, 0, 0, .null, []), (3, 2, 0, 0, .null, []), (31, 0, 8, 0, .null, []), (0, 206, 0, 0, .int (-1000000002), []), (50, 0, 0, 0, .null, []), (3, 2, 0, 0, .null, []), (62, 2, 0, 4, .null, []), (3, 0, 0, 0, .null, []), (36, 6, 0, 169, .null, []), (49, 25, 1, 4, .null, [(0, 336), (0, 221), (0, 222), (0, 47)]), (3, 2, 0, 0, .null, []), (0, 0, 0, 0, .int 1, []), (65, 2, 1, 5, .null, []), (3, 0, 0, 0, .null, []), (36, 6, 0, 169, .null, []), (49, 17, 0, 4, .null, [(0, 207), (0, 208), (0, 209), (0, 47)]), (50, 0, 0, 0, .null, [])]
def qr_70 : List qRow := [(0, .aload_n 0, 1), (1, .iload_n 1, 1), (2, .invokevirtual 237, 3), (5, .astore_n 2, 1), (6, .aload_n 2, 1), (7, .ifnonnull 6, 3), (10, .ldc 65, 2), (12, .ireturn, 1), (13, .aload_n 2, 1), (14, .getfield 241, 3), (17, .aload_n 0, 1), (18, .getfield 10, 3), (21, .invokevirtual 129, 3), (24, .aload_n 2, 1), (25, .iconst 1, 1), (26, .putfield 244, 3), (29, .aload_n 0, 1), (30, .getfield 10, 3), (33, .invokevirtual 66, 3), (36, .ireturn, 1)]
def qo_71 : List qOp := [(3, 0, 0, 0, .null, []), (1, 1, 0, 0, .null, []), (49, 77, 1, 6, .null, [(0, 574), (0, 576), (0, 17), (0, 46)]), (6, 2, 0, 0, .null, []), (3, 2, 0, 0, .null, []), (31, 0, 8, 0, .null, []), (0, 206, 0, 0, .int (-1000000002), []), (50, 0, 0, 0, .null, []), (3, 2, 0, 0, .null, []), (60, 2, 1, 5, .null, []), (28, 1, 13, 0, .null, []), (0, 274, 0, 0, .int (-1000000003), []), (50, 0, 0, 0, .null, []), (3, 0, 0, 0, .null, []), (36, 6, 3, 172, .null, []), (3, 0, 0, 0, .null, []), (36, 6, 0, 169, .null, []), (49, 7, 1, 1, .null, [(0, 212), (0, 213), (0, 214), (0, 48)]), (3, 0, 0, 0, .null, []), (36, 6, 0, 169, .null, []), (3, 2, 0, 0, .null, []), (62, 2, 0, 4, .null, []), (49, 25, 1, 4, .null, [(0, 336), (0, 221), (0, 222), (0, 47)]), (3, 0, 0, 0, .null, []), (36, 6, 0, 169, .null, []), (49, 17, 0, 4, .null, [(0, 207), (0, 208), (0, 209), (0, 47)]), (50, 0, 0, 0, .null, [])]
def qr_71 : List qRow := [(0, .aload_n 0, 1), (1, .iload_n 1, 1), (2, .invokevirtual 237, 3), (5, .astore_n 2, 1), (6, .aload_n 2, 1), (7, .ifnonnull 6, 3), (10, .ldc 65, 2), (12, .ireturn, 1), (13, .aload_n 2, 1), (14, .getfield 244, 3), (17, .ifCond .ne 6, 3), (20, .ldc 101, 2), (22, .ireturn, 1), (23, .aload_n 0, 1), (24, .getfield 26, 3), (27, .aload_n 0, 1), (28, .getfield 10, 3), (31, .invokevirtual 71, 3), (34, .aload_n 0, 1), (35, .getfield 10, 3), (38, .aload_n 2, 1), (39, .getfield 241, 3), (42, .invokevirtual 129, 3), (45, .aload_n 0, 1), (46, .getfield 10, 3), (49, .invokevirtual 66, 3), (52, .ireturn, 1)]
def qo_72 : List qOp := [(2, 0, 0, 0, .null, []), (0, 204, 0, 0, .long (-99999), []), (25, 0, 0, 0, .null, []), (28, 2, 10, 0, .null, []), (2, 0, 0, 0, .null, []), (0, 205, 0, 0, .long 99999, []), (25, 0, 0, 0, .null, []), (28, 4, 10, 0, .null, []), (0, 0, 0, 0, .int 1, []), (32, 0, 11, 0, .null, []), (0, 0, 0, 0, .int 0, []), (51, 0, 0, 0, .null, [])]
def qr_72 : List qRow := [(0, .lload_n 0, 1), (1, .ldc2_w 248, 3), (4, .lcmp, 1), (5, .ifCond .lt 15, 3), (8, .lload_n 0, 1), (9, .ldc2_w 250, 3), (12, .lcmp, 1), (13, .ifCond .gt 7, 3), (16, .iconst 1, 1), (17, .goto 4, 3), (20, .iconst 0, 1), (21, .ireturn, 1)]
def qo_73 : List qOp := [(1, 0, 0, 0, .null, []), (28, 2, 7, 0, .null, []), (1, 0, 0, 0, .null, []), (0, 335, 0, 0, .int 99999, []), (29, 4, 7, 0, .null, []), (0, 0, 0, 0, .int 1, []), (32, 0, 8, 0, .null, []), (0, 0, 0, 0, .int 0, []), (51, 0, 0, 0, .null, [])]
def qr_73 : List qRow := [(0, .iload_n 0, 1), (1, .ifCond .lt 13, 3), (4, .iload_n 0, 1), (5, .ldc 252, 2), (7, .if_icmp .gt 7, 3), (10, .iconst 1, 1), (11, .goto 4, 3), (14, .iconst 0, 1), (15, .ireturn, 1)]
def qo_74 : List qOp := [(1, 0, 0, 0, .null, []), (0, 0, 0, 0, .int 2, []), (29, 2, 8, 0, .null, []), (1, 0, 0, 0, .null, []), (0, 0, 0, 0, .int 4, []), (29, 4, 8, 0, .null, []), (0, 0, 0, 0, .int 1, []), (32, 0, 9, 0, .null, []), (0, 0, 0, 0, .int 0, []), (51, 0, 0, 0, .null, [])]
def qr_74 : List qRow := [(0, .iload_n 0, 1), (1, .iconst 2, 1), (2, .if_icmp .lt 12, 3), (5, .iload_n 0, 1), (6, .iconst 4, 1), (7, .if_icmp .gt 7, 3), (10, .iconst 1, 1), (11, .goto 4, 3), (14, .iconst 0, 1), (15, .ireturn, 1)]
def qo_75 : List qOp := [(1, 0, 0, 0, .null, []), (0, 0, 0, 0, .int 1, []), (29, 2, 8, 0, .null, []), (1, 0, 0, 0, .null, []), (0, 0, 0, 0, .int 31, []), (29, 4, 8, 0, .null, []), (0, 0, 0, 0, .int 1, []), (32, 0, 9, 0, .null, []), (0, 0, 0, 0, .int 0, []), (51, 0, 0, 0, .null, [])]
def qr_75 : List qRow := [(0, .iload_n 0, 1), (1, .iconst 1, 1), (2, .if_icmp .lt 13, 3), (5, .iload_n 0, 1), (6, .bipush 31, 2), (8, .if_icmp .gt 7, 3), (11, .iconst 1, 1), (12, .goto 4, 3), (15, .iconst 0, 1), (16, .ireturn, 1)]
def qo_76 : List qOp := [(1, 0, 0, 0, .null, []), (28, 2, 7, 0, .null, []), (1, 0, 0, 0, .null, []), (0, 0, 0, 0, .int 3, []), (29, 4, 7, 0, .null, []), (0, 0, 0, 0, .int 1, []), (32, 0, 8, 0, .null, []), (0, 0, 0, 0, .int 0, []), (51, 0, 0, 0, .null, [])]
def qr_76 : List qRow := [(0, .iload_n 0, 1), (1, .ifCond .lt 12, 3), (4, .iload_n 0, 1), (5, .iconst 3, 1), (6, .if_icmp .gt 7, 3), (9, .iconst 1, 1), (10, .goto 4, 3), (13, .iconst 0, 1), (14, .ireturn, 1)]
def qo_77 : List qOp := [(1, 1, 0, 0, .null, []), (28, 2, 7, 0, .null, []), (1, 1, 0, 0, .null, []), (3, 0, 0, 0, .null, []), (36, 6, 4, 173, .null, []), (40, 0, 0, 0, .null, []), (29, 2, 9, 0, .null, []), (0, 0, 0, 0, .null, []), (53, 0, 0, 0, .null, []), (3, 0, 0, 0, .null, []), (36, 6, 4, 173, .null, []), (1, 1, 0, 0, .null, []), (44, 104, 0, 0, .null, []), (53, 0, 0, 0, .null, [])]
def qr_77 : List qRow := [(0, .iload_n 1, 1), (1, .ifCond .lt 12, 3), (4, .iload_n 1, 1), (5, .aload_n 0, 1), (6, .getfield 32, 3), (9, .arraylength, 1), (10, .if_icmp .lt 5, 3), (13, .aconst_null, 1), (14, .areturn, 1), (15, .aload_n 0, 1), (16, .getfield 32, 3), (19, .iload_n 1, 1), (20, .aaload, 1), (21, .areturn, 1)]
def qo_78 : List qOp := [(3, 0, 0, 0, .null, []), (49, 79, 0, 6, .null, [(0, 287), (0, 289), (0, 2), (0, 46)]), (28, 1, 5, 0, .null, []), (0, 291, 0, 0, .int (-1000000005), []), (50, 0, 0, 0, .null, []), (3, 0, 0, 0, .null, []), (36, 6, 3, 172, .null, []), (3, 0, 0, 0, .null, []), (36, 6, 0, 169, .null, []), (49, 7, 1, 1, .null, [(0, 212), (0, 213), (0, 214), (0, 48)]), (0, 0, 0, 0, .int 0, []), (4, 1, 0, 0, .null, []), (0, 0, 0, 0, .int 0, []), (4, 2, 0, 0, .null, []), (1, 2, 0, 0, .null, []), (3, 0, 0, 0, .null, []), (36, 6, 0, 169, .null, []), (49, 17, 0, 4, .null, [(0, 207), (0, 208), (0, 209), (0, 47)]), (29, 3, 54, 0, .null, []), (1, 2, 0, 0, .null, []), (3, 0, 0, 0, .null, []), (36, 6, 2, 171, .null, []), (40, 0, 0, 0, .null, []), (29, 3, 54, 0, .null, []), (3, 0, 0, 0, .null, []), (36, 6, 0, 169, .null, []), (1, 2, 0, 0, .null, []), (49, 19, 1, 4, .null, [(0, 270), (0, 271), (0, 272), (0, 47)]), (28, 0, 52, 0, .null, []), (3, 0, 0, 0, .null, []), (36, 6, 2, 171, .null, []), (1, 2, 0, 0, .null, []), (42, 0, 0, 0, .null, []), (0, 0, 0, 0, .long 0, []), (25, 0, 0, 0, .null, []), (28, 0, 52, 0, .null, []), (3, 0, 0, 0, .null, []), (36, 6, 0, 169, .null, []), (1, 2, 0, 0, .null, []), (3, 0, 0, 0, .null, []), (36, 6, 0, 169, .null, []), (1, 2, 0, 0, .null, []), (49, 20, 1, 4, .null, [(0, 256), (0, 230), (0, 231), (0, 47)]), (26, 0, 0, 0, .null, []), (3, 0, 0, 0, .null, []), (36, 6, 2, 171, .null, []), (1, 2, 0, 0, .null, []), (42, 0, 0, 0, .null, []), (19, 0, 0, 0, .null, []), (27, 0, 0, 0, .null, []), (49, 21, 2, 4, .null, [(0, 257), (0, 258), (0, 259), (0, 47)]), (7, 1, 0, 0, .int 1, []), (7, 2, 0, 0, .int 1, []), (32, 0, 14, 0, .null, []), (1, 1, 0, 0, .null, []), (50, 0, 0, 0, .null, [])]
def qr_78 : List qRow := [(0, .aload_n 0, 1), (1, .invokevirtual 253, 3), (4, .ifCond .ne 6, 3), (7, .ldc 125, 2), (9, .ireturn, 1), (10, .aload_n 0, 1), (11, .getfield 26, 3), (14, .aload_n 0, 1), (15, .getfield 10, 3), (18, .invokevirtual 71, 3), (21, .iconst 0, 1), (22, .istore_n 1, 1), (23, .iconst 0, 1), (24, .istore_n 2, 1), (25, .iload_n 2, 1), (26, .aload_n 0, 1), (27, .getfield 10, 3), (30, .invokevirtual 66, 3), (33, .if_icmp .ge 68, 3), (36, .iload_n 2, 1), (37, .aload_n 0, 1), (38, .getfield 19, 3), (41, .arraylength, 1), (42, .if_icmp .ge 59, 3), (45, .aload_n 0, 1), (46, .getfield 10, 3), (49, .iload_n 2, 1), (50, .invokevirtual 98, 3), (53, .ifCond .eq 42, 3), (56, .aload_n 0, 1), (57, .getfield 19, 3), (60, .iload_n 2, 1), (61, .laload, 1), (62, .lconst 0, 1), (63, .lcmp, 1), (64, .ifCond .eq 31, 3), (67, .aload_n 0, 1), (68, .getfield 10, 3), (71, .iload_n 2, 1), (72, .aload_n 0, 1), (73, .getfield 10, 3), (76, .iload_n 2, 1), (77, .invokevirtual 88, 3), (80, .i2l, 1), (81, .aload_n 0, 1), (82, .getfield 19, 3), (85, .iload_n 2, 1), (86, .laload, 1), (87, .lsub, 1), (88, .l2i, 1), (89, .invokevirtual 92, 3), (92, .iinc 1 1, 3), (95, .iinc 2 1, 3), (98, .goto (-73), 3), (101, .iload_n 1, 1), (102, .ireturn, 1)]
def qo_79 : List qOp := [(0, 0, 0, 0, .int 0, []), (4, 1, 0, 0, .null, []), (1, 1, 0, 0, .null, []), (3, 0, 0, 0, .null, []), (36, 6, 0, 169, .null, []), (49, 17, 0, 4, .null, [(0, 207), (0, 208), (0, 209), (0, 47)]), (29, 3, 33, 0, .null, []), (1, 1, 0, 0, .null, []), (3, 0, 0, 0, .null, []), (36, 6, 2, 171, .null, []), (40, 0, 0, 0, .null, []), (29, 3, 33, 0, .null, []), (3, 0, 0, 0, .null, []), (36, 6, 0, 169, .null, []), (1, 1, 0, 0, .null, []), (49, 19, 1, 4, .null, [(0, 270), (0, 271), (0, 272), (0, 47)]), (28, 0, 31, 0, .null, []), (3, 0, 0, 0, .null, []), (36, 6, 0, 169, .null, []), (1, 1, 0, 0, .null, []), (49, 20, 1, 4, .null, [(0, 256), (0, 230), (0, 231), (0, 47)]), (26, 0, 0, 0, .null, []), (3, 0, 0, 0, .null, []), (36, 6, 2, 171, .null, []), (1, 1, 0, 0, .null, []), (42, 0, 0, 0, .null, []), (19, 0, 0, 0, .null, []), (48, 72, 1, 0, .null, [(0, 201), (0, 202), (0, 46)]), (28, 1, 31, 0, .null, []), (0, 0, 0, 0, .int 0, []), (51, 0, 0, 0, .null, []), (7, 1, 0, 0, .int 1, []), (32, 0, 2, 0, .null, []), (0, 0, 0, 0, .int 1, []), (51, 0, 0, 0, .null, [])]
def qr_79 : List qRow := [(0, .iconst 0, 1), (1, .istore_n 1, 1), (2, .iload_n 1, 1), (3, .aload_n 0, 1), (4, .getfield 10, 3), (7, .invokevirtual 66, 3), (10, .if_icmp .ge 53, 3), (13, .iload_n 1, 1), (14, .aload_n 0, 1), (15, .getfield 19, 3), (18, .arraylength, 1), (19, .if_icmp .ge 44, 3), (22, .aload_n 0, 1), (23, .getfield 10, 3), (26, .iload_n 1, 1), (27, .invokevirtual 98, 3), (30, .ifCond .eq 27, 3), (33, .aload_n 0, 1), (34, .getfield 10, 3), (37, .iload_n 1, 1), (38, .invokevirtual 88, 3), (41, .i2l, 1), (42, .aload_n 0, 1), (43, .getfield 19, 3), (46, .iload_n 1, 1), (47, .laload, 1), (48, .lsub, 1), (49, .invokestatic 61, 3), (52, .ifCond .ne 5, 3), (55, .iconst 0, 1), (56, .ireturn, 1), (57, .iinc 1 1, 3), (60, .goto (-58), 3), (63, .iconst 1, 1), (64, .ireturn, 1)]
def qo_80 : List qOp := [(0, 0, 0, 0, .long 0, []), (5, 1, 0, 0, .null, []), (0, 0, 0, 0, .int 0, []), (4, 3, 0, 0, .null, []), (1, 3, 0, 0, .null, []), (3, 0, 0, 0, .null, []), (36, 6, 0, 169, .null, []), (49, 17, 0, 4, .null, [(0, 207), (0, 208), (0, 209), (0, 47)]), (29, 3, 26, 0, .null, []), (3, 0, 0, 0, .null, []), (36, 6, 0, 169, .null, []), (0, 0, 0, 0, .int 2, []), (0, 0, 0, 0, .int 1, []), (1, 3, 0, 0, .null, []), (49, 36, 3, 4, .null, [(0, 325), (0, 305), (0, 306), (0, 47)]), (4, 4, 0, 0, .null, []), (1, 4, 0, 0, .null, []), (0, 243, 0, 0, .int (-1000000001), []), (29, 0, 24, 0, .null, []), (2, 1, 0, 0, .null, []), (1, 4, 0, 0, .null, []), (26, 0, 0, 0, .null, []), (18, 0, 0, 0, .null, []), (5, 1, 0, 0, .null, []), (7, 3, 0, 0, .int 1, []), (32, 0, 4, 0, .null, []), (2, 1, 0, 0, .null, []), (52, 0, 0, 0, .null, [])]
def qr_80 : List qRow := [(0, .lconst 0, 1), (1, .lstore_n 1, 1), (2, .iconst 0, 1), (3, .istore_n 3, 1), (4, .iload_n 3, 1), (5, .aload_n 0, 1), (6, .getfield 10, 3), (9, .invokevirtual 66, 3), (12, .if_icmp .ge 34, 3), (15, .aload_n 0, 1), (16, .getfield 10, 3), (19, .iconst 2, 1), (20, .iconst 1, 1), (21, .iload_n 3, 1), (22, .invokevirtual 173, 3), (25, .istore 4, 2), (27, .iload 4, 2), (29, .ldc 79, 2), (31, .if_icmp .eq 9, 3), (34, .lload_n 1, 1), (35, .iload 4, 2), (37, .i2l, 1), (38, .ladd, 1), (39, .lstore_n 1, 1), (40, .iinc 3 1, 3), (43, .goto (-39), 3), (46, .lload_n 1, 1), (47, .lreturn, 1)]
def qo_81 : List qOp := [(1, 1, 0, 0, .null, []), (4, 3, 0, 0, .null, []), (1, 3, 0, 0, .null, []), (1, 2, 0, 0, .null, []), (29, 3, 20, 0, .null, []), (3, 0, 0, 0, .null, []), (36, 6, 0, 169, .null, []), (1, 3, 0, 0, .null, []), (3, 0, 0, 0, .null, []), (36, 6, 0, 169, .null, []), (1, 1, 0, 0, .null, []), (0, 0, 0, 0, .int 1, []), (9, 0, 0, 0, .null, []), (1, 2, 0, 0, .null, []), (1, 3, 0, 0, .null, []), (49, 33, 3, 4, .null, [(0, 275), (0, 276), (0, 277), (0, 47)]), (27, 0, 0, 0, .null, []), (49, 21, 2, 4, .null, [(0, 257), (0, 258), (0, 259), (0, 47)]), (7, 3, 0, 0, .int 1, []), (32, 0, 2, 0, .null, []), (54, 0, 0, 0, .null, [])]
def qr_81 : List qRow := [(0, .iload_n 1, 1), (1, .istore_n 3, 1), (2, .iload_n 3, 1), (3, .iload_n 2, 1), (4, .if_icmp .ge 30, 3), (7, .aload_n 0, 1), (8, .getfield 10, 3), (11, .iload_n 3, 1), (12, .aload_n 0, 1), (13, .getfield 10, 3), (16, .iload_n 1, 1), (17, .iconst 1, 1), (18, .isub, 1), (19, .iload_n 2, 1), (20, .iload_n 3, 1), (21, .invokevirtual 102, 3), (24, .l2i, 1), (25, .invokevirtual 92, 3), (28, .iinc 3 1, 3), (31, .goto (-29), 3), (34, .return_, 1)]
def qo_82 : List qOp := [(0, 0, 0, 0, .int 31, []), (4, 1, 0, 0, .null, []), (1, 1, 0, 0, .null, []), (0, 0, 0, 0, .int 1, []), (29, 2, 15, 0, .null, []), (3, 0, 0, 0, .null, []), (36, 6, 0, 169, .null, []), (0, 0, 0, 0, .int 2, []), (1, 1, 0, 0, .null, []), (49, 35, 2, 4, .null, [(0, 300), (0, 301), (0, 302), (0, 47)]), (28, 5, 13, 0, .null, []), (1, 1, 0, 0, .null, []), (50, 0, 0, 0, .null, []), (7, 1, 0, 0, .int (-1), []), (32, 0, 2, 0, .null, []), (0, 0, 0, 0, .int 0, []), (50, 0, 0, 0, .null, [])]
def qr_82 : List qRow := [(0, .bipush 31, 2), (2, .istore_n 1, 1), (3, .iload_n 1, 1), (4, .iconst 1, 1), (5, .if_icmp .lt 23, 3), (8, .aload_n 0, 1), (9, .getfield 10, 3), (12, .iconst 2, 1), (13, .iload_n 1, 1), (14, .invokevirtual 109, 3), (17, .ifCond .le 5, 3), (20, .iload_n 1, 1), (21, .ireturn, 1), (22, .iinc 1 (-1), 3), (25, .goto (-22), 3), (28, .iconst 0, 1), (29, .ireturn, 1)]
def qo_83 : List qOp := [(1, 1, 0, 0, .null, []), (48, 84, 1, 0, .null, [(0, 439), (0, 440), (0, 46)]), (4, 4, 0, 0, .null, []), (0, 0, 0, 0, .long 0, []), (5, 5, 0, 0, .null, []), (0, 0, 0, 0, .long 0, []), (5, 7, 0, 0, .null, []), (0, 0, 0, 0, .int 0, []), (4, 9, 0, 0, .null, []), (1, 9, 0, 0, .null, []), (3, 0, 0, 0, .null, []), (36, 6, 0, 169, .null, []), (49, 17, 0, 4, .null, [(0, 207), (0, 208), (0, 209), (0, 47)]), (29, 3, 38, 0, .null, []), (3, 0, 0, 0, .null, []), (36, 6, 0, 169, .null, []), (1, 4, 0, 0, .null, []), (1, 2, 0, 0, .null, []), (1, 9, 0, 0, .null, []), (49, 36, 3, 4, .null, [(0, 325), (0, 305), (0, 306), (0, 47)]), (26, 0, 0, 0, .null, []), (5, 10, 0, 0, .null, []), (2, 10, 0, 0, .null, []), (0, 442, 0, 0, .long (-1000000001), []), (25, 0, 0, 0, .null, []), (28, 0, 36, 0, .null, []), (2, 5, 0, 0, .null, []), (2, 10, 0, 0, .null, []), (2, 10, 0, 0, .null, []), (20, 0, 0, 0, .null, []), (18, 0, 0, 0, .null, []), (5, 5, 0, 0, .null, []), (2, 7, 0, 0, .null, []), (0, 0, 0, 0, .long 1, []), (18, 0, 0, 0, .null, []), (5, 7, 0, 0, .null, []), (7, 9, 0, 0, .int 1, []), (32, 0, 9, 0, .null, []), (3, 3, 0, 0, .null, []), (2, 5, 0, 0, .null, []), (1, 1, 0, 0, .null, []), (1, 2, 0, 0, .null, []), (26, 0, 0, 0, .null, []), (48, 85, 2, 0, .null, [(0, 443), (0, 444), (0, 46)]), (2, 7, 0, 0, .null, []), (20, 0, 0, 0, .null, []), (49, 1, 2, 0, .null, [(0, 447), (0, 448), (0, 449), (0, 52)]), (54, 0, 0, 0, .null, [])]
def qr_83 : List qRow := [(0, .iload_n 1, 1), (1, .invokestatic 256, 3), (4, .istore 4, 2), (6, .lconst 0, 1), (7, .lstore 5, 2), (9, .lconst 0, 1), (10, .lstore 7, 2), (12, .iconst 0, 1), (13, .istore 9, 2), (15, .iload 9, 2), (17, .aload_n 0, 1), (18, .getfield 10, 3), (21, .invokevirtual 66, 3), (24, .if_icmp .ge 49, 3), (27, .aload_n 0, 1), (28, .getfield 10, 3), (31, .iload 4, 2), (33, .iload_n 2, 1), (34, .iload 9, 2), (36, .invokevirtual 173, 3), (39, .i2l, 1), (40, .lstore 10, 2), (42, .lload 10, 2), (44, .ldc2_w 190, 3), (47, .lcmp, 1), (48, .ifCond .eq 19, 3), (51, .lload 5, 2), (53, .lload 10, 2), (55, .lload 10, 2), (57, .lmul, 1), (58, .ladd, 1), (59, .lstore 5, 2), (61, .lload 7, 2), (63, .lconst 1, 1), (64, .ladd, 1), (65, .lstore 7, 2), (67, .iinc 9 1, 3), (70, .goto (-55), 3), (73, .aload_n 3, 1), (74, .lload 5, 2), (76, .iload_n 1, 1), (77, .iload_n 2, 1), (78, .i2l, 1), (79, .invokestatic 259, 3), (82, .lload 7, 2), (84, .lmul, 1), (85, .invokevirtual 263, 3), (88, .return_, 1)]
def qo_84 : List qOp := [(1, 0, 0, 0, .null, []), (28, 1, 4, 0, .null, []), (0, 0, 0, 0, .int 2, []), (50, 0, 0, 0, .null, []), (1, 0, 0, 0, .null, []), (0, 0, 0, 0, .int 1, []), (29, 1, 9, 0, .null, []), (0, 0, 0, 0, .int 3, []), (32, 0, 10, 0, .null, []), (0, 0, 0, 0, .int 4, []), (50, 0, 0, 0, .null, [])]
def qr_84 : List qRow := [(0, .iload_n 0, 1), (1, .ifCond .ne 5, 3), (4, .iconst 2, 1), (5, .ireturn, 1), (6, .iload_n 0, 1), (7, .iconst 1, 1), (8, .if_icmp .ne 7, 3), (11, .iconst 3, 1), (12, .goto 4, 3), (15, .iconst 4, 1), (16, .ireturn, 1)]
def qo_85 : List qOp := [(1, 0, 0, 0, .null, []), (33, 0, 18, 0, .null, [(0, 2), (2, 8)]), (0, 327, 0, 0, .long 2, []), (2, 1, 0, 0, .null, []), (20, 0, 0, 0, .null, []), (2, 1, 0, 0, .null, []), (20, 0, 0, 0, .null, []), (52, 0, 0, 0, .null, []), (0, 327, 0, 0, .long 2, []), (2, 1, 0, 0, .null, []), (20, 0, 0, 0, .null, []), (2, 1, 0, 0, .null, []), (20, 0, 0, 0, .null, []), (2, 1, 0, 0, .null, []), (20, 0, 0, 0, .null, []), (2, 1, 0, 0, .null, []), (20, 0, 0, 0, .null, []), (52, 0, 0, 0, .null, []), (0, 446, 0, 0, .long 6, []), (2, 1, 0, 0, .null, []), (20, 0, 0, 0, .null, []), (2, 1, 0, 0, .null, []), (20, 0, 0, 0, .null, []), (52, 0, 0, 0, .null, [])]
def qr_85 : List qRow := [(0, .iload_n 0, 1), (1, .lookupswitch 47 #[(0, 27), (2, 35)], 27), (28, .ldc2_w 123, 3), (31, .lload_n 1, 1), (32, .lmul, 1), (33, .lload_n 1, 1), (34, .lmul, 1), (35, .lreturn, 1), (36, .ldc2_w 123, 3), (39, .lload_n 1, 1), (40, .lmul, 1), (41, .lload_n 1, 1), (42, .lmul, 1), (43, .lload_n 1, 1), (44, .lmul, 1), (45, .lload_n 1, 1), (46, .lmul, 1), (47, .lreturn, 1), (48, .ldc2_w 267, 3), (51, .lload_n 1, 1), (52, .lmul, 1), (53, .lload_n 1, 1), (54, .lmul, 1), (55, .lreturn, 1)]
def qo_86 : List qOp := [(0, 0, 0, 0, .long 0, []), (5, 2, 0, 0, .null, []), (0, 0, 0, 0, .int 30, []), (4, 4, 0, 0, .null, []), (1, 4, 0, 0, .null, []), (28, 2, 22, 0, .null, []), (2, 2, 0, 0, .null, []), (0, 0, 0, 0, .long 1, []), (1, 4, 0, 0, .null, []), (24, 0, 0, 0, .null, []), (18, 0, 0, 0, .null, []), (5, 5, 0, 0, .null, []), (2, 5, 0, 0, .null, []), (2, 5, 0, 0, .null, []), (20, 0, 0, 0, .null, []), (2, 0, 0, 0, .null, []), (25, 0, 0, 0, .null, []), (28, 4, 20, 0, .null, []), (2, 5, 0, 0, .null, []), (5, 2, 0, 0, .null, []), (7, 4, 0, 0, .int (-1), []), (32, 0, 4, 0, .null, []), (2, 2, 0, 0, .null, []), (52, 0, 0, 0, .null, [])]
def qr_86 : List qRow := [(0, .lconst 0, 1), (1, .lstore_n 2, 1), (2, .bipush 30, 2), (4, .istore 4, 2), (6, .iload 4, 2), (8, .ifCond .lt 30, 3), (11, .lload_n 2, 1), (12, .lconst 1, 1), (13, .iload 4, 2), (15, .lshl, 1), (16, .ladd, 1), (17, .lstore 5, 2), (19, .lload 5, 2), (21, .lload 5, 2), (23, .lmul, 1), (24, .lload_n 0, 1), (25, .lcmp, 1), (26, .ifCond .gt 6, 3), (29, .lload 5, 2), (31, .lstore_n 2, 1), (32, .iinc 4 (-1), 3), (35, .goto (-29), 3), (38, .lload_n 2, 1), (39, .lreturn, 1)]
def qo_87 : List qOp := [(3, 0, 0, 0, .null, []), (0, 0, 0, 0, .int 0, []), (1, 1, 0, 0, .null, []), (3, 0, 0, 0, .null, []), (36, 6, 7, 176, .null, []), (49, 83, 3, 6, .null, [(0, 435), (0, 437), (0, 10), (0, 46)]), (3, 0, 0, 0, .null, []), (0, 0, 0, 0, .int 0, []), (0, 0, 0, 0, .int 2, []), (1, 1, 0, 0, .null, []), (10, 0, 0, 0, .null, []), (3, 0, 0, 0, .null, []), (36, 6, 8, 177, .null, []), (49, 83, 3, 6, .null, [(0, 435), (0, 437), (0, 10), (0, 46)]), (3, 0, 0, 0, .null, []), (36, 6, 7, 176, .null, []), (49, 0, 0, 0, .null, [(0, 454), (0, 455), (0, 456), (0, 52)]), (28, 0, 28, 0, .null, []), (3, 0, 0, 0, .null, []), (36, 6, 8, 177, .null, []), (49, 0, 0, 0, .null, [(0, 454), (0, 455), (0, 456), (0, 52)]), (28, 0, 28, 0, .null, []), (3, 0, 0, 0, .null, []), (36, 6, 7, 176, .null, []), (61, 0, 0, 0, .null, []), (0, 0, 0, 0, .long 0, []), (25, 0, 0, 0, .null, []), (28, 1, 30, 0, .null, []), (0, 243, 0, 0, .int (-1000000001), []), (50, 0, 0, 0, .null, []), (0, 0, 0, 0, .int 0, []), (4, 2, 0, 0, .null, []), (0, 0, 0, 0, .int 8, []), (4, 3, 0, 0, .null, []), (1, 3, 0, 0, .null, []), (0, 0, 0, 0, .int 1, []), (29, 2, 54, 0, .null, []), (3, 0, 0, 0, .null, []), (36, 6, 8, 177, .null, []), (1, 3, 0, 0, .null, []), (26, 0, 0, 0, .null, []), (3, 0, 0, 0, .null, []), (36, 6, 7, 176, .null, []), (0, 498, 0, 0, .long 3, []), (49, 3, 3, 0, .null, [(0, 475), (0, 476), (0, 477), (0, 52)]), (28, 4, 48, 0, .null, []), (1, 2, 0, 0, .null, []), (50, 0, 0, 0, .null, []), (7, 2, 0, 0, .int 1, []), (1, 3, 0, 0, .null, []), (0, 0, 0, 0, .int 2, []), (15, 0, 0, 0, .null, []), (4, 3, 0, 0, .null, []), (32, 0, 34, 0, .null, []), (1, 2, 0, 0, .null, []), (50, 0, 0, 0, .null, [])]
def qr_87 : List qRow := [(0, .aload_n 0, 1), (1, .iconst 0, 1), (2, .iload_n 1, 1), (3, .aload_n 0, 1), (4, .getfield 54, 3), (7, .invokevirtual 182, 3), (10, .aload_n 0, 1), (11, .iconst 0, 1), (12, .iconst 2, 1), (13, .iload_n 1, 1), (14, .imul, 1), (15, .aload_n 0, 1), (16, .getfield 58, 3), (19, .invokevirtual 182, 3), (22, .aload_n 0, 1), (23, .getfield 54, 3), (26, .invokevirtual 186, 3), (29, .ifCond .eq 25, 3), (32, .aload_n 0, 1), (33, .getfield 58, 3), (36, .invokevirtual 186, 3), (39, .ifCond .eq 15, 3), (42, .aload_n 0, 1), (43, .getfield 54, 3), (46, .getfield 192, 3), (49, .lconst 0, 1), (50, .lcmp, 1), (51, .ifCond .ne 6, 3), (54, .ldc 79, 2), (56, .ireturn, 1), (57, .iconst 0, 1), (58, .istore_n 2, 1), (59, .bipush 8, 2), (61, .istore_n 3, 1), (62, .iload_n 3, 1), (63, .iconst 1, 1), (64, .if_icmp .lt 34, 3), (67, .aload_n 0, 1), (68, .getfield 58, 3), (71, .iload_n 3, 1), (72, .i2l, 1), (73, .aload_n 0, 1), (74, .getfield 54, 3), (77, .ldc2_w 269, 3), (80, .invokevirtual 208, 3), (83, .ifCond .gt 5, 3), (86, .iload_n 2, 1), (87, .ireturn, 1), (88, .iinc 2 1, 3), (91, .iload_n 3, 1), (92, .iconst 2, 1), (93, .idiv, 1), (94, .istore_n 3, 1), (95, .goto (-33), 3), (98, .iload_n 2, 1), (99, .ireturn, 1)]
def qo_88 : List qOp := [(1, 1, 0, 0, .null, []), (0, 0, 0, 0, .int 1, []), (29, 2, 6, 0, .null, []), (1, 2, 0, 0, .null, []), (0, 0, 0, 0, .int 1, []), (29, 3, 8, 0, .null, []), (0, 0, 0, 0, .int 0, []), (50, 0, 0, 0, .null, []), (1, 0, 0, 0, .null, []), (33, 0, 52, 0, .null, [(0, 10), (1, 26), (2, 38)]), (1, 1, 0, 0, .null, []), (0, 0, 0, 0, .int 1, []), (8, 0, 0, 0, .null, []), (1, 1, 0, 0, .null, []), (0, 0, 0, 0, .int 2, []), (1, 2, 0, 0, .null, []), (10, 0, 0, 0, .null, []), (8, 0, 0, 0, .null, []), (10, 0, 0, 0, .null, []), (0, 0, 0, 0, .int 2, []), (1, 1, 0, 0, .null, []), (1, 2, 0, 0, .null, []), (8, 0, 0, 0, .null, []), (10, 0, 0, 0, .null, []), (15, 0, 0, 0, .null, []), (50, 0, 0, 0, .null, []), (0, 0, 0, 0, .int 3, []), (1, 1, 0, 0, .null, []), (10, 0, 0, 0, .null, []), (1, 1, 0, 0, .null, []), (10, 0, 0, 0, .null, []), (0, 0, 0, 0, .int 2, []), (1, 1, 0, 0, .null, []), (1, 2, 0, 0, .null, []), (8, 0, 0, 0, .null, []), (10, 0, 0, 0, .null, []), (15, 0, 0, 0, .null, []), (50, 0, 0, 0, .null, []), (0, 0, 0, 0, .int 5, []), (1, 1, 0, 0, .null, []), (10, 0, 0, 0, .null, []), (1, 1, 0, 0, .null, []), (10, 0, 0, 0, .null, []), (0, 0, 0, 0, .int 4, []), (1, 1, 0, 0, .null, []), (0, 0, 0, 0, .int 3, []), (1, 2, 0, 0, .null, []), (10, 0, 0, 0, .null, []), (8, 0, 0, 0, .null, []), (10, 0, 0, 0, .null, []), (15, 0, 0, 0, .null, []), (50, 0, 0, 0, .null, []), (1, 1, 0, 0, .null, []), (1, 2, 0, 0, .null, []), (15, 0, 0, 0, .null, []), (50, 0, 0, 0, .null, [])]
def qr_88 : List qRow := [(0, .iload_n 1, 1), (1, .iconst 1, 1), (2, .if_icmp .lt 8, 3), (5, .iload_n 2, 1), (6, .iconst 1, 1), (7, .if_icmp .ge 5, 3), (10, .iconst 0, 1), (11, .ireturn, 1), (12, .iload_n 0, 1), (13, .tableswitch 69 0 2 #[27, 43, 55], 27), (40, .iload_n 1, 1), (41, .iconst 1, 1), (42, .iadd, 1), (43, .iload_n 1, 1), (44, .iconst 2, 1), (45, .iload_n 2, 1), (46, .imul, 1), (47, .iadd, 1), (48, .imul, 1), (49, .iconst 2, 1), (50, .iload_n 1, 1), (51, .iload_n 2, 1), (52, .iadd, 1), (53, .imul, 1), (54, .idiv, 1), (55, .ireturn, 1), (56, .iconst 3, 1), (57, .iload_n 1, 1), (58, .imul, 1), (59, .iload_n 1, 1), (60, .imul, 1), (61, .iconst 2, 1), (62, .iload_n 1, 1), (63, .iload_n 2, 1), (64, .iadd, 1), (65, .imul, 1), (66, .idiv, 1), (67, .ireturn, 1), (68, .iconst 5, 1), (69, .iload_n 1, 1), (70, .imul, 1), (71, .iload_n 1, 1), (72, .imul, 1), (73, .iconst 4, 1), (74, .iload_n 1, 1), (75, .iconst 3, 1), (76, .iload_n 2, 1), (77, .imul, 1), (78, .iadd, 1), (79, .imul, 1), (80, .idiv, 1), (81, .ireturn, 1), (82, .iload_n 1, 1), (83, .iload_n 2, 1), (84, .idiv, 1), (85, .ireturn, 1)]
def qo_89 : List qOp := [(1, 0, 0, 0, .null, []), (1, 1, 0, 0, .null, []), (29, 2, 8, 0, .null, []), (1, 0, 0, 0, .null, []), (1, 2, 0, 0, .null, []), (29, 4, 8, 0, .null, []), (0, 0, 0, 0, .int 1, []), (32, 0, 9, 0, .null, []), (0, 0, 0, 0, .int 0, []), (51, 0, 0, 0, .null, [])]
def qr_89 : List qRow := [(0, .iload_n 0, 1), (1, .iload_n 1, 1), (2, .if_icmp .lt 12, 3), (5, .iload_n 0, 1), (6, .iload_n 2, 1), (7, .if_icmp .gt 7, 3), (10, .iconst 1, 1), (11, .goto 4, 3), (14, .iconst 0, 1), (15, .ireturn, 1)]
def qo_90 : List qOp := [(3, 0, 0, 0, .null, []), (36, 7, 0, 589, .null, []), (0, 0, 0, 0, .int 64, []), (41, 0, 0, 0, .null, []), (50, 0, 0, 0, .null, [])]
def qr_90 : List qRow := [(0, .aload_n 0, 1), (1, .getfield 7, 3), (4, .bipush 64, 2), (6, .iaload, 1), (7, .ireturn, 1)]
def qo_91 : List qOp := [(1, 1, 0, 0, .null, []), (0, 0, 0, 0, .int 0, []), (3, 0, 0, 0, .null, []), (49, 90, 0, 7, .null, [(0, 658), (0, 660), (0, 18), (0, 53)]), (0, 0, 0, 0, .int 1, []), (9, 0, 0, 0, .null, []), (48, 89, 3, 0, .null, [(0, 671), (0, 672), (0, 53)]), (51, 0, 0, 0, .null, [])]
def qr_91 : List qRow := [(0, .iload_n 1, 1), (1, .iconst 0, 1), (2, .aload_n 0, 1), (3, .invokevirtual 41, 3), (6, .iconst 1, 1), (7, .isub, 1), (8, .invokestatic 45, 3), (11, .ireturn, 1)]
def qo_92 : List qOp := [(3, 0, 0, 0, .null, []), (1, 1, 0, 0, .null, []), (49, 91, 1, 7, .null, [(0, 678), (0, 680), (0, 20), (0, 53)]), (28, 0, 12, 0, .null, []), (3, 0, 0, 0, .null, []), (36, 7, 0, 589, .null, []), (1, 1, 0, 0, .null, []), (41, 0, 0, 0, .null, []), (0, 588, 0, 0, .int (-1000000001), []), (29, 0, 12, 0, .null, []), (0, 0, 0, 0, .int 1, []), (32, 0, 13, 0, .null, []), (0, 0, 0, 0, .int 0, []), (51, 0, 0, 0, .null, [])]
def qr_92 : List qRow := [(0, .aload_n 0, 1), (1, .iload_n 1, 1), (2, .invokevirtual 49, 3), (5, .ifCond .eq 18, 3), (8, .aload_n 0, 1), (9, .getfield 7, 3), (12, .iload_n 1, 1), (13, .iaload, 1), (14, .ldc 22, 2), (16, .if_icmp .eq 7, 3), (19, .iconst 1, 1), (20, .goto 4, 3), (23, .iconst 0, 1), (24, .ireturn, 1)]
def qo_93 : List qOp := [(3, 0, 0, 0, .null, []), (34, 7, 2, 591, .null, []), (0, 0, 0, 0, .int 8, []), (29, 1, 27, 0, .null, []), (0, 0, 0, 0, .int 0, []), (4, 1, 0, 0, .null, []), (1, 1, 0, 0, .null, []), (0, 0, 0, 0, .int 455, []), (29, 3, 21, 0, .null, []), (3, 0, 0, 0, .null, []), (36, 7, 1, 590, .null, []), (1, 1, 0, 0, .null, []), (3, 0, 0, 0, .null, []), (36, 7, 1, 590, .null, []), (1, 1, 0, 0, .null, []), (0, 0, 0, 0, .int 65, []), (8, 0, 0, 0, .null, []), (41, 0, 0, 0, .null, []), (45, 0, 0, 0, .null, []), (7, 1, 0, 0, .int 1, []), (32, 0, 6, 0, .null, []), (3, 0, 0, 0, .null, []), (55, 0, 0, 0, .null, []), (34, 7, 2, 591, .null, []), (0, 0, 0, 0, .int 1, []), (9, 0, 0, 0, .null, []), (37, 7, 2, 591, .null, []), (0, 0, 0, 0, .int 0, []), (4, 1, 0, 0, .null, []), (1, 1, 0, 0, .null, []), (0, 0, 0, 0, .int 65, []), (29, 3, 47, 0, .null, []), (3, 0, 0, 0, .null, []), (36, 7, 1, 590, .null, []), (0, 0, 0, 0, .int 65, []), (3, 0, 0, 0, .null, []), (34, 7, 2, 591, .null, []), (10, 0, 0, 0, .null, []), (1, 1, 0, 0, .null, []), (8, 0, 0, 0, .null, []), (3, 0, 0, 0, .null, []), (36, 7, 0, 589, .null, []), (1, 1, 0, 0, .null, []), (41, 0, 0, 0, .null, []), (45, 0, 0, 0, .null, []), (7, 1, 0, 0, .int 1, []), (32, 0, 29, 0, .null, []), (3, 0, 0, 0, .null, []), (55, 0, 0, 0, .null, []), (34, 7, 2, 591, .null, []), (0, 0, 0, 0, .int 1, []), (8, 0, 0, 0, .null, []), (37, 7, 2, 591, .null, []), (54, 0, 0, 0, .null, [])]
def qr_93 : List qRow := [(0, .aload_n 0, 1), (1, .getfield 53, 3), (4, .bipush 8, 2), (6, .if_icmp .ne 43, 3), (9, .iconst 0, 1), (10, .istore_n 1, 1), (11, .iload_n 1, 1), (12, .sipush 455, 3), (15, .if_icmp .ge 24, 3), (18, .aload_n 0, 1), (19, .getfield 13, 3), (22, .iload_n 1, 1), (23, .aload_n 0, 1), (24, .getfield 13, 3), (27, .iload_n 1, 1), (28, .bipush 65, 2), (30, .iadd, 1), (31, .iaload, 1), (32, .iastore, 1), (33, .iinc 1 1, 3), (36, .goto (-25), 3), (39, .aload_n 0, 1), (40, .dup, 1), (41, .getfield 53, 3), (44, .iconst 1, 1), (45, .isub, 1), (46, .putfield 53, 3), (49, .iconst 0, 1), (50, .istore_n 1, 1), (51, .iload_n 1, 1), (52, .bipush 65, 2), (54, .if_icmp .ge 29, 3), (57, .aload_n 0, 1), (58, .getfield 13, 3), (61, .bipush 65, 2), (63, .aload_n 0, 1), (64, .getfield 53, 3), (67, .imul, 1), (68, .iload_n 1, 1), (69, .iadd, 1), (70, .aload_n 0, 1), (71, .getfield 7, 3), (74, .iload_n 1, 1), (75, .iaload, 1), (76, .iastore, 1), (77, .iinc 1 1, 3), (80, .goto (-29), 3), (83, .aload_n 0, 1), (84, .dup, 1), (85, .getfield 53, 3), (88, .iconst 1, 1), (89, .iadd, 1), (90, .putfield 53, 3), (93, .return_, 1)]
def qo_94 : List qOp := [(2, 0, 0, 0, .null, []), (0, 655, 0, 0, .long (-99999), []), (25, 0, 0, 0, .null, []), (28, 2, 10, 0, .null, []), (2, 0, 0, 0, .null, []), (0, 656, 0, 0, .long 99999, []), (25, 0, 0, 0, .null, []), (28, 4, 10, 0, .null, []), (0, 0, 0, 0, .int 1, []), (32, 0, 11, 0, .null, []), (0, 0, 0, 0, .int 0, []), (51, 0, 0, 0, .null, [])]
def qr_94 : List qRow := [(0, .lload_n 0, 1), (1, .ldc2_w 56, 3), (4, .lcmp, 1), (5, .ifCond .lt 15, 3), (8, .lload_n 0, 1), (9, .ldc2_w 58, 3), (12, .lcmp, 1), (13, .ifCond .gt 7, 3), (16, .iconst 1, 1), (17, .goto 4, 3), (20, .iconst 0, 1), (21, .ireturn, 1)]
def qo_95 : List qOp := [(2, 0, 0, 0, .null, []), (2, 2, 0, 0, .null, []), (21, 0, 0, 0, .null, []), (5, 4, 0, 0, .null, []), (2, 0, 0, 0, .null, []), (2, 2, 0, 0, .null, []), (22, 0, 0, 0, .null, []), (0, 0, 0, 0, .long 0, []), (25, 0, 0, 0, .null, []), (28, 3, 14, 0, .null, []), (2, 4, 0, 0, .null, []), (0, 0, 0, 0, .long 1, []), (19, 0, 0, 0, .null, []), (32, 0, 15, 0, .null, []), (2, 4, 0, 0, .null, []), (52, 0, 0, 0, .null, [])]
def qr_95 : List qRow := [(0, .lload_n 0, 1), (1, .lload_n 2, 1), (2, .ldiv, 1), (3, .lstore 4, 2), (5, .lload_n 0, 1), (6, .lload_n 2, 1), (7, .lrem, 1), (8, .lconst 0, 1), (9, .lcmp, 1), (10, .ifCond .ge 10, 3), (13, .lload 4, 2), (15, .lconst 1, 1), (16, .lsub, 1), (17, .goto 5, 3), (20, .lload 4, 2), (22, .lreturn, 1)]
def qo_96 : List qOp := [(1, 1, 0, 0, .null, []), (26, 0, 0, 0, .null, []), (48, 94, 1, 0, .null, [(0, 652), (0, 653), (0, 53)]), (28, 1, 6, 0, .null, []), (0, 657, 0, 0, .int (-1000000002), []), (50, 0, 0, 0, .null, []), (3, 0, 0, 0, .null, []), (49, 90, 0, 7, .null, [(0, 658), (0, 660), (0, 18), (0, 53)]), (0, 0, 0, 0, .int 64, []), (29, 1, 12, 0, .null, []), (0, 662, 0, 0, .int (-1000000004), []), (50, 0, 0, 0, .null, []), (3, 0, 0, 0, .null, []), (49, 93, 0, 7, .null, [(0, 663), (0, 665), (0, 19), (0, 53)]), (3, 0, 0, 0, .null, []), (36, 7, 0, 589, .null, []), (3, 0, 0, 0, .null, []), (49, 90, 0, 7, .null, [(0, 658), (0, 660), (0, 18), (0, 53)]), (1, 1, 0, 0, .null, []), (45, 0, 0, 0, .null, []), (3, 0, 0, 0, .null, []), (36, 7, 0, 589, .null, []), (0, 0, 0, 0, .int 64, []), (56, 0, 0, 0, .null, []), (41, 0, 0, 0, .null, []), (0, 0, 0, 0, .int 1, []), (8, 0, 0, 0, .null, []), (45, 0, 0, 0, .null, []), (3, 0, 0, 0, .null, []), (49, 90, 0, 7, .null, [(0, 658), (0, 660), (0, 18), (0, 53)]), (0, 0, 0, 0, .int 1, []), (9, 0, 0, 0, .null, []), (50, 0, 0, 0, .null, [])]
def qr_96 : List qRow := [(0, .iload_n 1, 1), (1, .i2l, 1), (2, .invokestatic 60, 3), (5, .ifCond .ne 6, 3), (8, .ldc 64, 2), (10, .ireturn, 1), (11, .aload_n 0, 1), (12, .invokevirtual 41, 3), (15, .bipush 64, 2), (17, .if_icmp .ne 6, 3), (20, .ldc 65, 2), (22, .ireturn, 1), (23, .aload_n 0, 1), (24, .invokevirtual 66, 3), (27, .aload_n 0, 1), (28, .getfield 7, 3), (31, .aload_n 0, 1), (32, .invokevirtual 41, 3), (35, .iload_n 1, 1), (36, .iastore, 1), (37, .aload_n 0, 1), (38, .getfield 7, 3), (41, .bipush 64, 2), (43, .dup2, 1), (44, .iaload, 1), (45, .iconst 1, 1), (46, .iadd, 1), (47, .iastore, 1), (48, .aload_n 0, 1), (49, .invokevirtual 41, 3), (52, .iconst 1, 1), (53, .isub, 1), (54, .ireturn, 1)]
def qo_97 : List qOp := [(1, 1, 0, 0, .null, []), (0, 0, 0, 0, .int 1, []), (0, 0, 0, 0, .int 64, []), (48, 89, 3, 0, .null, [(0, 671), (0, 672), (0, 53)]), (28, 1, 7, 0, .null, []), (0, 657, 0, 0, .int (-1000000002), []), (50, 0, 0, 0, .null, []), (3, 0, 0, 0, .null, []), (49, 90, 0, 7, .null, [(0, 658), (0, 660), (0, 18), (0, 53)]), (1, 1, 0, 0, .null, []), (8, 0, 0, 0, .null, []), (0, 0, 0, 0, .int 64, []), (29, 5, 15, 0, .null, []), (0, 662, 0, 0, .int (-1000000004), []), (50, 0, 0, 0, .null, []), (3, 0, 0, 0, .null, []), (49, 93, 0, 7, .null, [(0, 663), (0, 665), (0, 19), (0, 53)]), (0, 0, 0, 0, .int 0, []), (4, 2, 0, 0, .null, []), (1, 2, 0, 0, .null, []), (1, 1, 0, 0, .null, []), (29, 3, 32, 0, .null, []), (3, 0, 0, 0, .null, []), (36, 7, 0, 589, .null, []), (3, 0, 0, 0, .null, []), (49, 90, 0, 7, .null, [(0, 658), (0, 660), (0, 18), (0, 53)]), (1, 2, 0, 0, .null, []), (8, 0, 0, 0, .null, []), (0, 588, 0, 0, .int (-1000000001), []), (45, 0, 0, 0, .null, []), (7, 2, 0, 0, .int 1, []), (32, 0, 19, 0, .null, []), (3, 0, 0, 0, .null, []), (36, 7, 0, 589, .null, []), (0, 0, 0, 0, .int 64, []), (56, 0, 0, 0, .null, []), (41, 0, 0, 0, .null, []), (1, 1, 0, 0, .null, []), (8, 0, 0, 0, .null, []), (45, 0, 0, 0, .null, []), (3, 0, 0, 0, .null, []), (49, 90, 0, 7, .null, [(0, 658), (0, 660), (0, 18), (0, 53)]), (50, 0, 0, 0, .null, [])]
def qr_97 : List qRow := [(0, .iload_n 1, 1), (1, .iconst 1, 1), (2, .bipush 64, 2), (4, .invokestatic 45, 3), (7, .ifCond .ne 6, 3), (10, .ldc 64, 2), (12, .ireturn, 1), (13, .aload_n 0, 1), (14, .invokevirtual 41, 3), (17, .iload_n 1, 1), (18, .iadd, 1), (19, .bipush 64, 2), (21, .if_icmp .le 6, 3), (24, .ldc 65, 2), (26, .ireturn, 1), (27, .aload_n 0, 1), (28, .invokevirtual 66, 3), (31, .iconst 0, 1), (32, .istore_n 2, 1), (33, .iload_n 2, 1), (34, .iload_n 1, 1), (35, .if_icmp .ge 22, 3), (38, .aload_n 0, 1), (39, .getfield 7, 3), (42, .aload_n 0, 1), (43, .invokevirtual 41, 3), (46, .iload_n 2, 1), (47, .iadd, 1), (48, .ldc 22, 2), (50, .iastore, 1), (51, .iinc 2 1, 3), (54, .goto (-21), 3), (57, .aload_n 0, 1), (58, .getfield 7, 3), (61, .bipush 64, 2), (63, .dup2, 1), (64, .iaload, 1), (65, .iload_n 1, 1), (66, .iadd, 1), (67, .iastore, 1), (68, .aload_n 0, 1), (69, .invokevirtual 41, 3), (72, .ireturn, 1)]
def qo_98 : List qOp := [(3, 0, 0, 0, .null, []), (1, 1, 0, 0, .null, []), (49, 91, 1, 7, .null, [(0, 678), (0, 680), (0, 20), (0, 53)]), (28, 0, 11, 0, .null, []), (1, 2, 0, 0, .null, []), (26, 0, 0, 0, .null, []), (48, 94, 1, 0, .null, [(0, 652), (0, 653), (0, 53)]), (28, 1, 13, 0, .null, []), (1, 2, 0, 0, .null, []), (0, 588, 0, 0, .int (-1000000001), []), (29, 0, 13, 0, .null, []), (0, 657, 0, 0, .int (-1000000002), []), (50, 0, 0, 0, .null, []), (3, 0, 0, 0, .null, []), (49, 93, 0, 7, .null, [(0, 663), (0, 665), (0, 19), (0, 53)]), (3, 0, 0, 0, .null, []), (36, 7, 0, 589, .null, []), (1, 1, 0, 0, .null, []), (41, 0, 0, 0, .null, []), (4, 3, 0, 0, .null, []), (3, 0, 0, 0, .null, []), (36, 7, 0, 589, .null, []), (1, 1, 0, 0, .null, []), (1, 2, 0, 0, .null, []), (45, 0, 0, 0, .null, []), (1, 3, 0, 0, .null, []), (50, 0, 0, 0, .null, [])]
def qr_98 : List qRow := [(0, .aload_n 0, 1), (1, .iload_n 1, 1), (2, .invokevirtual 49, 3), (5, .ifCond .eq 17, 3), (8, .iload_n 2, 1), (9, .i2l, 1), (10, .invokestatic 60, 3), (13, .ifCond .ne 12, 3), (16, .iload_n 2, 1), (17, .ldc 22, 2), (19, .if_icmp .eq 6, 3), (22, .ldc 64, 2), (24, .ireturn, 1), (25, .aload_n 0, 1), (26, .invokevirtual 66, 3), (29, .aload_n 0, 1), (30, .getfield 7, 3), (33, .iload_n 1, 1), (34, .iaload, 1), (35, .istore_n 3, 1), (36, .aload_n 0, 1), (37, .getfield 7, 3), (40, .iload_n 1, 1), (41, .iload_n 2, 1), (42, .iastore, 1), (43, .iload_n 3, 1), (44, .ireturn, 1)]
def qo_99 : List qOp := [(3, 0, 0, 0, .null, []), (49, 90, 0, 7, .null, [(0, 658), (0, 660), (0, 18), (0, 53)]), (4, 1, 0, 0, .null, []), (3, 0, 0, 0, .null, []), (49, 93, 0, 7, .null, [(0, 663), (0, 665), (0, 19), (0, 53)]), (3, 0, 0, 0, .null, []), (36, 7, 0, 589, .null, []), (0, 0, 0, 0, .int 64, []), (0, 0, 0, 0, .int 0, []), (45, 0, 0, 0, .null, []), (1, 1, 0, 0, .null, []), (50, 0, 0, 0, .null, [])]
def qr_99 : List qRow := [(0, .aload_n 0, 1), (1, .invokevirtual 41, 3), (4, .istore_n 1, 1), (5, .aload_n 0, 1), (6, .invokevirtual 66, 3), (9, .aload_n 0, 1), (10, .getfield 7, 3), (13, .bipush 64, 2), (15, .iconst 0, 1), (16, .iastore, 1), (17, .iload_n 1, 1), (18, .ireturn, 1)]
def qo_100 : List qOp := [(0, 0, 0, 0, .int 0, []), (4, 1, 0, 0, .null, []), (0, 0, 0, 0, .int 0, []), (4, 2, 0, 0, .null, []), (1, 2, 0, 0, .null, []), (3, 0, 0, 0, .null, []), (49, 90, 0, 7, .null, [(0, 658), (0, 660), (0, 18), (0, 53)]), (29, 3, 45, 0, .null, []), (3, 0, 0, 0, .null, []), (1, 2, 0, 0, .null, []), (49, 92, 1, 7, .null, [(0, 690), (0, 692), (0, 21), (0, 53)]), (28, 0, 26, 0, .null, []), (3, 0, 0, 0, .null, []), (36, 7, 0, 589, .null, []), (1, 2, 0, 0, .null, []), (41, 0, 0, 0, .null, []), (26, 0, 0, 0, .null, []), (3, 0, 0, 0, .null, []), (36, 7, 9, 598, .null, []), (1, 2, 0, 0, .null, []), (42, 0, 0, 0, .null, []), (19, 0, 0, 0, .null, []), (48, 94, 1, 0, .null, [(0, 652), (0, 653), (0, 53)]), (28, 1, 26, 0, .null, []), (0, 706, 0, 0, .int (-1000000005), []), (50, 0, 0, 0, .null, []), (1, 1, 0, 0, .null, []), (3, 0, 0, 0, .null, []), (1, 2, 0, 0, .null, []), (49, 92, 1, 7, .null, [(0, 690), (0, 692), (0, 21), (0, 53)]), (28, 0, 40, 0, .null, []), (3, 0, 0, 0, .null, []), (36, 7, 9, 598, .null, []), (1, 2, 0, 0, .null, []), (42, 0, 0, 0, .null, []), (0, 0, 0, 0, .long 0, []), (25, 0, 0, 0, .null, []), (28, 0, 40, 0, .null, []), (0, 0, 0, 0, .int 1, []), (32, 0, 41, 0, .null, []), (0, 0, 0, 0, .int 0, []), (8, 0, 0, 0, .null, []), (4, 1, 0, 0, .null, []), (7, 2, 0, 0, .int 1, []), (32, 0, 4, 0, .null, []), (3, 0, 0, 0, .null, []), (49, 93, 0, 7, .null, [(0, 663), (0, 665), (0, 19), (0, 53)]), (0, 0, 0, 0, .int 0, []), (4, 2, 0, 0, .null, []), (1, 2, 0, 0, .null, []), (3, 0, 0, 0, .null, []), (49, 90, 0, 7, .null, [(0, 658), (0, 660), (0, 18), (0, 53)]), (29, 3, 76, 0, .null, []), (3, 0, 0, 0, .null, []), (36, 7, 0, 589, .null, []), (1, 2, 0, 0, .null, []), (3, 0, 0, 0, .null, []), (1, 2, 0, 0, .null, []), (49, 92, 1, 7, .null, [(0, 690), (0, 692), (0, 21), (0, 53)]), (28, 0, 72, 0, .null, []), (3, 0, 0, 0, .null, []), (36, 7, 0, 589, .null, []), (1, 2, 0, 0, .null, []), (41, 0, 0, 0, .null, []), (26, 0, 0, 0, .null, []), (3, 0, 0, 0, .null, []), (36, 7, 9, 598, .null, []), (1, 2, 0, 0, .null, []), (42, 0, 0, 0, .null, []), (19, 0, 0, 0, .null, []), (27, 0, 0, 0, .null, []), (32, 0, 73, 0, .null, []), (0, 588, 0, 0, .int (-1000000001), []), (45, 0, 0, 0, .null, []), (7, 2, 0, 0, .int 1, []), (32, 0, 49, 0, .null, []), (1, 1, 0, 0, .null, []), (50, 0, 0, 0, .null, [])]
def qr_100 : List qRow := [(0, .iconst 0, 1), (1, .istore_n 1, 1), (2, .iconst 0, 1), (3, .istore_n 2, 1), (4, .iload_n 2, 1), (5, .aload_n 0, 1), (6, .invokevirtual 41, 3), (9, .if_icmp .ge 67, 3), (12, .aload_n 0, 1), (13, .iload_n 2, 1), (14, .invokevirtual 69, 3), (17, .ifCond .eq 26, 3), (20, .aload_n 0, 1), (21, .getfield 7, 3), (24, .iload_n 2, 1), (25, .iaload, 1), (26, .i2l, 1), (27, .aload_n 0, 1), (28, .getfield 30, 3), (31, .iload_n 2, 1), (32, .laload, 1), (33, .lsub, 1), (34, .invokestatic 60, 3), (37, .ifCond .ne 6, 3), (40, .ldc 72, 2), (42, .ireturn, 1), (43, .iload_n 1, 1), (44, .aload_n 0, 1), (45, .iload_n 2, 1), (46, .invokevirtual 69, 3), (49, .ifCond .eq 18, 3), (52, .aload_n 0, 1), (53, .getfield 30, 3), (56, .iload_n 2, 1), (57, .laload, 1), (58, .lconst 0, 1), (59, .lcmp, 1), (60, .ifCond .eq 7, 3), (63, .iconst 1, 1), (64, .goto 4, 3), (67, .iconst 0, 1), (68, .iadd, 1), (69, .istore_n 1, 1), (70, .iinc 2 1, 3), (73, .goto (-69), 3), (76, .aload_n 0, 1), (77, .invokevirtual 66, 3), (80, .iconst 0, 1), (81, .istore_n 2, 1), (82, .iload_n 2, 1), (83, .aload_n 0, 1), (84, .invokevirtual 41, 3), (87, .if_icmp .ge 43, 3), (90, .aload_n 0, 1), (91, .getfield 7, 3), (94, .iload_n 2, 1), (95, .aload_n 0, 1), (96, .iload_n 2, 1), (97, .invokevirtual 69, 3), (100, .ifCond .eq 21, 3), (103, .aload_n 0, 1), (104, .getfield 7, 3), (107, .iload_n 2, 1), (108, .iaload, 1), (109, .i2l, 1), (110, .aload_n 0, 1), (111, .getfield 30, 3), (114, .iload_n 2, 1), (115, .laload, 1), (116, .lsub, 1), (117, .l2i, 1), (118, .goto 5, 3), (121, .ldc 22, 2), (123, .iastore, 1), (124, .iinc 2 1, 3), (127, .goto (-45), 3), (130, .iload_n 1, 1), (131, .ireturn, 1)]
def qo_101 : List qOp := [(3, 0, 0, 0, .null, []), (36, 7, 0, 589, .null, []), (1, 2, 0, 0, .null, []), (41, 0, 0, 0, .null, []), (3, 0, 0, 0, .null, []), (36, 7, 0, 589, .null, []), (1, 1, 0, 0, .null, []), (41, 0, 0, 0, .null, []), (9, 0, 0, 0, .null, []), (26, 0, 0, 0, .null, []), (5, 4, 0, 0, .null, []), (3, 0, 0, 0, .null, []), (36, 7, 0, 589, .null, []), (1, 1, 0, 0, .null, []), (41, 0, 0, 0, .null, []), (26, 0, 0, 0, .null, []), (2, 4, 0, 0, .null, []), (1, 3, 0, 0, .null, []), (1, 1, 0, 0, .null, []), (9, 0, 0, 0, .null, []), (26, 0, 0, 0, .null, []), (20, 0, 0, 0, .null, []), (1, 2, 0, 0, .null, []), (1, 1, 0, 0, .null, []), (9, 0, 0, 0, .null, []), (26, 0, 0, 0, .null, []), (48, 95, 2, 0, .null, [(0, 699), (0, 700), (0, 53)]), (18, 0, 0, 0, .null, []), (52, 0, 0, 0, .null, [])]
def qr_101 : List qRow := [(0, .aload_n 0, 1), (1, .getfield 7, 3), (4, .iload_n 2, 1), (5, .iaload, 1), (6, .aload_n 0, 1), (7, .getfield 7, 3), (10, .iload_n 1, 1), (11, .iaload, 1), (12, .isub, 1), (13, .i2l, 1), (14, .lstore 4, 2), (16, .aload_n 0, 1), (17, .getfield 7, 3), (20, .iload_n 1, 1), (21, .iaload, 1), (22, .i2l, 1), (23, .lload 4, 2), (25, .iload_n 3, 1), (26, .iload_n 1, 1), (27, .isub, 1), (28, .i2l, 1), (29, .lmul, 1), (30, .iload_n 2, 1), (31, .iload_n 1, 1), (32, .isub, 1), (33, .i2l, 1), (34, .invokestatic 73, 3), (37, .ladd, 1), (38, .lreturn, 1)]
def qo_102 : List qOp := [(3, 0, 0, 0, .null, []), (1, 1, 0, 0, .null, []), (49, 91, 1, 7, .null, [(0, 678), (0, 680), (0, 20), (0, 53)]), (28, 0, 11, 0, .null, []), (3, 0, 0, 0, .null, []), (1, 2, 0, 0, .null, []), (49, 91, 1, 7, .null, [(0, 678), (0, 680), (0, 20), (0, 53)]), (28, 0, 11, 0, .null, []), (1, 2, 0, 0, .null, []), (1, 1, 0, 0, .null, []), (29, 4, 13, 0, .null, []), (0, 657, 0, 0, .int (-1000000002), []), (50, 0, 0, 0, .null, []), (3, 0, 0, 0, .null, []), (1, 1, 0, 0, .null, []), (49, 92, 1, 7, .null, [(0, 690), (0, 692), (0, 21), (0, 53)]), (28, 0, 21, 0, .null, []), (3, 0, 0, 0, .null, []), (1, 2, 0, 0, .null, []), (49, 92, 1, 7, .null, [(0, 690), (0, 692), (0, 21), (0, 53)]), (28, 1, 23, 0, .null, []), (0, 694, 0, 0, .int (-1000000003), []), (50, 0, 0, 0, .null, []), (0, 0, 0, 0, .int 0, []), (4, 3, 0, 0, .null, []), (1, 3, 0, 0, .null, []), (3, 0, 0, 0, .null, []), (49, 90, 0, 7, .null, [(0, 658), (0, 660), (0, 18), (0, 53)]), (29, 3, 40, 0, .null, []), (3, 0, 0, 0, .null, []), (36, 7, 9, 598, .null, []), (1, 3, 0, 0, .null, []), (3, 0, 0, 0, .null, []), (1, 1, 0, 0, .null, []), (1, 2, 0, 0, .null, []), (1, 3, 0, 0, .null, []), (49, 101, 3, 7, .null, [(0, 695), (0, 697), (0, 22), (0, 53)]), (46, 0, 0, 0, .null, []), (7, 3, 0, 0, .int 1, []), (32, 0, 25, 0, .null, []), (3, 0, 0, 0, .null, []), (49, 100, 0, 7, .null, [(0, 702), (0, 704), (0, 23), (0, 53)]), (50, 0, 0, 0, .null, [])]
def qr_102 : List qRow := [(0, .aload_n 0, 1), (1, .iload_n 1, 1), (2, .invokevirtual 49, 3), (5, .ifCond .eq 16, 3), (8, .aload_n 0, 1), (9, .iload_n 2, 1), (10, .invokevirtual 49, 3), (13, .ifCond .eq 8, 3), (16, .iload_n 2, 1), (17, .iload_n 1, 1), (18, .if_icmp .gt 6, 3), (21, .ldc 64, 2), (23, .ireturn, 1), (24, .aload_n 0, 1), (25, .iload_n 1, 1), (26, .invokevirtual 69, 3), (29, .ifCond .eq 11, 3), (32, .aload_n 0, 1), (33, .iload_n 2, 1), (34, .invokevirtual 69, 3), (37, .ifCond .ne 6, 3), (40, .ldc 77, 2), (42, .ireturn, 1), (43, .iconst 0, 1), (44, .istore_n 3, 1), (45, .iload_n 3, 1), (46, .aload_n 0, 1), (47, .invokevirtual 41, 3), (50, .if_icmp .ge 22, 3), (53, .aload_n 0, 1), (54, .getfield 30, 3), (57, .iload_n 3, 1), (58, .aload_n 0, 1), (59, .iload_n 1, 1), (60, .iload_n 2, 1), (61, .iload_n 3, 1), (62, .invokevirtual 78, 3), (65, .lastore, 1), (66, .iinc 3 1, 3), (69, .goto (-24), 3), (72, .aload_n 0, 1), (73, .invokevirtual 82, 3), (76, .ireturn, 1)]
def qo_103 : List qOp := [(1, 1, 0, 0, .null, []), (0, 0, 0, 0, .int (-9999), []), (0, 0, 0, 0, .int 9999, []), (48, 89, 3, 0, .null, [(0, 671), (0, 672), (0, 53)]), (28, 0, 10, 0, .null, []), (1, 2, 0, 0, .null, []), (0, 711, 0, 0, .int (-99999), []), (0, 712, 0, 0, .int 99999, []), (48, 89, 3, 0, .null, [(0, 671), (0, 672), (0, 53)]), (28, 1, 12, 0, .null, []), (0, 657, 0, 0, .int (-1000000002), []), (50, 0, 0, 0, .null, []), (0, 0, 0, 0, .int 0, []), (4, 3, 0, 0, .null, []), (1, 3, 0, 0, .null, []), (3, 0, 0, 0, .null, []), (49, 90, 0, 7, .null, [(0, 658), (0, 660), (0, 18), (0, 53)]), (29, 3, 33, 0, .null, []), (3, 0, 0, 0, .null, []), (36, 7, 9, 598, .null, []), (1, 3, 0, 0, .null, []), (1, 1, 0, 0, .null, []), (26, 0, 0, 0, .null, []), (1, 3, 0, 0, .null, []), (26, 0, 0, 0, .null, []), (20, 0, 0, 0, .null, []), (1, 2, 0, 0, .null, []), (26, 0, 0, 0, .null, []), (18, 0, 0, 0, .null, []), (23, 0, 0, 0, .null, []), (46, 0, 0, 0, .null, []), (7, 3, 0, 0, .int 1, []), (32, 0, 14, 0, .null, []), (3, 0, 0, 0, .null, []), (49, 100, 0, 7, .null, [(0, 702), (0, 704), (0, 23), (0, 53)]), (50, 0, 0, 0, .null, [])]
def qr_103 : List qRow := [(0, .iload_n 1, 1), (1, .sipush (-9999), 3), (4, .sipush 9999, 3), (7, .invokestatic 45, 3), (10, .ifCond .eq 14, 3), (13, .iload_n 2, 1), (14, .ldc 85, 2), (16, .ldc 86, 2), (18, .invokestatic 45, 3), (21, .ifCond .ne 6, 3), (24, .ldc 64, 2), (26, .ireturn, 1), (27, .iconst 0, 1), (28, .istore_n 3, 1), (29, .iload_n 3, 1), (30, .aload_n 0, 1), (31, .invokevirtual 41, 3), (34, .if_icmp .ge 24, 3), (37, .aload_n 0, 1), (38, .getfield 30, 3), (41, .iload_n 3, 1), (42, .iload_n 1, 1), (43, .i2l, 1), (44, .iload_n 3, 1), (45, .i2l, 1), (46, .lmul, 1), (47, .iload_n 2, 1), (48, .i2l, 1), (49, .ladd, 1), (50, .lneg, 1), (51, .lastore, 1), (52, .iinc 3 1, 3), (55, .goto (-26), 3), (58, .aload_n 0, 1), (59, .invokevirtual 82, 3), (62, .ireturn, 1)]
def qo_104 : List qOp := [(3, 0, 0, 0, .null, []), (0, 0, 0, 0, .int 2, []), (0, 0, 0, 0, .int 1, []), (49, 125, 2, 7, .null, [(0, 717), (0, 719), (0, 24), (0, 53)]), (4, 1, 0, 0, .null, []), (1, 1, 0, 0, .null, []), (28, 1, 9, 0, .null, []), (0, 694, 0, 0, .int (-1000000003), []), (50, 0, 0, 0, .null, []), (0, 0, 0, 0, .long 0, []), (5, 2, 0, 0, .null, []), (0, 0, 0, 0, .int 0, []), (4, 4, 0, 0, .null, []), (1, 4, 0, 0, .null, []), (3, 0, 0, 0, .null, []), (49, 90, 0, 7, .null, [(0, 658), (0, 660), (0, 18), (0, 53)]), (29, 3, 36, 0, .null, []), (2, 2, 0, 0, .null, []), (3, 0, 0, 0, .null, []), (0, 0, 0, 0, .int 2, []), (0, 0, 0, 0, .int 1, []), (1, 4, 0, 0, .null, []), (49, 119, 3, 7, .null, [(0, 721), (0, 723), (0, 25), (0, 53)]), (28, 0, 31, 0, .null, []), (3, 0, 0, 0, .null, []), (0, 0, 0, 0, .int 2, []), (0, 0, 0, 0, .int 1, []), (1, 4, 0, 0, .null, []), (49, 122, 3, 7, .null, [(0, 729), (0, 731), (0, 27), (0, 53)]), (26, 0, 0, 0, .null, []), (32, 0, 32, 0, .null, []), (0, 0, 0, 0, .long 0, []), (18, 0, 0, 0, .null, []), (5, 2, 0, 0, .null, []), (7, 4, 0, 0, .int 1, []), (32, 0, 13, 0, .null, []), (2, 2, 0, 0, .null, []), (1, 1, 0, 0, .null, []), (26, 0, 0, 0, .null, []), (48, 95, 2, 0, .null, [(0, 699), (0, 700), (0, 53)]), (5, 4, 0, 0, .null, []), (0, 0, 0, 0, .int 0, []), (4, 6, 0, 0, .null, []), (1, 6, 0, 0, .null, []), (3, 0, 0, 0, .null, []), (49, 90, 0, 7, .null, [(0, 658), (0, 660), (0, 18), (0, 53)]), (29, 3, 63, 0, .null, []), (3, 0, 0, 0, .null, []), (36, 7, 9, 598, .null, []), (1, 6, 0, 0, .null, []), (2, 4, 0, 0, .null, []), (1, 6, 0, 0, .null, []), (1, 6, 0, 0, .null, []), (0, 0, 0, 0, .int 1, []), (9, 0, 0, 0, .null, []), (10, 0, 0, 0, .null, []), (0, 0, 0, 0, .int 2, []), (15, 0, 0, 0, .null, []), (26, 0, 0, 0, .null, []), (20, 0, 0, 0, .null, []), (46, 0, 0, 0, .null, []), (7, 6, 0, 0, .int 1, []), (32, 0, 43, 0, .null, []), (3, 0, 0, 0, .null, []), (49, 100, 0, 7, .null, [(0, 702), (0, 704), (0, 23), (0, 53)]), (4, 6, 0, 0, .null, []), (1, 6, 0, 0, .null, []), (0, 706, 0, 0, .int (-1000000005), []), (29, 1, 71, 0, .null, []), (0, 706, 0, 0, .int (-1000000005), []), (32, 0, 73, 0, .null, []), (2, 4, 0, 0, .null, []), (27, 0, 0, 0, .null, []), (50, 0, 0, 0, .null, [])]
def qr_104 : List qRow := [(0, .aload_n 0, 1), (1, .iconst 2, 1), (2, .iconst 1, 1), (3, .invokevirtual 87, 3), (6, .istore_n 1, 1), (7, .iload_n 1, 1), (8, .ifCond .ne 6, 3), (11, .ldc 77, 2), (13, .ireturn, 1), (14, .lconst 0, 1), (15, .lstore_n 2, 1), (16, .iconst 0, 1), (17, .istore 4, 2), (19, .iload 4, 2), (21, .aload_n 0, 1), (22, .invokevirtual 41, 3), (25, .if_icmp .ge 36, 3), (28, .lload_n 2, 1), (29, .aload_n 0, 1), (30, .iconst 2, 1), (31, .iconst 1, 1), (32, .iload 4, 2), (34, .invokevirtual 91, 3), (37, .ifCond .eq 15, 3), (40, .aload_n 0, 1), (41, .iconst 2, 1), (42, .iconst 1, 1), (43, .iload 4, 2), (45, .invokevirtual 94, 3), (48, .i2l, 1), (49, .goto 4, 3), (52, .lconst 0, 1), (53, .ladd, 1), (54, .lstore_n 2, 1), (55, .iinc 4 1, 3), (58, .goto (-39), 3), (61, .lload_n 2, 1), (62, .iload_n 1, 1), (63, .i2l, 1), (64, .invokestatic 73, 3), (67, .lstore 4, 2), (69, .iconst 0, 1), (70, .istore 6, 2), (72, .iload 6, 2), (74, .aload_n 0, 1), (75, .invokevirtual 41, 3), (78, .if_icmp .ge 29, 3), (81, .aload_n 0, 1), (82, .getfield 30, 3), (85, .iload 6, 2), (87, .lload 4, 2), (89, .iload 6, 2), (91, .iload 6, 2), (93, .iconst 1, 1), (94, .isub, 1), (95, .imul, 1), (96, .iconst 2, 1), (97, .idiv, 1), (98, .i2l, 1), (99, .lmul, 1), (100, .lastore, 1), (101, .iinc 6 1, 3), (104, .goto (-32), 3), (107, .aload_n 0, 1), (108, .invokevirtual 82, 3), (111, .istore 6, 2), (113, .iload 6, 2), (115, .ldc 72, 2), (117, .if_icmp .ne 8, 3), (120, .ldc 72, 2), (122, .goto 6, 3), (125, .lload 4, 2), (127, .l2i, 1), (128, .ireturn, 1)]
def qo_105 : List qOp := [(3, 0, 0, 0, .null, []), (1, 1, 0, 0, .null, []), (49, 92, 1, 7, .null, [(0, 690), (0, 692), (0, 21), (0, 53)]), (28, 0, 16, 0, .null, []), (3, 0, 0, 0, .null, []), (1, 1, 0, 0, .null, []), (0, 0, 0, 0, .int 1, []), (9, 0, 0, 0, .null, []), (49, 92, 1, 7, .null, [(0, 690), (0, 692), (0, 21), (0, 53)]), (28, 0, 16, 0, .null, []), (3, 0, 0, 0, .null, []), (1, 1, 0, 0, .null, []), (0, 0, 0, 0, .int 1, []), (8, 0, 0, 0, .null, []), (49, 92, 1, 7, .null, [(0, 690), (0, 692), (0, 21), (0, 53)]), (28, 1, 18, 0, .null, []), (0, 0, 0, 0, .int 0, []), (51, 0, 0, 0, .null, []), (0, 0, 0, 0, .int 2, []), (3, 0, 0, 0, .null, []), (36, 7, 0, 589, .null, []), (1, 1, 0, 0, .null, []), (41, 0, 0, 0, .null, []), (10, 0, 0, 0, .null, []), (3, 0, 0, 0, .null, []), (36, 7, 0, 589, .null, []), (1, 1, 0, 0, .null, []), (0, 0, 0, 0, .int 1, []), (9, 0, 0, 0, .null, []), (41, 0, 0, 0, .null, []), (9, 0, 0, 0, .null, []), (3, 0, 0, 0, .null, []), (36, 7, 0, 589, .null, []), (1, 1, 0, 0, .null, []), (0, 0, 0, 0, .int 1, []), (8, 0, 0, 0, .null, []), (41, 0, 0, 0, .null, []), (9, 0, 0, 0, .null, []), (4, 3, 0, 0, .null, []), (1, 3, 0, 0, .null, []), (0, 0, 0, 0, .int 2, []), (1, 2, 0, 0, .null, []), (10, 0, 0, 0, .null, []), (29, 4, 49, 0, .null, []), (1, 3, 0, 0, .null, []), (0, 0, 0, 0, .int (-2), []), (1, 2, 0, 0, .null, []), (10, 0, 0, 0, .null, []), (29, 3, 51, 0, .null, []), (0, 0, 0, 0, .int 1, []), (32, 0, 52, 0, .null, []), (0, 0, 0, 0, .int 0, []), (51, 0, 0, 0, .null, [])]
def qr_105 : List qRow := [(0, .aload_n 0, 1), (1, .iload_n 1, 1), (2, .invokevirtual 69, 3), (5, .ifCond .eq 23, 3), (8, .aload_n 0, 1), (9, .iload_n 1, 1), (10, .iconst 1, 1), (11, .isub, 1), (12, .invokevirtual 69, 3), (15, .ifCond .eq 13, 3), (18, .aload_n 0, 1), (19, .iload_n 1, 1), (20, .iconst 1, 1), (21, .iadd, 1), (22, .invokevirtual 69, 3), (25, .ifCond .ne 5, 3), (28, .iconst 0, 1), (29, .ireturn, 1), (30, .iconst 2, 1), (31, .aload_n 0, 1), (32, .getfield 7, 3), (35, .iload_n 1, 1), (36, .iaload, 1), (37, .imul, 1), (38, .aload_n 0, 1), (39, .getfield 7, 3), (42, .iload_n 1, 1), (43, .iconst 1, 1), (44, .isub, 1), (45, .iaload, 1), (46, .isub, 1), (47, .aload_n 0, 1), (48, .getfield 7, 3), (51, .iload_n 1, 1), (52, .iconst 1, 1), (53, .iadd, 1), (54, .iaload, 1), (55, .isub, 1), (56, .istore_n 3, 1), (57, .iload_n 3, 1), (58, .iconst 2, 1), (59, .iload_n 2, 1), (60, .imul, 1), (61, .if_icmp .gt 11, 3), (64, .iload_n 3, 1), (65, .bipush (-2), 2), (67, .iload_n 2, 1), (68, .imul, 1), (69, .if_icmp .ge 7, 3), (72, .iconst 1, 1), (73, .goto 4, 3), (76, .iconst 0, 1), (77, .ireturn, 1)]
def qo_106 : List qOp := [(0, 0, 0, 0, .int 0, []), (4, 2, 0, 0, .null, []), (0, 0, 0, 0, .int 0, []), (4, 3, 0, 0, .null, []), (1, 3, 0, 0, .null, []), (3, 0, 0, 0, .null, []), (49, 90, 0, 7, .null, [(0, 658), (0, 660), (0, 18), (0, 53)]), (29, 3, 29, 0, .null, []), (3, 0, 0, 0, .null, []), (36, 7, 10, 599, .null, []), (1, 3, 0, 0, .null, []), (3, 0, 0, 0, .null, []), (1, 3, 0, 0, .null, []), (1, 1, 0, 0, .null, []), (49, 105, 2, 7, .null, [(0, 745), (0, 747), (0, 30), (0, 53)]), (47, 0, 0, 0, .null, []), (1, 2, 0, 0, .null, []), (3, 0, 0, 0, .null, []), (36, 7, 10, 599, .null, []), (1, 3, 0, 0, .null, []), (43, 0, 0, 0, .null, []), (28, 0, 24, 0, .null, []), (0, 0, 0, 0, .int 1, []), (32, 0, 25, 0, .null, []), (0, 0, 0, 0, .int 0, []), (8, 0, 0, 0, .null, []), (4, 2, 0, 0, .null, []), (7, 3, 0, 0, .int 1, []), (32, 0, 4, 0, .null, []), (1, 2, 0, 0, .null, []), (50, 0, 0, 0, .null, [])]
def qr_106 : List qRow := [(0, .iconst 0, 1), (1, .istore_n 2, 1), (2, .iconst 0, 1), (3, .istore_n 3, 1), (4, .iload_n 3, 1), (5, .aload_n 0, 1), (6, .invokevirtual 41, 3), (9, .if_icmp .ge 38, 3), (12, .aload_n 0, 1), (13, .getfield 34, 3), (16, .iload_n 3, 1), (17, .aload_n 0, 1), (18, .iload_n 3, 1), (19, .iload_n 1, 1), (20, .invokevirtual 98, 3), (23, .bastore, 1), (24, .iload_n 2, 1), (25, .aload_n 0, 1), (26, .getfield 34, 3), (29, .iload_n 3, 1), (30, .baload, 1), (31, .ifCond .eq 7, 3), (34, .iconst 1, 1), (35, .goto 4, 3), (38, .iconst 0, 1), (39, .iadd, 1), (40, .istore_n 2, 1), (41, .iinc 3 1, 3), (44, .goto (-40), 3), (47, .iload_n 2, 1), (48, .ireturn, 1)]
def qo_107 : List qOp := [(1, 1, 0, 0, .null, []), (0, 0, 0, 0, .int 0, []), (0, 712, 0, 0, .int 99999, []), (48, 89, 3, 0, .null, [(0, 671), (0, 672), (0, 53)]), (28, 1, 7, 0, .null, []), (0, 657, 0, 0, .int (-1000000002), []), (50, 0, 0, 0, .null, []), (3, 0, 0, 0, .null, []), (49, 93, 0, 7, .null, [(0, 663), (0, 665), (0, 19), (0, 53)]), (3, 0, 0, 0, .null, []), (1, 1, 0, 0, .null, []), (49, 106, 1, 7, .null, [(0, 741), (0, 743), (0, 29), (0, 53)]), (4, 2, 0, 0, .null, []), (0, 0, 0, 0, .int 0, []), (4, 3, 0, 0, .null, []), (1, 3, 0, 0, .null, []), (3, 0, 0, 0, .null, []), (49, 90, 0, 7, .null, [(0, 658), (0, 660), (0, 18), (0, 53)]), (29, 3, 36, 0, .null, []), (3, 0, 0, 0, .null, []), (36, 7, 0, 589, .null, []), (1, 3, 0, 0, .null, []), (3, 0, 0, 0, .null, []), (36, 7, 10, 599, .null, []), (1, 3, 0, 0, .null, []), (43, 0, 0, 0, .null, []), (28, 0, 29, 0, .null, []), (0, 588, 0, 0, .int (-1000000001), []), (32, 0, 33, 0, .null, []), (3, 0, 0, 0, .null, []), (36, 7, 0, 589, .null, []), (1, 3, 0, 0, .null, []), (41, 0, 0, 0, .null, []), (45, 0, 0, 0, .null, []), (7, 3, 0, 0, .int 1, []), (32, 0, 15, 0, .null, []), (1, 2, 0, 0, .null, []), (50, 0, 0, 0, .null, [])]
def qr_107 : List qRow := [(0, .iload_n 1, 1), (1, .iconst 0, 1), (2, .ldc 86, 2), (4, .invokestatic 45, 3), (7, .ifCond .ne 6, 3), (10, .ldc 64, 2), (12, .ireturn, 1), (13, .aload_n 0, 1), (14, .invokevirtual 66, 3), (17, .aload_n 0, 1), (18, .iload_n 1, 1), (19, .invokevirtual 102, 3), (22, .istore_n 2, 1), (23, .iconst 0, 1), (24, .istore_n 3, 1), (25, .iload_n 3, 1), (26, .aload_n 0, 1), (27, .invokevirtual 41, 3), (30, .if_icmp .ge 35, 3), (33, .aload_n 0, 1), (34, .getfield 7, 3), (37, .iload_n 3, 1), (38, .aload_n 0, 1), (39, .getfield 34, 3), (42, .iload_n 3, 1), (43, .baload, 1), (44, .ifCond .eq 8, 3), (47, .ldc 22, 2), (49, .goto 9, 3), (52, .aload_n 0, 1), (53, .getfield 7, 3), (56, .iload_n 3, 1), (57, .iaload, 1), (58, .iastore, 1), (59, .iinc 3 1, 3), (62, .goto (-37), 3), (65, .iload_n 2, 1), (66, .ireturn, 1)]
def qo_108 : List qOp := [(1, 1, 0, 0, .null, []), (4, 2, 0, 0, .null, []), (3, 0, 0, 0, .null, []), (1, 2, 0, 0, .null, []), (49, 91, 1, 7, .null, [(0, 678), (0, 680), (0, 20), (0, 53)]), (28, 0, 14, 0, .null, []), (3, 0, 0, 0, .null, []), (36, 7, 0, 589, .null, []), (1, 2, 0, 0, .null, []), (41, 0, 0, 0, .null, []), (0, 588, 0, 0, .int (-1000000001), []), (29, 1, 14, 0, .null, []), (7, 2, 0, 0, .int 1, []), (32, 0, 2, 0, .null, []), (1, 2, 0, 0, .null, []), (50, 0, 0, 0, .null, [])]
def qr_108 : List qRow := [(0, .iload_n 1, 1), (1, .istore_n 2, 1), (2, .aload_n 0, 1), (3, .iload_n 2, 1), (4, .invokevirtual 49, 3), (7, .ifCond .eq 20, 3), (10, .aload_n 0, 1), (11, .getfield 7, 3), (14, .iload_n 2, 1), (15, .iaload, 1), (16, .ldc 22, 2), (18, .if_icmp .ne 9, 3), (21, .iinc 2 1, 3), (24, .goto (-22), 3), (27, .iload_n 2, 1), (28, .ireturn, 1)]
def qo_109 : List qOp := [(3, 0, 0, 0, .null, []), (36, 7, 0, 589, .null, []), (1, 1, 0, 0, .null, []), (41, 0, 0, 0, .null, []), (0, 588, 0, 0, .int (-1000000001), []), (29, 1, 18, 0, .null, []), (1, 1, 0, 0, .null, []), (28, 0, 16, 0, .null, []), (3, 0, 0, 0, .null, []), (36, 7, 0, 589, .null, []), (1, 1, 0, 0, .null, []), (0, 0, 0, 0, .int 1, []), (9, 0, 0, 0, .null, []), (41, 0, 0, 0, .null, []), (0, 588, 0, 0, .int (-1000000001), []), (29, 0, 18, 0, .null, []), (0, 0, 0, 0, .int 1, []), (32, 0, 19, 0, .null, []), (0, 0, 0, 0, .int 0, []), (51, 0, 0, 0, .null, [])]
def qr_109 : List qRow := [(0, .aload_n 0, 1), (1, .getfield 7, 3), (4, .iload_n 1, 1), (5, .iaload, 1), (6, .ldc 22, 2), (8, .if_icmp .ne 24, 3), (11, .iload_n 1, 1), (12, .ifCond .eq 16, 3), (15, .aload_n 0, 1), (16, .getfield 7, 3), (19, .iload_n 1, 1), (20, .iconst 1, 1), (21, .isub, 1), (22, .iaload, 1), (23, .ldc 22, 2), (25, .if_icmp .eq 7, 3), (28, .iconst 1, 1), (29, .goto 4, 3), (32, .iconst 0, 1), (33, .ireturn, 1)]
def qo_110 : List qOp := [(1, 1, 0, 0, .null, []), (0, 0, 0, 0, .int 1, []), (0, 0, 0, 0, .int 64, []), (48, 89, 3, 0, .null, [(0, 671), (0, 672), (0, 53)]), (28, 1, 7, 0, .null, []), (0, 657, 0, 0, .int (-1000000002), []), (50, 0, 0, 0, .null, []), (3, 0, 0, 0, .null, []), (49, 93, 0, 7, .null, [(0, 663), (0, 665), (0, 19), (0, 53)]), (0, 0, 0, 0, .int 0, []), (4, 2, 0, 0, .null, []), (0, 0, 0, 0, .int 1, []), (4, 3, 0, 0, .null, []), (1, 3, 0, 0, .null, []), (3, 0, 0, 0, .null, []), (49, 90, 0, 7, .null, [(0, 658), (0, 660), (0, 18), (0, 53)]), (29, 3, 56, 0, .null, []), (3, 0, 0, 0, .null, []), (1, 3, 0, 0, .null, []), (49, 108, 1, 7, .null, [(0, 753), (0, 755), (0, 31), (0, 53)]), (4, 4, 0, 0, .null, []), (3, 0, 0, 0, .null, []), (1, 3, 0, 0, .null, []), (49, 109, 1, 7, .null, [(0, 757), (0, 759), (0, 32), (0, 53)]), (28, 0, 54, 0, .null, []), (3, 0, 0, 0, .null, []), (1, 4, 0, 0, .null, []), (49, 92, 1, 7, .null, [(0, 690), (0, 692), (0, 21), (0, 53)]), (28, 0, 54, 0, .null, []), (1, 4, 0, 0, .null, []), (1, 3, 0, 0, .null, []), (9, 0, 0, 0, .null, []), (1, 1, 0, 0, .null, []), (29, 4, 54, 0, .null, []), (1, 3, 0, 0, .null, []), (4, 5, 0, 0, .null, []), (1, 5, 0, 0, .null, []), (1, 4, 0, 0, .null, []), (29, 3, 54, 0, .null, []), (3, 0, 0, 0, .null, []), (36, 7, 0, 589, .null, []), (1, 5, 0, 0, .null, []), (3, 0, 0, 0, .null, []), (1, 3, 0, 0, .null, []), (0, 0, 0, 0, .int 1, []), (9, 0, 0, 0, .null, []), (1, 4, 0, 0, .null, []), (1, 5, 0, 0, .null, []), (49, 101, 3, 7, .null, [(0, 695), (0, 697), (0, 22), (0, 53)]), (27, 0, 0, 0, .null, []), (45, 0, 0, 0, .null, []), (7, 2, 0, 0, .int 1, []), (7, 5, 0, 0, .int 1, []), (32, 0, 36, 0, .null, []), (7, 3, 0, 0, .int 1, []), (32, 0, 13, 0, .null, []), (1, 2, 0, 0, .null, []), (50, 0, 0, 0, .null, [])]
def qr_110 : List qRow := [(0, .iload_n 1, 1), (1, .iconst 1, 1), (2, .bipush 64, 2), (4, .invokestatic 45, 3), (7, .ifCond .ne 6, 3), (10, .ldc 64, 2), (12, .ireturn, 1), (13, .aload_n 0, 1), (14, .invokevirtual 66, 3), (17, .iconst 0, 1), (18, .istore_n 2, 1), (19, .iconst 1, 1), (20, .istore_n 3, 1), (21, .iload_n 3, 1), (22, .aload_n 0, 1), (23, .invokevirtual 41, 3), (26, .if_icmp .ge 79, 3), (29, .aload_n 0, 1), (30, .iload_n 3, 1), (31, .invokevirtual 106, 3), (34, .istore 4, 2), (36, .aload_n 0, 1), (37, .iload_n 3, 1), (38, .invokevirtual 109, 3), (41, .ifCond .eq 58, 3), (44, .aload_n 0, 1), (45, .iload 4, 2), (47, .invokevirtual 69, 3), (50, .ifCond .eq 49, 3), (53, .iload 4, 2), (55, .iload_n 3, 1), (56, .isub, 1), (57, .iload_n 1, 1), (58, .if_icmp .gt 41, 3), (61, .iload_n 3, 1), (62, .istore 5, 2), (64, .iload 5, 2), (66, .iload 4, 2), (68, .if_icmp .ge 31, 3), (71, .aload_n 0, 1), (72, .getfield 7, 3), (75, .iload 5, 2), (77, .aload_n 0, 1), (78, .iload_n 3, 1), (79, .iconst 1, 1), (80, .isub, 1), (81, .iload 4, 2), (83, .iload 5, 2), (85, .invokevirtual 78, 3), (88, .l2i, 1), (89, .iastore, 1), (90, .iinc 2 1, 3), (93, .iinc 5 1, 3), (96, .goto (-32), 3), (99, .iinc 3 1, 3), (102, .goto (-81), 3), (105, .iload_n 2, 1), (106, .ireturn, 1)]
def qo_111 : List qOp := [(1, 1, 0, 0, .null, []), (0, 0, 0, 0, .int 1, []), (0, 0, 0, 0, .int 16, []), (48, 89, 3, 0, .null, [(0, 671), (0, 672), (0, 53)]), (28, 0, 12, 0, .null, []), (1, 2, 0, 0, .null, []), (0, 0, 0, 0, .int 0, []), (1, 1, 0, 0, .null, []), (0, 0, 0, 0, .int 1, []), (9, 0, 0, 0, .null, []), (48, 89, 3, 0, .null, [(0, 671), (0, 672), (0, 53)]), (28, 1, 14, 0, .null, []), (0, 657, 0, 0, .int (-1000000002), []), (50, 0, 0, 0, .null, []), (3, 0, 0, 0, .null, []), (49, 93, 0, 7, .null, [(0, 663), (0, 665), (0, 19), (0, 53)]), (0, 0, 0, 0, .int 0, []), (4, 3, 0, 0, .null, []), (1, 2, 0, 0, .null, []), (4, 4, 0, 0, .null, []), (1, 4, 0, 0, .null, []), (3, 0, 0, 0, .null, []), (49, 90, 0, 7, .null, [(0, 658), (0, 660), (0, 18), (0, 53)]), (29, 3, 38, 0, .null, []), (3, 0, 0, 0, .null, []), (36, 7, 0, 589, .null, []), (1, 3, 0, 0, .null, []), (3, 0, 0, 0, .null, []), (36, 7, 0, 589, .null, []), (1, 4, 0, 0, .null, []), (41, 0, 0, 0, .null, []), (45, 0, 0, 0, .null, []), (7, 3, 0, 0, .int 1, []), (1, 4, 0, 0, .null, []), (1, 1, 0, 0, .null, []), (8, 0, 0, 0, .null, []), (4, 4, 0, 0, .null, []), (32, 0, 20, 0, .null, []), (3, 0, 0, 0, .null, []), (36, 7, 0, 589, .null, []), (0, 0, 0, 0, .int 64, []), (1, 3, 0, 0, .null, []), (45, 0, 0, 0, .null, []), (1, 3, 0, 0, .null, []), (50, 0, 0, 0, .null, [])]
def qr_111 : List qRow := [(0, .iload_n 1, 1), (1, .iconst 1, 1), (2, .bipush 16, 2), (4, .invokestatic 45, 3), (7, .ifCond .eq 14, 3), (10, .iload_n 2, 1), (11, .iconst 0, 1), (12, .iload_n 1, 1), (13, .iconst 1, 1), (14, .isub, 1), (15, .invokestatic 45, 3), (18, .ifCond .ne 6, 3), (21, .ldc 64, 2), (23, .ireturn, 1), (24, .aload_n 0, 1), (25, .invokevirtual 66, 3), (28, .iconst 0, 1), (29, .istore_n 3, 1), (30, .iload_n 2, 1), (31, .istore 4, 2), (33, .iload 4, 2), (35, .aload_n 0, 1), (36, .invokevirtual 41, 3), (39, .if_icmp .ge 28, 3), (42, .aload_n 0, 1), (43, .getfield 7, 3), (46, .iload_n 3, 1), (47, .aload_n 0, 1), (48, .getfield 7, 3), (51, .iload 4, 2), (53, .iaload, 1), (54, .iastore, 1), (55, .iinc 3 1, 3), (58, .iload 4, 2), (60, .iload_n 1, 1), (61, .iadd, 1), (62, .istore 4, 2), (64, .goto (-31), 3), (67, .aload_n 0, 1), (68, .getfield 7, 3), (71, .bipush 64, 2), (73, .iload_n 3, 1), (74, .iastore, 1), (75, .iload_n 3, 1), (76, .ireturn, 1)]
def qo_112 : List qOp := [(3, 0, 0, 0, .null, []), (34, 7, 2, 591, .null, []), (28, 1, 5, 0, .null, []), (0, 694, 0, 0, .int (-1000000003), []), (50, 0, 0, 0, .null, []), (3, 0, 0, 0, .null, []), (55, 0, 0, 0, .null, []), (34, 7, 2, 591, .null, []), (0, 0, 0, 0, .int 1, []), (9, 0, 0, 0, .null, []), (37, 7, 2, 591, .null, []), (0, 0, 0, 0, .int 0, []), (4, 1, 0, 0, .null, []), (1, 1, 0, 0, .null, []), (0, 0, 0, 0, .int 65, []), (29, 3, 31, 0, .null, []), (3, 0, 0, 0, .null, []), (36, 7, 0, 589, .null, []), (1, 1, 0, 0, .null, []), (3, 0, 0, 0, .null, []), (36, 7, 1, 590, .null, []), (0, 0, 0, 0, .int 65, []), (3, 0, 0, 0, .null, []), (34, 7, 2, 591, .null, []), (10, 0, 0, 0, .null, []), (1, 1, 0, 0, .null, []), (8, 0, 0, 0, .null, []), (41, 0, 0, 0, .null, []), (45, 0, 0, 0, .null, []), (7, 1, 0, 0, .int 1, []), (32, 0, 13, 0, .null, []), (3, 0, 0, 0, .null, []), (34, 7, 2, 591, .null, []), (50, 0, 0, 0, .null, [])]
def qr_112 : List qRow := [(0, .aload_n 0, 1), (1, .getfield 53, 3), (4, .ifCond .ne 6, 3), (7, .ldc 77, 2), (9, .ireturn, 1), (10, .aload_n 0, 1), (11, .dup, 1), (12, .getfield 53, 3), (15, .iconst 1, 1), (16, .isub, 1), (17, .putfield 53, 3), (20, .iconst 0, 1), (21, .istore_n 1, 1), (22, .iload_n 1, 1), (23, .bipush 65, 2), (25, .if_icmp .ge 29, 3), (28, .aload_n 0, 1), (29, .getfield 7, 3), (32, .iload_n 1, 1), (33, .aload_n 0, 1), (34, .getfield 13, 3), (37, .bipush 65, 2), (39, .aload_n 0, 1), (40, .getfield 53, 3), (43, .imul, 1), (44, .iload_n 1, 1), (45, .iadd, 1), (46, .iaload, 1), (47, .iastore, 1), (48, .iinc 1 1, 3), (51, .goto (-29), 3), (54, .aload_n 0, 1), (55, .getfield 53, 3), (58, .ireturn, 1)]
def qo_113 : List qOp := [(0, 0, 0, 0, .int 0, []), (4, 2, 0, 0, .null, []), (0, 0, 0, 0, .int 0, []), (4, 3, 0, 0, .null, []), (0, 0, 0, 0, .int 0, []), (4, 4, 0, 0, .null, []), (1, 4, 0, 0, .null, []), (3, 0, 0, 0, .null, []), (49, 90, 0, 7, .null, [(0, 658), (0, 660), (0, 18), (0, 53)]), (29, 3, 32, 0, .null, []), (3, 0, 0, 0, .null, []), (1, 4, 0, 0, .null, []), (49, 109, 1, 7, .null, [(0, 757), (0, 759), (0, 32), (0, 53)]), (28, 0, 30, 0, .null, []), (7, 2, 0, 0, .int 1, []), (3, 0, 0, 0, .null, []), (1, 4, 0, 0, .null, []), (49, 108, 1, 7, .null, [(0, 753), (0, 755), (0, 31), (0, 53)]), (1, 4, 0, 0, .null, []), (9, 0, 0, 0, .null, []), (1, 3, 0, 0, .null, []), (29, 5, 28, 0, .null, []), (3, 0, 0, 0, .null, []), (1, 4, 0, 0, .null, []), (49, 108, 1, 7, .null, [(0, 753), (0, 755), (0, 31), (0, 53)]), (1, 4, 0, 0, .null, []), (9, 0, 0, 0, .null, []), (32, 0, 29, 0, .null, []), (1, 3, 0, 0, .null, []), (4, 3, 0, 0, .null, []), (7, 4, 0, 0, .int 1, []), (32, 0, 6, 0, .null, []), (1, 1, 0, 0, .null, []), (28, 0, 36, 0, .null, []), (1, 3, 0, 0, .null, []), (32, 0, 37, 0, .null, []), (1, 2, 0, 0, .null, []), (50, 0, 0, 0, .null, [])]
def qr_113 : List qRow := [(0, .iconst 0, 1), (1, .istore_n 2, 1), (2, .iconst 0, 1), (3, .istore_n 3, 1), (4, .iconst 0, 1), (5, .istore 4, 2), (7, .iload 4, 2), (9, .aload_n 0, 1), (10, .invokevirtual 41, 3), (13, .if_icmp .ge 48, 3), (16, .aload_n 0, 1), (17, .iload 4, 2), (19, .invokevirtual 109, 3), (22, .ifCond .eq 33, 3), (25, .iinc 2 1, 3), (28, .aload_n 0, 1), (29, .iload 4, 2), (31, .invokevirtual 106, 3), (34, .iload 4, 2), (36, .isub, 1), (37, .iload_n 3, 1), (38, .if_icmp .le 15, 3), (41, .aload_n 0, 1), (42, .iload 4, 2), (44, .invokevirtual 106, 3), (47, .iload 4, 2), (49, .isub, 1), (50, .goto 4, 3), (53, .iload_n 3, 1), (54, .istore_n 3, 1), (55, .iinc 4 1, 3), (58, .goto (-51), 3), (61, .iload_n 1, 1), (62, .ifCond .eq 7, 3), (65, .iload_n 3, 1), (66, .goto 4, 3), (69, .iload_n 2, 1), (70, .ireturn, 1)]
def qo_114 : List qOp := [(0, 0, 0, 0, .int 0, []), (4, 1, 0, 0, .null, []), (0, 0, 0, 0, .int 0, []), (4, 2, 0, 0, .null, []), (1, 2, 0, 0, .null, []), (3, 0, 0, 0, .null, []), (49, 90, 0, 7, .null, [(0, 658), (0, 660), (0, 18), (0, 53)]), (29, 3, 20, 0, .null, []), (1, 1, 0, 0, .null, []), (3, 0, 0, 0, .null, []), (1, 2, 0, 0, .null, []), (49, 92, 1, 7, .null, [(0, 690), (0, 692), (0, 21), (0, 53)]), (28, 0, 15, 0, .null, []), (0, 0, 0, 0, .int 1, []), (32, 0, 16, 0, .null, []), (0, 0, 0, 0, .int 0, []), (8, 0, 0, 0, .null, []), (4, 1, 0, 0, .null, []), (7, 2, 0, 0, .int 1, []), (32, 0, 4, 0, .null, []), (1, 1, 0, 0, .null, []), (50, 0, 0, 0, .null, [])]
def qr_114 : List qRow := [(0, .iconst 0, 1), (1, .istore_n 1, 1), (2, .iconst 0, 1), (3, .istore_n 2, 1), (4, .iload_n 2, 1), (5, .aload_n 0, 1), (6, .invokevirtual 41, 3), (9, .if_icmp .ge 25, 3), (12, .iload_n 1, 1), (13, .aload_n 0, 1), (14, .iload_n 2, 1), (15, .invokevirtual 69, 3), (18, .ifCond .eq 7, 3), (21, .iconst 1, 1), (22, .goto 4, 3), (25, .iconst 0, 1), (26, .iadd, 1), (27, .istore_n 1, 1), (28, .iinc 2 1, 3), (31, .goto (-27), 3), (34, .iload_n 1, 1), (35, .ireturn, 1)]
def qo_115 : List qOp := [(0, 588, 0, 0, .int (-1000000001), []), (4, 2, 0, 0, .null, []), (0, 0, 0, 0, .int 0, []), (4, 3, 0, 0, .null, []), (1, 3, 0, 0, .null, []), (3, 0, 0, 0, .null, []), (49, 90, 0, 7, .null, [(0, 658), (0, 660), (0, 18), (0, 53)]), (29, 3, 45, 0, .null, []), (3, 0, 0, 0, .null, []), (1, 3, 0, 0, .null, []), (49, 92, 1, 7, .null, [(0, 690), (0, 692), (0, 21), (0, 53)]), (28, 0, 32, 0, .null, []), (1, 2, 0, 0, .null, []), (0, 588, 0, 0, .int (-1000000001), []), (29, 0, 30, 0, .null, []), (1, 1, 0, 0, .null, []), (28, 0, 24, 0, .null, []), (3, 0, 0, 0, .null, []), (36, 7, 0, 589, .null, []), (1, 3, 0, 0, .null, []), (41, 0, 0, 0, .null, []), (1, 2, 0, 0, .null, []), (29, 3, 32, 0, .null, []), (32, 0, 30, 0, .null, []), (3, 0, 0, 0, .null, []), (36, 7, 0, 589, .null, []), (1, 3, 0, 0, .null, []), (41, 0, 0, 0, .null, []), (1, 2, 0, 0, .null, []), (29, 5, 32, 0, .null, []), (0, 0, 0, 0, .int 1, []), (32, 0, 33, 0, .null, []), (0, 0, 0, 0, .int 0, []), (4, 4, 0, 0, .null, []), (1, 4, 0, 0, .null, []), (28, 0, 41, 0, .null, []), (3, 0, 0, 0, .null, []), (36, 7, 0, 589, .null, []), (1, 3, 0, 0, .null, []), (41, 0, 0, 0, .null, []), (32, 0, 42, 0, .null, []), (1, 2, 0, 0, .null, []), (4, 2, 0, 0, .null, []), (7, 3, 0, 0, .int 1, []), (32, 0, 4, 0, .null, []), (1, 2, 0, 0, .null, []), (50, 0, 0, 0, .null, [])]
def qr_115 : List qRow := [(0, .ldc 22, 2), (2, .istore_n 2, 1), (3, .iconst 0, 1), (4, .istore_n 3, 1), (5, .iload_n 3, 1), (6, .aload_n 0, 1), (7, .invokevirtual 41, 3), (10, .if_icmp .ge 73, 3), (13, .aload_n 0, 1), (14, .iload_n 3, 1), (15, .invokevirtual 69, 3), (18, .ifCond .eq 40, 3), (21, .iload_n 2, 1), (22, .ldc 22, 2), (24, .if_icmp .eq 30, 3), (27, .iload_n 1, 1), (28, .ifCond .eq 16, 3), (31, .aload_n 0, 1), (32, .getfield 7, 3), (35, .iload_n 3, 1), (36, .iaload, 1), (37, .iload_n 2, 1), (38, .if_icmp .ge 20, 3), (41, .goto 13, 3), (44, .aload_n 0, 1), (45, .getfield 7, 3), (48, .iload_n 3, 1), (49, .iaload, 1), (50, .iload_n 2, 1), (51, .if_icmp .le 7, 3), (54, .iconst 1, 1), (55, .goto 4, 3), (58, .iconst 0, 1), (59, .istore 4, 2), (61, .iload 4, 2), (63, .ifCond .eq 12, 3), (66, .aload_n 0, 1), (67, .getfield 7, 3), (70, .iload_n 3, 1), (71, .iaload, 1), (72, .goto 4, 3), (75, .iload_n 2, 1), (76, .istore_n 2, 1), (77, .iinc 3 1, 3), (80, .goto (-75), 3), (83, .iload_n 2, 1), (84, .ireturn, 1)]
def qo_116 : List qOp := [(0, 0, 0, 0, .int 0, []), (4, 1, 0, 0, .null, []), (0, 0, 0, 0, .int 1, []), (4, 2, 0, 0, .null, []), (1, 2, 0, 0, .null, []), (0, 0, 0, 0, .int 31, []), (29, 4, 18, 0, .null, []), (3, 0, 0, 0, .null, []), (0, 0, 0, 0, .int 2, []), (1, 2, 0, 0, .null, []), (49, 125, 2, 7, .null, [(0, 717), (0, 719), (0, 24), (0, 53)]), (28, 5, 14, 0, .null, []), (1, 2, 0, 0, .null, []), (32, 0, 15, 0, .null, []), (1, 1, 0, 0, .null, []), (4, 1, 0, 0, .null, []), (7, 2, 0, 0, .int 1, []), (32, 0, 4, 0, .null, []), (1, 1, 0, 0, .null, []), (50, 0, 0, 0, .null, [])]
def qr_116 : List qRow := [(0, .iconst 0, 1), (1, .istore_n 1, 1), (2, .iconst 1, 1), (3, .istore_n 2, 1), (4, .iload_n 2, 1), (5, .bipush 31, 2), (7, .if_icmp .gt 24, 3), (10, .aload_n 0, 1), (11, .iconst 2, 1), (12, .iload_n 2, 1), (13, .invokevirtual 87, 3), (16, .ifCond .le 7, 3), (19, .iload_n 2, 1), (20, .goto 4, 3), (23, .iload_n 1, 1), (24, .istore_n 1, 1), (25, .iinc 2 1, 3), (28, .goto (-24), 3), (31, .iload_n 1, 1), (32, .ireturn, 1)]
def qo_117 : List qOp := [(1, 1, 0, 0, .null, []), (33, 0, 33, 0, .null, [(0, 2), (1, 5), (2, 8), (3, 12), (4, 16), (5, 20), (6, 24), (7, 27), (8, 30)]), (3, 0, 0, 0, .null, []), (49, 90, 0, 7, .null, [(0, 658), (0, 660), (0, 18), (0, 53)]), (50, 0, 0, 0, .null, []), (3, 0, 0, 0, .null, []), (49, 114, 0, 7, .null, [(0, 773), (0, 775), (0, 33), (0, 53)]), (50, 0, 0, 0, .null, []), (3, 0, 0, 0, .null, []), (0, 0, 0, 0, .int 1, []), (49, 115, 1, 7, .null, [(0, 777), (0, 779), (0, 34), (0, 53)]), (50, 0, 0, 0, .null, []), (3, 0, 0, 0, .null, []), (0, 0, 0, 0, .int 0, []), (49, 115, 1, 7, .null, [(0, 777), (0, 779), (0, 34), (0, 53)]), (50, 0, 0, 0, .null, []), (3, 0, 0, 0, .null, []), (0, 0, 0, 0, .int 0, []), (49, 113, 1, 7, .null, [(0, 781), (0, 783), (0, 35), (0, 53)]), (50, 0, 0, 0, .null, []), (3, 0, 0, 0, .null, []), (0, 0, 0, 0, .int 1, []), (49, 113, 1, 7, .null, [(0, 781), (0, 783), (0, 35), (0, 53)]), (50, 0, 0, 0, .null, []), (3, 0, 0, 0, .null, []), (49, 116, 0, 7, .null, [(0, 785), (0, 787), (0, 36), (0, 53)]), (50, 0, 0, 0, .null, []), (3, 0, 0, 0, .null, []), (34, 7, 6, 595, .null, []), (50, 0, 0, 0, .null, []), (3, 0, 0, 0, .null, []), (34, 7, 2, 591, .null, []), (50, 0, 0, 0, .null, []), (0, 657, 0, 0, .int (-1000000002), []), (50, 0, 0, 0, .null, [])]
def qr_117 : List qRow := [(0, .iload_n 1, 1), (1, .tableswitch 100 0 8 #[51, 56, 61, 67, 73, 79, 85, 90, 95], 51), (52, .aload_n 0, 1), (53, .invokevirtual 41, 3), (56, .ireturn, 1), (57, .aload_n 0, 1), (58, .invokevirtual 112, 3), (61, .ireturn, 1), (62, .aload_n 0, 1), (63, .iconst 1, 1), (64, .invokevirtual 115, 3), (67, .ireturn, 1), (68, .aload_n 0, 1), (69, .iconst 0, 1), (70, .invokevirtual 115, 3), (73, .ireturn, 1), (74, .aload_n 0, 1), (75, .iconst 0, 1), (76, .invokevirtual 119, 3), (79, .ireturn, 1), (80, .aload_n 0, 1), (81, .iconst 1, 1), (82, .invokevirtual 119, 3), (85, .ireturn, 1), (86, .aload_n 0, 1), (87, .invokevirtual 122, 3), (90, .ireturn, 1), (91, .aload_n 0, 1), (92, .getfield 125, 3), (95, .ireturn, 1), (96, .aload_n 0, 1), (97, .getfield 53, 3), (100, .ireturn, 1), (101, .ldc 64, 2), (103, .ireturn, 1)]
def qo_118 : List qOp := [(3, 0, 0, 0, .null, []), (1, 1, 0, 0, .null, []), (49, 91, 1, 7, .null, [(0, 678), (0, 680), (0, 20), (0, 53)]), (28, 0, 9, 0, .null, []), (3, 0, 0, 0, .null, []), (36, 7, 0, 589, .null, []), (1, 1, 0, 0, .null, []), (41, 0, 0, 0, .null, []), (32, 0, 10, 0, .null, []), (0, 657, 0, 0, .int (-1000000002), []), (50, 0, 0, 0, .null, [])]
def qr_118 : List qRow := [(0, .aload_n 0, 1), (1, .iload_n 1, 1), (2, .invokevirtual 49, 3), (5, .ifCond .eq 12, 3), (8, .aload_n 0, 1), (9, .getfield 7, 3), (12, .iload_n 1, 1), (13, .iaload, 1), (14, .goto 5, 3), (17, .ldc 64, 2), (19, .ireturn, 1)]
def qo_119 : List qOp := [(1, 1, 0, 0, .null, []), (0, 0, 0, 0, .int 4, []), (29, 1, 23, 0, .null, []), (0, 0, 0, 0, .int 1, []), (4, 4, 0, 0, .null, []), (0, 0, 0, 0, .int 0, []), (4, 5, 0, 0, .null, []), (1, 5, 0, 0, .null, []), (1, 2, 0, 0, .null, []), (29, 3, 21, 0, .null, []), (1, 4, 0, 0, .null, []), (28, 0, 21, 0, .null, []), (3, 0, 0, 0, .null, []), (1, 2, 0, 0, .null, []), (1, 3, 0, 0, .null, []), (1, 5, 0, 0, .null, []), (8, 0, 0, 0, .null, []), (49, 120, 2, 7, .null, [(0, 725), (0, 727), (0, 26), (0, 53)]), (4, 4, 0, 0, .null, []), (7, 5, 0, 0, .int 1, []), (32, 0, 7, 0, .null, []), (1, 4, 0, 0, .null, []), (51, 0, 0, 0, .null, []), (3, 0, 0, 0, .null, []), (1, 2, 0, 0, .null, []), (1, 3, 0, 0, .null, []), (49, 120, 2, 7, .null, [(0, 725), (0, 727), (0, 26), (0, 53)]), (28, 0, 41, 0, .null, []), (1, 1, 0, 0, .null, []), (0, 0, 0, 0, .int 2, []), (29, 0, 39, 0, .null, []), (3, 0, 0, 0, .null, []), (1, 3, 0, 0, .null, []), (0, 0, 0, 0, .int 3, []), (1, 2, 0, 0, .null, []), (10, 0, 0, 0, .null, []), (8, 0, 0, 0, .null, []), (49, 92, 1, 7, .null, [(0, 690), (0, 692), (0, 21), (0, 53)]), (28, 0, 41, 0, .null, []), (0, 0, 0, 0, .int 1, []), (32, 0, 42, 0, .null, []), (0, 0, 0, 0, .int 0, []), (51, 0, 0, 0, .null, [])]
def qr_119 : List qRow := [(0, .iload_n 1, 1), (1, .iconst 4, 1), (2, .if_icmp .ne 40, 3), (5, .iconst 1, 1), (6, .istore 4, 2), (8, .iconst 0, 1), (9, .istore 5, 2), (11, .iload 5, 2), (13, .iload_n 2, 1), (14, .if_icmp .ge 25, 3), (17, .iload 4, 2), (19, .ifCond .eq 20, 3), (22, .aload_n 0, 1), (23, .iload_n 2, 1), (24, .iload_n 3, 1), (25, .iload 5, 2), (27, .iadd, 1), (28, .invokevirtual 128, 3), (31, .istore 4, 2), (33, .iinc 5 1, 3), (36, .goto (-25), 3), (39, .iload 4, 2), (41, .ireturn, 1), (42, .aload_n 0, 1), (43, .iload_n 2, 1), (44, .iload_n 3, 1), (45, .invokevirtual 128, 3), (48, .ifCond .eq 24, 3), (51, .iload_n 1, 1), (52, .iconst 2, 1), (53, .if_icmp .eq 15, 3), (56, .aload_n 0, 1), (57, .iload_n 3, 1), (58, .iconst 3, 1), (59, .iload_n 2, 1), (60, .imul, 1), (61, .iadd, 1), (62, .invokevirtual 69, 3), (65, .ifCond .eq 7, 3), (68, .iconst 1, 1), (69, .goto 4, 3), (72, .iconst 0, 1), (73, .ireturn, 1)]
def qo_120 : List qOp := [(3, 0, 0, 0, .null, []), (1, 2, 0, 0, .null, []), (49, 92, 1, 7, .null, [(0, 690), (0, 692), (0, 21), (0, 53)]), (28, 0, 20, 0, .null, []), (3, 0, 0, 0, .null, []), (1, 2, 0, 0, .null, []), (1, 1, 0, 0, .null, []), (8, 0, 0, 0, .null, []), (49, 92, 1, 7, .null, [(0, 690), (0, 692), (0, 21), (0, 53)]), (28, 0, 20, 0, .null, []), (3, 0, 0, 0, .null, []), (1, 2, 0, 0, .null, []), (0, 0, 0, 0, .int 2, []), (1, 1, 0, 0, .null, []), (10, 0, 0, 0, .null, []), (8, 0, 0, 0, .null, []), (49, 92, 1, 7, .null, [(0, 690), (0, 692), (0, 21), (0, 53)]), (28, 0, 20, 0, .null, []), (0, 0, 0, 0, .int 1, []), (32, 0, 21, 0, .null, []), (0, 0, 0, 0, .int 0, []), (51, 0, 0, 0, .null, [])]
def qr_120 : List qRow := [(0, .aload_n 0, 1), (1, .iload_n 2, 1), (2, .invokevirtual 69, 3), (5, .ifCond .eq 29, 3), (8, .aload_n 0, 1), (9, .iload_n 2, 1), (10, .iload_n 1, 1), (11, .iadd, 1), (12, .invokevirtual 69, 3), (15, .ifCond .eq 19, 3), (18, .aload_n 0, 1), (19, .iload_n 2, 1), (20, .iconst 2, 1), (21, .iload_n 1, 1), (22, .imul, 1), (23, .iadd, 1), (24, .invokevirtual 69, 3), (27, .ifCond .eq 7, 3), (30, .iconst 1, 1), (31, .goto 4, 3), (34, .iconst 0, 1), (35, .ireturn, 1)]
def qo_121 : List qOp := [(3, 0, 0, 0, .null, []), (36, 7, 0, 589, .null, []), (1, 2, 0, 0, .null, []), (0, 0, 0, 0, .int 2, []), (1, 1, 0, 0, .null, []), (10, 0, 0, 0, .null, []), (8, 0, 0, 0, .null, []), (41, 0, 0, 0, .null, []), (0, 0, 0, 0, .int 2, []), (3, 0, 0, 0, .null, []), (36, 7, 0, 589, .null, []), (1, 2, 0, 0, .null, []), (1, 1, 0, 0, .null, []), (8, 0, 0, 0, .null, []), (41, 0, 0, 0, .null, []), (10, 0, 0, 0, .null, []), (9, 0, 0, 0, .null, []), (3, 0, 0, 0, .null, []), (36, 7, 0, 589, .null, []), (1, 2, 0, 0, .null, []), (41, 0, 0, 0, .null, []), (8, 0, 0, 0, .null, []), (50, 0, 0, 0, .null, [])]
def qr_121 : List qRow := [(0, .aload_n 0, 1), (1, .getfield 7, 3), (4, .iload_n 2, 1), (5, .iconst 2, 1), (6, .iload_n 1, 1), (7, .imul, 1), (8, .iadd, 1), (9, .iaload, 1), (10, .iconst 2, 1), (11, .aload_n 0, 1), (12, .getfield 7, 3), (15, .iload_n 2, 1), (16, .iload_n 1, 1), (17, .iadd, 1), (18, .iaload, 1), (19, .imul, 1), (20, .isub, 1), (21, .aload_n 0, 1), (22, .getfield 7, 3), (25, .iload_n 2, 1), (26, .iaload, 1), (27, .iadd, 1), (28, .ireturn, 1)]
def qo_122 : List qOp := [(1, 1, 0, 0, .null, []), (0, 0, 0, 0, .int 2, []), (29, 1, 8, 0, .null, []), (3, 0, 0, 0, .null, []), (1, 2, 0, 0, .null, []), (1, 3, 0, 0, .null, []), (49, 121, 2, 7, .null, [(0, 733), (0, 735), (0, 28), (0, 53)]), (50, 0, 0, 0, .null, []), (1, 1, 0, 0, .null, []), (0, 0, 0, 0, .int 3, []), (29, 1, 45, 0, .null, []), (3, 0, 0, 0, .null, []), (36, 7, 0, 589, .null, []), (1, 3, 0, 0, .null, []), (0, 0, 0, 0, .int 3, []), (1, 2, 0, 0, .null, []), (10, 0, 0, 0, .null, []), (8, 0, 0, 0, .null, []), (41, 0, 0, 0, .null, []), (0, 0, 0, 0, .int 3, []), (3, 0, 0, 0, .null, []), (36, 7, 0, 589, .null, []), (1, 3, 0, 0, .null, []), (0, 0, 0, 0, .int 2, []), (1, 2, 0, 0, .null, []), (10, 0, 0, 0, .null, []), (8, 0, 0, 0, .null, []), (41, 0, 0, 0, .null, []), (10, 0, 0, 0, .null, []), (9, 0, 0, 0, .null, []), (0, 0, 0, 0, .int 3, []), (3, 0, 0, 0, .null, []), (36, 7, 0, 589, .null, []), (1, 3, 0, 0, .null, []), (1, 2, 0, 0, .null, []), (8, 0, 0, 0, .null, []), (41, 0, 0, 0, .null, []), (10, 0, 0, 0, .null, []), (8, 0, 0, 0, .null, []), (3, 0, 0, 0, .null, []), (36, 7, 0, 589, .null, []), (1, 3, 0, 0, .null, []), (41, 0, 0, 0, .null, []), (9, 0, 0, 0, .null, []), (50, 0, 0, 0, .null, []), (0, 0, 0, 0, .int 0, []), (4, 4, 0, 0, .null, []), (0, 0, 0, 0, .int 0, []), (4, 5, 0, 0, .null, []), (1, 5, 0, 0, .null, []), (1, 2, 0, 0, .null, []), (29, 3, 63, 0, .null, []), (1, 4, 0, 0, .null, []), (3, 0, 0, 0, .null, []), (1, 2, 0, 0, .null, []), (1, 3, 0, 0, .null, []), (1, 5, 0, 0, .null, []), (8, 0, 0, 0, .null, []), (49, 121, 2, 7, .null, [(0, 733), (0, 735), (0, 28), (0, 53)]), (8, 0, 0, 0, .null, []), (4, 4, 0, 0, .null, []), (7, 5, 0, 0, .int 1, []), (32, 0, 49, 0, .null, []), (1, 4, 0, 0, .null, []), (50, 0, 0, 0, .null, [])]
def qr_122 : List qRow := [(0, .iload_n 1, 1), (1, .iconst 2, 1), (2, .if_icmp .ne 10, 3), (5, .aload_n 0, 1), (6, .iload_n 2, 1), (7, .iload_n 3, 1), (8, .invokevirtual 131, 3), (11, .ireturn, 1), (12, .iload_n 1, 1), (13, .iconst 3, 1), (14, .if_icmp .ne 45, 3), (17, .aload_n 0, 1), (18, .getfield 7, 3), (21, .iload_n 3, 1), (22, .iconst 3, 1), (23, .iload_n 2, 1), (24, .imul, 1), (25, .iadd, 1), (26, .iaload, 1), (27, .iconst 3, 1), (28, .aload_n 0, 1), (29, .getfield 7, 3), (32, .iload_n 3, 1), (33, .iconst 2, 1), (34, .iload_n 2, 1), (35, .imul, 1), (36, .iadd, 1), (37, .iaload, 1), (38, .imul, 1), (39, .isub, 1), (40, .iconst 3, 1), (41, .aload_n 0, 1), (42, .getfield 7, 3), (45, .iload_n 3, 1), (46, .iload_n 2, 1), (47, .iadd, 1), (48, .iaload, 1), (49, .imul, 1), (50, .iadd, 1), (51, .aload_n 0, 1), (52, .getfield 7, 3), (55, .iload_n 3, 1), (56, .iaload, 1), (57, .isub, 1), (58, .ireturn, 1), (59, .iconst 0, 1), (60, .istore 4, 2), (62, .iconst 0, 1), (63, .istore 5, 2), (65, .iload 5, 2), (67, .iload_n 2, 1), (68, .if_icmp .ge 23, 3), (71, .iload 4, 2), (73, .aload_n 0, 1), (74, .iload_n 2, 1), (75, .iload_n 3, 1), (76, .iload 5, 2), (78, .iadd, 1), (79, .invokevirtual 131, 3), (82, .iadd, 1), (83, .istore 4, 2), (85, .iinc 5 1, 3), (88, .goto (-23), 3), (91, .iload 4, 2), (93, .ireturn, 1)]
def qo_123 : List qOp := [(1, 0, 0, 0, .null, []), (0, 0, 0, 0, .int 1, []), (0, 0, 0, 0, .int 31, []), (48, 89, 3, 0, .null, [(0, 671), (0, 672), (0, 53)]), (51, 0, 0, 0, .null, [])]
def qr_123 : List qRow := [(0, .iload_n 0, 1), (1, .iconst 1, 1), (2, .bipush 31, 2), (4, .invokestatic 45, 3), (7, .ireturn, 1)]
def qo_124 : List qOp := [(1, 1, 0, 0, .null, []), (0, 0, 0, 0, .int 2, []), (0, 0, 0, 0, .int 4, []), (48, 89, 3, 0, .null, [(0, 671), (0, 672), (0, 53)]), (28, 0, 10, 0, .null, []), (1, 2, 0, 0, .null, []), (48, 123, 1, 0, .null, [(0, 797), (0, 798), (0, 53)]), (28, 0, 10, 0, .null, []), (1, 3, 0, 0, .null, []), (28, 3, 12, 0, .null, []), (0, 657, 0, 0, .int (-1000000002), []), (50, 0, 0, 0, .null, []), (3, 0, 0, 0, .null, []), (1, 3, 0, 0, .null, []), (49, 91, 1, 7, .null, [(0, 678), (0, 680), (0, 20), (0, 53)]), (28, 0, 28, 0, .null, []), (3, 0, 0, 0, .null, []), (1, 1, 0, 0, .null, []), (1, 2, 0, 0, .null, []), (1, 3, 0, 0, .null, []), (49, 119, 3, 7, .null, [(0, 721), (0, 723), (0, 25), (0, 53)]), (28, 0, 28, 0, .null, []), (3, 0, 0, 0, .null, []), (1, 1, 0, 0, .null, []), (1, 2, 0, 0, .null, []), (1, 3, 0, 0, .null, []), (49, 122, 3, 7, .null, [(0, 729), (0, 731), (0, 27), (0, 53)]), (32, 0, 29, 0, .null, []), (0, 588, 0, 0, .int (-1000000001), []), (50, 0, 0, 0, .null, [])]
def qr_124 : List qRow := [(0, .iload_n 1, 1), (1, .iconst 2, 1), (2, .iconst 4, 1), (3, .invokestatic 45, 3), (6, .ifCond .eq 14, 3), (9, .iload_n 2, 1), (10, .invokestatic 134, 3), (13, .ifCond .eq 7, 3), (16, .iload_n 3, 1), (17, .ifCond .ge 6, 3), (20, .ldc 64, 2), (22, .ireturn, 1), (23, .aload_n 0, 1), (24, .iload_n 3, 1), (25, .invokevirtual 49, 3), (28, .ifCond .eq 23, 3), (31, .aload_n 0, 1), (32, .iload_n 1, 1), (33, .iload_n 2, 1), (34, .iload_n 3, 1), (35, .invokevirtual 91, 3), (38, .ifCond .eq 13, 3), (41, .aload_n 0, 1), (42, .iload_n 1, 1), (43, .iload_n 2, 1), (44, .iload_n 3, 1), (45, .invokevirtual 94, 3), (48, .goto 5, 3), (51, .ldc 22, 2), (53, .ireturn, 1)]
def qo_125 : List qOp := [(0, 0, 0, 0, .int 0, []), (4, 3, 0, 0, .null, []), (0, 0, 0, 0, .int 0, []), (4, 4, 0, 0, .null, []), (1, 4, 0, 0, .null, []), (3, 0, 0, 0, .null, []), (49, 90, 0, 7, .null, [(0, 658), (0, 660), (0, 18), (0, 53)]), (29, 3, 22, 0, .null, []), (1, 3, 0, 0, .null, []), (3, 0, 0, 0, .null, []), (1, 1, 0, 0, .null, []), (1, 2, 0, 0, .null, []), (1, 4, 0, 0, .null, []), (49, 119, 3, 7, .null, [(0, 721), (0, 723), (0, 25), (0, 53)]), (28, 0, 17, 0, .null, []), (0, 0, 0, 0, .int 1, []), (32, 0, 18, 0, .null, []), (0, 0, 0, 0, .int 0, []), (8, 0, 0, 0, .null, []), (4, 3, 0, 0, .null, []), (7, 4, 0, 0, .int 1, []), (32, 0, 4, 0, .null, []), (1, 3, 0, 0, .null, []), (50, 0, 0, 0, .null, [])]
def qr_125 : List qRow := [(0, .iconst 0, 1), (1, .istore_n 3, 1), (2, .iconst 0, 1), (3, .istore 4, 2), (5, .iload 4, 2), (7, .aload_n 0, 1), (8, .invokevirtual 41, 3), (11, .if_icmp .ge 28, 3), (14, .iload_n 3, 1), (15, .aload_n 0, 1), (16, .iload_n 1, 1), (17, .iload_n 2, 1), (18, .iload 4, 2), (20, .invokevirtual 91, 3), (23, .ifCond .eq 7, 3), (26, .iconst 1, 1), (27, .goto 4, 3), (30, .iconst 0, 1), (31, .iadd, 1), (32, .istore_n 3, 1), (33, .iinc 4 1, 3), (36, .goto (-31), 3), (39, .iload_n 3, 1), (40, .ireturn, 1)]
def qo_126 : List qOp := [(1, 1, 0, 0, .null, []), (0, 0, 0, 0, .int 2, []), (0, 0, 0, 0, .int 4, []), (48, 89, 3, 0, .null, [(0, 671), (0, 672), (0, 53)]), (28, 0, 13, 0, .null, []), (1, 2, 0, 0, .null, []), (48, 123, 1, 0, .null, [(0, 797), (0, 798), (0, 53)]), (28, 0, 13, 0, .null, []), (3, 0, 0, 0, .null, []), (1, 1, 0, 0, .null, []), (1, 2, 0, 0, .null, []), (49, 125, 2, 7, .null, [(0, 717), (0, 719), (0, 24), (0, 53)]), (32, 0, 14, 0, .null, []), (0, 657, 0, 0, .int (-1000000002), []), (50, 0, 0, 0, .null, [])]
def qr_126 : List qRow := [(0, .iload_n 1, 1), (1, .iconst 2, 1), (2, .iconst 4, 1), (3, .invokestatic 45, 3), (6, .ifCond .eq 19, 3), (9, .iload_n 2, 1), (10, .invokestatic 134, 3), (13, .ifCond .eq 12, 3), (16, .aload_n 0, 1), (17, .iload_n 1, 1), (18, .iload_n 2, 1), (19, .invokevirtual 87, 3), (22, .goto 5, 3), (25, .ldc 64, 2), (27, .ireturn, 1)]
def qo_127 : List qOp := [(2, 0, 0, 0, .null, []), (5, 4, 0, 0, .null, []), (2, 2, 0, 0, .null, []), (5, 6, 0, 0, .null, []), (2, 6, 0, 0, .null, []), (0, 0, 0, 0, .long 0, []), (25, 0, 0, 0, .null, []), (28, 0, 17, 0, .null, []), (2, 4, 0, 0, .null, []), (2, 6, 0, 0, .null, []), (22, 0, 0, 0, .null, []), (5, 8, 0, 0, .null, []), (2, 6, 0, 0, .null, []), (5, 4, 0, 0, .null, []), (2, 8, 0, 0, .null, []), (5, 6, 0, 0, .null, []), (32, 0, 4, 0, .null, []), (2, 4, 0, 0, .null, []), (52, 0, 0, 0, .null, [])]
def qr_127 : List qRow := [(0, .lload_n 0, 1), (1, .lstore 4, 2), (3, .lload_n 2, 1), (4, .lstore 6, 2), (6, .lload 6, 2), (8, .lconst 0, 1), (9, .lcmp, 1), (10, .ifCond .eq 21, 3), (13, .lload 4, 2), (15, .lload 6, 2), (17, .lrem, 1), (18, .lstore 8, 2), (20, .lload 6, 2), (22, .lstore 4, 2), (24, .lload 8, 2), (26, .lstore 6, 2), (28, .goto (-22), 3), (31, .lload 4, 2), (33, .lreturn, 1)]
def qo_128 : List qOp := [(1, 1, 0, 0, .null, []), (28, 1, 4, 0, .null, []), (0, 0, 0, 0, .int 2, []), (32, 0, 10, 0, .null, []), (1, 1, 0, 0, .null, []), (0, 0, 0, 0, .int 1, []), (29, 1, 9, 0, .null, []), (0, 0, 0, 0, .int 3, []), (32, 0, 10, 0, .null, []), (0, 0, 0, 0, .int 4, []), (4, 3, 0, 0, .null, []), (0, 0, 0, 0, .long 0, []), (5, 4, 0, 0, .null, []), (3, 0, 0, 0, .null, []), (0, 0, 0, 0, .long 0, []), (38, 7, 11, 600, .null, []), (0, 0, 0, 0, .int 0, []), (4, 6, 0, 0, .null, []), (1, 6, 0, 0, .null, []), (3, 0, 0, 0, .null, []), (49, 90, 0, 7, .null, [(0, 658), (0, 660), (0, 18), (0, 53)]), (29, 3, 49, 0, .null, []), (3, 0, 0, 0, .null, []), (1, 3, 0, 0, .null, []), (1, 2, 0, 0, .null, []), (1, 6, 0, 0, .null, []), (49, 119, 3, 7, .null, [(0, 721), (0, 723), (0, 25), (0, 53)]), (28, 0, 47, 0, .null, []), (3, 0, 0, 0, .null, []), (1, 3, 0, 0, .null, []), (1, 2, 0, 0, .null, []), (1, 6, 0, 0, .null, []), (49, 122, 3, 7, .null, [(0, 729), (0, 731), (0, 27), (0, 53)]), (26, 0, 0, 0, .null, []), (5, 7, 0, 0, .null, []), (3, 0, 0, 0, .null, []), (55, 0, 0, 0, .null, []), (35, 7, 11, 600, .null, []), (2, 7, 0, 0, .null, []), (2, 7, 0, 0, .null, []), (20, 0, 0, 0, .null, []), (18, 0, 0, 0, .null, []), (38, 7, 11, 600, .null, []), (2, 4, 0, 0, .null, []), (0, 0, 0, 0, .long 1, []), (18, 0, 0, 0, .null, []), (5, 4, 0, 0, .null, []), (7, 6, 0, 0, .int 1, []), (32, 0, 18, 0, .null, []), (1, 2, 0, 0, .null, []), (26, 0, 0, 0, .null, []), (1, 2, 0, 0, .null, []), (26, 0, 0, 0, .null, []), (20, 0, 0, 0, .null, []), (5, 6, 0, 0, .null, []), (3, 0, 0, 0, .null, []), (1, 1, 0, 0, .null, []), (28, 1, 64, 0, .null, []), (0, 816, 0, 0, .long 2, []), (2, 6, 0, 0, .null, []), (20, 0, 0, 0, .null, []), (2, 4, 0, 0, .null, []), (20, 0, 0, 0, .null, []), (32, 0, 89, 0, .null, []), (1, 1, 0, 0, .null, []), (0, 0, 0, 0, .int 1, []), (29, 1, 73, 0, .null, []), (0, 817, 0, 0, .long 6, []), (2, 6, 0, 0, .null, []), (20, 0, 0, 0, .null, []), (2, 4, 0, 0, .null, []), (20, 0, 0, 0, .null, []), (32, 0, 89, 0, .null, []), (1, 1, 0, 0, .null, []), (0, 0, 0, 0, .int 2, []), (29, 1, 84, 0, .null, []), (0, 816, 0, 0, .long 2, []), (2, 6, 0, 0, .null, []), (20, 0, 0, 0, .null, []), (2, 6, 0, 0, .null, []), (20, 0, 0, 0, .null, []), (2, 4, 0, 0, .null, []), (20, 0, 0, 0, .null, []), (32, 0, 89, 0, .null, []), (0, 817, 0, 0, .long 6, []), (2, 6, 0, 0, .null, []), (20, 0, 0, 0, .null, []), (2, 4, 0, 0, .null, []), (20, 0, 0, 0, .null, []), (38, 7, 12, 601, .null, []), (2, 4, 0, 0, .null, []), (0, 0, 0, 0, .long 0, []), (25, 0, 0, 0, .null, []), (28, 1, 96, 0, .null, []), (0, 0, 0, 0, .int 0, []), (51, 0, 0, 0, .null, []), (3, 0, 0, 0, .null, []), (35, 7, 11, 600, .null, []), (3, 0, 0, 0, .null, []), (35, 7, 12, 601, .null, []), (48, 127, 2, 0, .null, [(0, 818), (0, 819), (0, 53)]), (5, 8, 0, 0, .null, []), (3, 0, 0, 0, .null, []), (55, 0, 0, 0, .null, []), (35, 7, 11, 600, .null, []), (2, 8, 0, 0, .null, []), (21, 0, 0, 0, .null, []), (38, 7, 11, 600, .null, []), (3, 0, 0, 0, .null, []), (55, 0, 0, 0, .null, []), (35, 7, 12, 601, .null, []), (2, 8, 0, 0, .null, []), (21, 0, 0, 0, .null, []), (38, 7, 12, 601, .null, []), (0, 0, 0, 0, .int 1, []), (51, 0, 0, 0, .null, [])]
def qr_128 : List qRow := [(0, .iload_n 1, 1), (1, .ifCond .ne 7, 3), (4, .iconst 2, 1), (5, .goto 13, 3), (8, .iload_n 1, 1), (9, .iconst 1, 1), (10, .if_icmp .ne 7, 3), (13, .iconst 3, 1), (14, .goto 4, 3), (17, .iconst 4, 1), (18, .istore_n 3, 1), (19, .lconst 0, 1), (20, .lstore 4, 2), (22, .aload_n 0, 1), (23, .lconst 0, 1), (24, .putfield 137, 3), (27, .iconst 0, 1), (28, .istore 6, 2), (30, .iload 6, 2), (32, .aload_n 0, 1), (33, .invokevirtual 41, 3), (36, .if_icmp .ge 51, 3), (39, .aload_n 0, 1), (40, .iload_n 3, 1), (41, .iload_n 2, 1), (42, .iload 6, 2), (44, .invokevirtual 91, 3), (47, .ifCond .eq 34, 3), (50, .aload_n 0, 1), (51, .iload_n 3, 1), (52, .iload_n 2, 1), (53, .iload 6, 2), (55, .invokevirtual 94, 3), (58, .i2l, 1), (59, .lstore 7, 2), (61, .aload_n 0, 1), (62, .dup, 1), (63, .getfield 137, 3), (66, .lload 7, 2), (68, .lload 7, 2), (70, .lmul, 1), (71, .ladd, 1), (72, .putfield 137, 3), (75, .lload 4, 2), (77, .lconst 1, 1), (78, .ladd, 1), (79, .lstore 4, 2), (81, .iinc 6 1, 3), (84, .goto (-54), 3), (87, .iload_n 2, 1), (88, .i2l, 1), (89, .iload_n 2, 1), (90, .i2l, 1), (91, .lmul, 1), (92, .lstore 6, 2), (94, .aload_n 0, 1), (95, .iload_n 1, 1), (96, .ifCond .ne 15, 3), (99, .ldc2_w 141, 3), (102, .lload 6, 2), (104, .lmul, 1), (105, .lload 4, 2), (107, .lmul, 1), (108, .goto 49, 3), (111, .iload_n 1, 1), (112, .iconst 1, 1), (113, .if_icmp .ne 15, 3), (116, .ldc2_w 143, 3), (119, .lload 6, 2), (121, .lmul, 1), (122, .lload 4, 2), (124, .lmul, 1), (125, .goto 32, 3), (128, .iload_n 1, 1), (129, .iconst 2, 1), (130, .if_icmp .ne 18, 3), (133, .ldc2_w 141, 3), (136, .lload 6, 2), (138, .lmul, 1), (139, .lload 6, 2), (141, .lmul, 1), (142, .lload 4, 2), (144, .lmul, 1), (145, .goto 12, 3), (148, .ldc2_w 143, 3), (151, .lload 6, 2), (153, .lmul, 1), (154, .lload 4, 2), (156, .lmul, 1), (157, .putfield 145, 3), (160, .lload 4, 2), (162, .lconst 0, 1), (163, .lcmp, 1), (164, .ifCond .ne 5, 3), (167, .iconst 0, 1), (168, .ireturn, 1), (169, .aload_n 0, 1), (170, .getfield 137, 3), (173, .aload_n 0, 1), (174, .getfield 145, 3), (177, .invokestatic 148, 3), (180, .lstore 8, 2), (182, .aload_n 0, 1), (183, .dup, 1), (184, .getfield 137, 3), (187, .lload 8, 2), (189, .ldiv, 1), (190, .putfield 137, 3), (193, .aload_n 0, 1), (194, .dup, 1), (195, .getfield 145, 3), (198, .lload 8, 2), (200, .ldiv, 1), (201, .putfield 145, 3), (204, .iconst 1, 1), (205, .ireturn, 1)]
def qo_129 : List qOp := [(1, 0, 0, 0, .null, []), (0, 0, 0, 0, .int 0, []), (0, 0, 0, 0, .int 3, []), (48, 89, 3, 0, .null, [(0, 671), (0, 672), (0, 53)]), (28, 0, 10, 0, .null, []), (1, 1, 0, 0, .null, []), (48, 123, 1, 0, .null, [(0, 797), (0, 798), (0, 53)]), (28, 0, 10, 0, .null, []), (0, 0, 0, 0, .int 1, []), (32, 0, 11, 0, .null, []), (0, 0, 0, 0, .int 0, []), (51, 0, 0, 0, .null, [])]
def qr_129 : List qRow := [(0, .iload_n 0, 1), (1, .iconst 0, 1), (2, .iconst 3, 1), (3, .invokestatic 45, 3), (6, .ifCond .eq 14, 3), (9, .iload_n 1, 1), (10, .invokestatic 134, 3), (13, .ifCond .eq 7, 3), (16, .iconst 1, 1), (17, .goto 4, 3), (20, .iconst 0, 1), (21, .ireturn, 1)]
def qo_130 : List qOp := [(1, 1, 0, 0, .null, []), (1, 2, 0, 0, .null, []), (48, 129, 2, 0, .null, [(0, 808), (0, 809), (0, 53)]), (28, 0, 9, 0, .null, []), (1, 3, 0, 0, .null, []), (0, 0, 0, 0, .int 0, []), (0, 0, 0, 0, .int 1, []), (48, 89, 3, 0, .null, [(0, 671), (0, 672), (0, 53)]), (28, 1, 11, 0, .null, []), (0, 811, 0, 0, .long (-1000000002), []), (52, 0, 0, 0, .null, []), (3, 0, 0, 0, .null, []), (1, 1, 0, 0, .null, []), (1, 2, 0, 0, .null, []), (49, 128, 2, 7, .null, [(0, 812), (0, 814), (0, 37), (0, 53)]), (28, 1, 18, 0, .null, []), (0, 821, 0, 0, .long (-1000000001), []), (52, 0, 0, 0, .null, []), (1, 3, 0, 0, .null, []), (28, 1, 23, 0, .null, []), (3, 0, 0, 0, .null, []), (35, 7, 11, 600, .null, []), (32, 0, 25, 0, .null, []), (3, 0, 0, 0, .null, []), (35, 7, 12, 601, .null, []), (52, 0, 0, 0, .null, [])]
def qr_130 : List qRow := [(0, .iload_n 1, 1), (1, .iload_n 2, 1), (2, .invokestatic 151, 3), (5, .ifCond .eq 12, 3), (8, .iload_n 3, 1), (9, .iconst 0, 1), (10, .iconst 1, 1), (11, .invokestatic 45, 3), (14, .ifCond .ne 7, 3), (17, .ldc2_w 154, 3), (20, .lreturn, 1), (21, .aload_n 0, 1), (22, .iload_n 1, 1), (23, .iload_n 2, 1), (24, .invokevirtual 156, 3), (27, .ifCond .ne 7, 3), (30, .ldc2_w 159, 3), (33, .lreturn, 1), (34, .iload_n 3, 1), (35, .ifCond .ne 10, 3), (38, .aload_n 0, 1), (39, .getfield 137, 3), (42, .goto 7, 3), (45, .aload_n 0, 1), (46, .getfield 145, 3), (49, .lreturn, 1)]
def qo_131 : List qOp := [(1, 1, 0, 0, .null, []), (1, 2, 0, 0, .null, []), (48, 129, 2, 0, .null, [(0, 808), (0, 809), (0, 53)]), (28, 1, 6, 0, .null, []), (0, 811, 0, 0, .long (-1000000002), []), (52, 0, 0, 0, .null, []), (3, 0, 0, 0, .null, []), (1, 1, 0, 0, .null, []), (1, 2, 0, 0, .null, []), (49, 128, 2, 7, .null, [(0, 812), (0, 814), (0, 37), (0, 53)]), (28, 1, 13, 0, .null, []), (0, 821, 0, 0, .long (-1000000001), []), (52, 0, 0, 0, .null, []), (0, 826, 0, 0, .long 1000000, []), (3, 0, 0, 0, .null, []), (35, 7, 11, 600, .null, []), (3, 0, 0, 0, .null, []), (35, 7, 12, 601, .null, []), (21, 0, 0, 0, .null, []), (20, 0, 0, 0, .null, []), (0, 826, 0, 0, .long 1000000, []), (3, 0, 0, 0, .null, []), (35, 7, 11, 600, .null, []), (3, 0, 0, 0, .null, []), (35, 7, 12, 601, .null, []), (22, 0, 0, 0, .null, []), (20, 0, 0, 0, .null, []), (3, 0, 0, 0, .null, []), (35, 7, 12, 601, .null, []), (21, 0, 0, 0, .null, []), (18, 0, 0, 0, .null, []), (5, 3, 0, 0, .null, []), (0, 0, 0, 0, .long 0, []), (5, 5, 0, 0, .null, []), (0, 827, 0, 0, .long 1000000000, []), (5, 7, 0, 0, .null, []), (2, 7, 0, 0, .null, []), (2, 5, 0, 0, .null, []), (19, 0, 0, 0, .null, []), (0, 0, 0, 0, .long 1, []), (25, 0, 0, 0, .null, []), (28, 5, 60, 0, .null, []), (2, 5, 0, 0, .null, []), (2, 7, 0, 0, .null, []), (18, 0, 0, 0, .null, []), (0, 816, 0, 0, .long 2, []), (21, 0, 0, 0, .null, []), (5, 9, 0, 0, .null, []), (2, 9, 0, 0, .null, []), (2, 9, 0, 0, .null, []), (20, 0, 0, 0, .null, []), (2, 3, 0, 0, .null, []), (25, 0, 0, 0, .null, []), (28, 4, 57, 0, .null, []), (2, 9, 0, 0, .null, []), (5, 5, 0, 0, .null, []), (32, 0, 59, 0, .null, []), (2, 9, 0, 0, .null, []), (5, 7, 0, 0, .null, []), (32, 0, 36, 0, .null, []), (2, 5, 0, 0, .null, []), (52, 0, 0, 0, .null, [])]
def qr_131 : List qRow := [(0, .iload_n 1, 1), (1, .iload_n 2, 1), (2, .invokestatic 151, 3), (5, .ifCond .ne 7, 3), (8, .ldc2_w 154, 3), (11, .lreturn, 1), (12, .aload_n 0, 1), (13, .iload_n 1, 1), (14, .iload_n 2, 1), (15, .invokevirtual 156, 3), (18, .ifCond .ne 7, 3), (21, .ldc2_w 159, 3), (24, .lreturn, 1), (25, .ldc2_w 161, 3), (28, .aload_n 0, 1), (29, .getfield 137, 3), (32, .aload_n 0, 1), (33, .getfield 145, 3), (36, .ldiv, 1), (37, .lmul, 1), (38, .ldc2_w 161, 3), (41, .aload_n 0, 1), (42, .getfield 137, 3), (45, .aload_n 0, 1), (46, .getfield 145, 3), (49, .lrem, 1), (50, .lmul, 1), (51, .aload_n 0, 1), (52, .getfield 145, 3), (55, .ldiv, 1), (56, .ladd, 1), (57, .lstore_n 3, 1), (58, .lconst 0, 1), (59, .lstore 5, 2), (61, .ldc2_w 163, 3), (64, .lstore 7, 2), (66, .lload 7, 2), (68, .lload 5, 2), (70, .lsub, 1), (71, .lconst 1, 1), (72, .lcmp, 1), (73, .ifCond .le 38, 3), (76, .lload 5, 2), (78, .lload 7, 2), (80, .ladd, 1), (81, .ldc2_w 141, 3), (84, .ldiv, 1), (85, .lstore 9, 2), (87, .lload 9, 2), (89, .lload 9, 2), (91, .lmul, 1), (92, .lload_n 3, 1), (93, .lcmp, 1), (94, .ifCond .gt 10, 3), (97, .lload 9, 2), (99, .lstore 5, 2), (101, .goto 7, 3), (104, .lload 9, 2), (106, .lstore 7, 2), (108, .goto (-42), 3), (111, .lload 5, 2), (113, .lreturn, 1)]
def qo_132 : List qOp := [(2, 0, 0, 0, .null, []), (5, 8, 0, 0, .null, []), (2, 2, 0, 0, .null, []), (5, 10, 0, 0, .null, []), (2, 4, 0, 0, .null, []), (5, 12, 0, 0, .null, []), (2, 6, 0, 0, .null, []), (5, 14, 0, 0, .null, []), (0, 0, 0, 0, .int 1, []), (4, 16, 0, 0, .null, []), (2, 8, 0, 0, .null, []), (2, 10, 0, 0, .null, []), (21, 0, 0, 0, .null, []), (2, 12, 0, 0, .null, []), (2, 14, 0, 0, .null, []), (21, 0, 0, 0, .null, []), (25, 0, 0, 0, .null, []), (28, 0, 31, 0, .null, []), (2, 8, 0, 0, .null, []), (2, 10, 0, 0, .null, []), (21, 0, 0, 0, .null, []), (2, 12, 0, 0, .null, []), (2, 14, 0, 0, .null, []), (21, 0, 0, 0, .null, []), (25, 0, 0, 0, .null, []), (28, 3, 29, 0, .null, []), (1, 16, 0, 0, .null, []), (17, 0, 0, 0, .null, []), (32, 0, 30, 0, .null, []), (1, 16, 0, 0, .null, []), (50, 0, 0, 0, .null, []), (2, 8, 0, 0, .null, []), (2, 10, 0, 0, .null, []), (22, 0, 0, 0, .null, []), (5, 17, 0, 0, .null, []), (2, 12, 0, 0, .null, []), (2, 14, 0, 0, .null, []), (22, 0, 0, 0, .null, []), (5, 19, 0, 0, .null, []), (2, 17, 0, 0, .null, []), (0, 0, 0, 0, .long 0, []), (25, 0, 0, 0, .null, []), (28, 0, 47, 0, .null, []), (2, 19, 0, 0, .null, []), (0, 0, 0, 0, .long 0, []), (25, 0, 0, 0, .null, []), (28, 1, 66, 0, .null, []), (2, 17, 0, 0, .null, []), (0, 0, 0, 0, .long 0, []), (25, 0, 0, 0, .null, []), (28, 1, 57, 0, .null, []), (2, 19, 0, 0, .null, []), (0, 0, 0, 0, .long 0, []), (25, 0, 0, 0, .null, []), (28, 1, 57, 0, .null, []), (0, 0, 0, 0, .int 0, []), (32, 0, 65, 0, .null, []), (2, 17, 0, 0, .null, []), (0, 0, 0, 0, .long 0, []), (25, 0, 0, 0, .null, []), (28, 1, 64, 0, .null, []), (1, 16, 0, 0, .null, []), (17, 0, 0, 0, .null, []), (32, 0, 65, 0, .null, []), (1, 16, 0, 0, .null, []), (50, 0, 0, 0, .null, []), (2, 10, 0, 0, .null, []), (5, 8, 0, 0, .null, []), (2, 17, 0, 0, .null, []), (5, 10, 0, 0, .null, []), (2, 14, 0, 0, .null, []), (5, 12, 0, 0, .null, []), (2, 19, 0, 0, .null, []), (5, 14, 0, 0, .null, []), (1, 16, 0, 0, .null, []), (17, 0, 0, 0, .null, []), (4, 16, 0, 0, .null, []), (32, 0, 10, 0, .null, [])]
def qr_132 : List qRow := [(0, .lload_n 0, 1), (1, .lstore 8, 2), (3, .lload_n 2, 1), (4, .lstore 10, 2), (6, .lload 4, 2), (8, .lstore 12, 2), (10, .lload 6, 2), (12, .lstore 14, 2), (14, .iconst 1, 1), (15, .istore 16, 2), (17, .lload 8, 2), (19, .lload 10, 2), (21, .ldiv, 1), (22, .lload 12, 2), (24, .lload 14, 2), (26, .ldiv, 1), (27, .lcmp, 1), (28, .ifCond .eq 26, 3), (31, .lload 8, 2), (33, .lload 10, 2), (35, .ldiv, 1), (36, .lload 12, 2), (38, .lload 14, 2), (40, .ldiv, 1), (41, .lcmp, 1), (42, .ifCond .ge 9, 3), (45, .iload 16, 2), (47, .ineg, 1), (48, .goto 5, 3), (51, .iload 16, 2), (53, .ireturn, 1), (54, .lload 8, 2), (56, .lload 10, 2), (58, .lrem, 1), (59, .lstore 17, 2), (61, .lload 12, 2), (63, .lload 14, 2), (65, .lrem, 1), (66, .lstore 19, 2), (68, .lload 17, 2), (70, .lconst 0, 1), (71, .lcmp, 1), (72, .ifCond .eq 10, 3), (75, .lload 19, 2), (77, .lconst 0, 1), (78, .lcmp, 1), (79, .ifCond .ne 37, 3), (82, .lload 17, 2), (84, .lconst 0, 1), (85, .lcmp, 1), (86, .ifCond .ne 14, 3), (89, .lload 19, 2), (91, .lconst 0, 1), (92, .lcmp, 1), (93, .ifCond .ne 7, 3), (96, .iconst 0, 1), (97, .goto 18, 3), (100, .lload 17, 2), (102, .lconst 0, 1), (103, .lcmp, 1), (104, .ifCond .ne 9, 3), (107, .iload 16, 2), (109, .ineg, 1), (110, .goto 5, 3), (113, .iload 16, 2), (115, .ireturn, 1), (116, .lload 10, 2), (118, .lstore 8, 2), (120, .lload 17, 2), (122, .lstore 10, 2), (124, .lload 14, 2), (126, .lstore 12, 2), (128, .lload 19, 2), (130, .lstore 14, 2), (132, .iload 16, 2), (134, .ineg, 1), (135, .istore 16, 2), (137, .goto (-120), 3)]
def qo_133 : List qOp := [(3, 0, 0, 0, .null, []), (1, 1, 0, 0, .null, []), (1, 2, 0, 0, .null, []), (49, 128, 2, 7, .null, [(0, 812), (0, 814), (0, 37), (0, 53)]), (28, 1, 7, 0, .null, []), (0, 588, 0, 0, .int (-1000000001), []), (50, 0, 0, 0, .null, []), (3, 0, 0, 0, .null, []), (35, 7, 11, 600, .null, []), (5, 4, 0, 0, .null, []), (3, 0, 0, 0, .null, []), (35, 7, 12, 601, .null, []), (5, 6, 0, 0, .null, []), (3, 0, 0, 0, .null, []), (1, 1, 0, 0, .null, []), (1, 3, 0, 0, .null, []), (49, 128, 2, 7, .null, [(0, 812), (0, 814), (0, 37), (0, 53)]), (28, 1, 20, 0, .null, []), (0, 588, 0, 0, .int (-1000000001), []), (50, 0, 0, 0, .null, []), (2, 4, 0, 0, .null, []), (2, 6, 0, 0, .null, []), (3, 0, 0, 0, .null, []), (35, 7, 11, 600, .null, []), (3, 0, 0, 0, .null, []), (35, 7, 12, 601, .null, []), (48, 132, 4, 0, .null, [(0, 836), (0, 837), (0, 53)]), (4, 8, 0, 0, .null, []), (1, 8, 0, 0, .null, []), (28, 1, 32, 0, .null, []), (0, 0, 0, 0, .int 0, []), (32, 0, 37, 0, .null, []), (1, 8, 0, 0, .null, []), (28, 3, 36, 0, .null, []), (0, 0, 0, 0, .int 1, []), (32, 0, 37, 0, .null, []), (0, 0, 0, 0, .int 2, []), (50, 0, 0, 0, .null, [])]
def qr_133 : List qRow := [(0, .aload_n 0, 1), (1, .iload_n 1, 1), (2, .iload_n 2, 1), (3, .invokevirtual 156, 3), (6, .ifCond .ne 6, 3), (9, .ldc 22, 2), (11, .ireturn, 1), (12, .aload_n 0, 1), (13, .getfield 137, 3), (16, .lstore 4, 2), (18, .aload_n 0, 1), (19, .getfield 145, 3), (22, .lstore 6, 2), (24, .aload_n 0, 1), (25, .iload_n 1, 1), (26, .iload_n 3, 1), (27, .invokevirtual 156, 3), (30, .ifCond .ne 6, 3), (33, .ldc 22, 2), (35, .ireturn, 1), (36, .lload 4, 2), (38, .lload 6, 2), (40, .aload_n 0, 1), (41, .getfield 137, 3), (44, .aload_n 0, 1), (45, .getfield 145, 3), (48, .invokestatic 165, 3), (51, .istore 8, 2), (53, .iload 8, 2), (55, .ifCond .ne 7, 3), (58, .iconst 0, 1), (59, .goto 13, 3), (62, .iload 8, 2), (64, .ifCond .ge 7, 3), (67, .iconst 1, 1), (68, .goto 4, 3), (71, .iconst 2, 1), (72, .ireturn, 1)]
def qo_134 : List qOp := [(1, 1, 0, 0, .null, []), (1, 2, 0, 0, .null, []), (48, 129, 2, 0, .null, [(0, 808), (0, 809), (0, 53)]), (28, 0, 13, 0, .null, []), (1, 3, 0, 0, .null, []), (48, 123, 1, 0, .null, [(0, 797), (0, 798), (0, 53)]), (28, 0, 13, 0, .null, []), (3, 0, 0, 0, .null, []), (1, 1, 0, 0, .null, []), (1, 2, 0, 0, .null, []), (1, 3, 0, 0, .null, []), (49, 133, 3, 7, .null, [(0, 832), (0, 834), (0, 38), (0, 53)]), (32, 0, 14, 0, .null, []), (0, 657, 0, 0, .int (-1000000002), []), (50, 0, 0, 0, .null, [])]
def qr_134 : List qRow := [(0, .iload_n 1, 1), (1, .iload_n 2, 1), (2, .invokestatic 151, 3), (5, .ifCond .eq 20, 3), (8, .iload_n 3, 1), (9, .invokestatic 134, 3), (12, .ifCond .eq 13, 3), (15, .aload_n 0, 1), (16, .iload_n 1, 1), (17, .iload_n 2, 1), (18, .iload_n 3, 1), (19, .invokevirtual 169, 3), (22, .goto 5, 3), (25, .ldc 64, 2), (27, .ireturn, 1)]
def qo_135 : List qOp := [(1, 1, 0, 0, .null, []), (0, 0, 0, 0, .int 0, []), (0, 0, 0, 0, .int 3, []), (48, 89, 3, 0, .null, [(0, 671), (0, 672), (0, 53)]), (28, 1, 7, 0, .null, []), (0, 657, 0, 0, .int (-1000000002), []), (50, 0, 0, 0, .null, []), (0, 588, 0, 0, .int (-1000000001), []), (4, 2, 0, 0, .null, []), (0, 0, 0, 0, .int 1, []), (4, 3, 0, 0, .null, []), (1, 3, 0, 0, .null, []), (0, 0, 0, 0, .int 31, []), (29, 4, 33, 0, .null, []), (3, 0, 0, 0, .null, []), (1, 1, 0, 0, .null, []), (1, 3, 0, 0, .null, []), (49, 128, 2, 7, .null, [(0, 812), (0, 814), (0, 37), (0, 53)]), (28, 0, 31, 0, .null, []), (1, 2, 0, 0, .null, []), (0, 588, 0, 0, .int (-1000000001), []), (29, 0, 29, 0, .null, []), (3, 0, 0, 0, .null, []), (1, 1, 0, 0, .null, []), (1, 3, 0, 0, .null, []), (1, 2, 0, 0, .null, []), (49, 133, 3, 7, .null, [(0, 832), (0, 834), (0, 38), (0, 53)]), (0, 0, 0, 0, .int 1, []), (29, 1, 31, 0, .null, []), (1, 3, 0, 0, .null, []), (4, 2, 0, 0, .null, []), (7, 3, 0, 0, .int 1, []), (32, 0, 11, 0, .null, []), (1, 2, 0, 0, .null, []), (50, 0, 0, 0, .null, [])]
def qr_135 : List qRow := [(0, .iload_n 1, 1), (1, .iconst 0, 1), (2, .iconst 3, 1), (3, .invokestatic 45, 3), (6, .ifCond .ne 6, 3), (9, .ldc 64, 2), (11, .ireturn, 1), (12, .ldc 22, 2), (14, .istore_n 2, 1), (15, .iconst 1, 1), (16, .istore_n 3, 1), (17, .iload_n 3, 1), (18, .bipush 31, 2), (20, .if_icmp .gt 37, 3), (23, .aload_n 0, 1), (24, .iload_n 1, 1), (25, .iload_n 3, 1), (26, .invokevirtual 156, 3), (29, .ifCond .eq 22, 3), (32, .iload_n 2, 1), (33, .ldc 22, 2), (35, .if_icmp .eq 14, 3), (38, .aload_n 0, 1), (39, .iload_n 1, 1), (40, .iload_n 3, 1), (41, .iload_n 2, 1), (42, .invokevirtual 169, 3), (45, .iconst 1, 1), (46, .if_icmp .ne 5, 3), (49, .iload_n 3, 1), (50, .istore_n 2, 1), (51, .iinc 3 1, 3), (54, .goto (-37), 3), (57, .iload_n 2, 1), (58, .ireturn, 1)]
def qo_136 : List qOp := [(3, 0, 0, 0, .null, []), (0, 0, 0, 0, .int 0, []), (1, 1, 0, 0, .null, []), (49, 128, 2, 7, .null, [(0, 812), (0, 814), (0, 37), (0, 53)]), (28, 0, 10, 0, .null, []), (3, 0, 0, 0, .null, []), (35, 7, 11, 600, .null, []), (0, 0, 0, 0, .long 0, []), (25, 0, 0, 0, .null, []), (28, 1, 12, 0, .null, []), (0, 588, 0, 0, .int (-1000000001), []), (50, 0, 0, 0, .null, []), (0, 851, 0, 0, .long 3, []), (3, 0, 0, 0, .null, []), (35, 7, 11, 600, .null, []), (20, 0, 0, 0, .null, []), (5, 2, 0, 0, .null, []), (3, 0, 0, 0, .null, []), (35, 7, 12, 601, .null, []), (5, 4, 0, 0, .null, []), (3, 0, 0, 0, .null, []), (0, 0, 0, 0, .int 0, []), (0, 0, 0, 0, .int 2, []), (1, 1, 0, 0, .null, []), (10, 0, 0, 0, .null, []), (49, 128, 2, 7, .null, [(0, 812), (0, 814), (0, 37), (0, 53)]), (28, 1, 29, 0, .null, []), (0, 588, 0, 0, .int (-1000000001), []), (50, 0, 0, 0, .null, []), (0, 0, 0, 0, .int 0, []), (4, 6, 0, 0, .null, []), (1, 6, 0, 0, .null, []), (0, 0, 0, 0, .int 4, []), (29, 3, 51, 0, .null, []), (0, 0, 0, 0, .int 8, []), (1, 6, 0, 0, .null, []), (14, 0, 0, 0, .null, []), (26, 0, 0, 0, .null, []), (3, 0, 0, 0, .null, []), (35, 7, 11, 600, .null, []), (20, 0, 0, 0, .null, []), (3, 0, 0, 0, .null, []), (35, 7, 12, 601, .null, []), (2, 2, 0, 0, .null, []), (2, 4, 0, 0, .null, []), (48, 132, 4, 0, .null, [(0, 836), (0, 837), (0, 53)]), (28, 4, 49, 0, .null, []), (1, 6, 0, 0, .null, []), (50, 0, 0, 0, .null, []), (7, 6, 0, 0, .int 1, []), (32, 0, 31, 0, .null, []), (0, 0, 0, 0, .int 4, []), (50, 0, 0, 0, .null, [])]
def qr_136 : List qRow := [(0, .aload_n 0, 1), (1, .iconst 0, 1), (2, .iload_n 1, 1), (3, .invokevirtual 156, 3), (6, .ifCond .eq 12, 3), (9, .aload_n 0, 1), (10, .getfield 137, 3), (13, .lconst 0, 1), (14, .lcmp, 1), (15, .ifCond .ne 6, 3), (18, .ldc 22, 2), (20, .ireturn, 1), (21, .ldc2_w 172, 3), (24, .aload_n 0, 1), (25, .getfield 137, 3), (28, .lmul, 1), (29, .lstore_n 2, 1), (30, .aload_n 0, 1), (31, .getfield 145, 3), (34, .lstore 4, 2), (36, .aload_n 0, 1), (37, .iconst 0, 1), (38, .iconst 2, 1), (39, .iload_n 1, 1), (40, .imul, 1), (41, .invokevirtual 156, 3), (44, .ifCond .ne 6, 3), (47, .ldc 22, 2), (49, .ireturn, 1), (50, .iconst 0, 1), (51, .istore 6, 2), (53, .iload 6, 2), (55, .iconst 4, 1), (56, .if_icmp .ge 36, 3), (59, .bipush 8, 2), (61, .iload 6, 2), (63, .ishr, 1), (64, .i2l, 1), (65, .aload_n 0, 1), (66, .getfield 137, 3), (69, .lmul, 1), (70, .aload_n 0, 1), (71, .getfield 145, 3), (74, .lload_n 2, 1), (75, .lload 4, 2), (77, .invokestatic 165, 3), (80, .ifCond .gt 6, 3), (83, .iload 6, 2), (85, .ireturn, 1), (86, .iinc 6 1, 3), (89, .goto (-36), 3), (92, .iconst 4, 1), (93, .ireturn, 1)]
def qo_137 : List qOp := [(1, 1, 0, 0, .null, []), (0, 0, 0, 0, .int 1, []), (0, 0, 0, 0, .int 15, []), (48, 89, 3, 0, .null, [(0, 671), (0, 672), (0, 53)]), (28, 0, 9, 0, .null, []), (3, 0, 0, 0, .null, []), (1, 1, 0, 0, .null, []), (49, 136, 1, 7, .null, [(0, 847), (0, 849), (0, 39), (0, 53)]), (32, 0, 10, 0, .null, []), (0, 657, 0, 0, .int (-1000000002), []), (50, 0, 0, 0, .null, [])]
def qr_137 : List qRow := [(0, .iload_n 1, 1), (1, .iconst 1, 1), (2, .bipush 15, 2), (4, .invokestatic 45, 3), (7, .ifCond .eq 11, 3), (10, .aload_n 0, 1), (11, .iload_n 1, 1), (12, .invokevirtual 174, 3), (15, .goto 5, 3), (18, .ldc 64, 2), (20, .ireturn, 1)]
def qo_138 : List qOp := [(1, 1, 0, 0, .null, []), (0, 0, 0, 0, .int 1, []), (0, 0, 0, 0, .int 15, []), (48, 89, 3, 0, .null, [(0, 671), (0, 672), (0, 53)]), (28, 1, 7, 0, .null, []), (0, 657, 0, 0, .int (-1000000002), []), (50, 0, 0, 0, .null, []), (3, 0, 0, 0, .null, []), (1, 1, 0, 0, .null, []), (49, 136, 1, 7, .null, [(0, 847), (0, 849), (0, 39), (0, 53)]), (4, 2, 0, 0, .null, []), (1, 2, 0, 0, .null, []), (0, 588, 0, 0, .int (-1000000001), []), (29, 1, 16, 0, .null, []), (0, 588, 0, 0, .int (-1000000001), []), (50, 0, 0, 0, .null, []), (3, 0, 0, 0, .null, []), (0, 0, 0, 0, .int 2, []), (1, 1, 0, 0, .null, []), (49, 125, 2, 7, .null, [(0, 717), (0, 719), (0, 24), (0, 53)]), (4, 3, 0, 0, .null, []), (1, 2, 0, 0, .null, []), (28, 1, 39, 0, .null, []), (1, 3, 0, 0, .null, []), (0, 0, 0, 0, .int 1, []), (8, 0, 0, 0, .null, []), (1, 3, 0, 0, .null, []), (0, 0, 0, 0, .int 2, []), (1, 1, 0, 0, .null, []), (10, 0, 0, 0, .null, []), (8, 0, 0, 0, .null, []), (10, 0, 0, 0, .null, []), (0, 0, 0, 0, .int 2, []), (1, 3, 0, 0, .null, []), (1, 1, 0, 0, .null, []), (8, 0, 0, 0, .null, []), (10, 0, 0, 0, .null, []), (15, 0, 0, 0, .null, []), (32, 0, 74, 0, .null, []), (1, 2, 0, 0, .null, []), (0, 0, 0, 0, .int 1, []), (29, 1, 54, 0, .null, []), (0, 0, 0, 0, .int 3, []), (1, 3, 0, 0, .null, []), (10, 0, 0, 0, .null, []), (1, 3, 0, 0, .null, []), (10, 0, 0, 0, .null, []), (0, 0, 0, 0, .int 2, []), (1, 3, 0, 0, .null, []), (1, 1, 0, 0, .null, []), (8, 0, 0, 0, .null, []), (10, 0, 0, 0, .null, []), (15, 0, 0, 0, .null, []), (32, 0, 74, 0, .null, []), (1, 2, 0, 0, .null, []), (0, 0, 0, 0, .int 2, []), (29, 1, 71, 0, .null, []), (0, 0, 0, 0, .int 5, []), (1, 3, 0, 0, .null, []), (10, 0, 0, 0, .null, []), (1, 3, 0, 0, .null, []), (10, 0, 0, 0, .null, []), (0, 0, 0, 0, .int 4, []), (1, 3, 0, 0, .null, []), (0, 0, 0, 0, .int 3, []), (1, 1, 0, 0, .null, []), (10, 0, 0, 0, .null, []), (8, 0, 0, 0, .null, []), (10, 0, 0, 0, .null, []), (15, 0, 0, 0, .null, []), (32, 0, 74, 0, .null, []), (1, 3, 0, 0, .null, []), (1, 1, 0, 0, .null, []), (15, 0, 0, 0, .null, []), (4, 4, 0, 0, .null, []), (1, 4, 0, 0, .null, []), (0, 0, 0, 0, .int 1, []), (29, 3, 80, 0, .null, []), (0, 0, 0, 0, .int 1, []), (32, 0, 81, 0, .null, []), (1, 4, 0, 0, .null, []), (50, 0, 0, 0, .null, [])]
def qr_138 : List qRow := [(0, .iload_n 1, 1), (1, .iconst 1, 1), (2, .bipush 15, 2), (4, .invokestatic 45, 3), (7, .ifCond .ne 6, 3), (10, .ldc 64, 2), (12, .ireturn, 1), (13, .aload_n 0, 1), (14, .iload_n 1, 1), (15, .invokevirtual 174, 3), (18, .istore_n 2, 1), (19, .iload_n 2, 1), (20, .ldc 22, 2), (22, .if_icmp .ne 6, 3), (25, .ldc 22, 2), (27, .ireturn, 1), (28, .aload_n 0, 1), (29, .iconst 2, 1), (30, .iload_n 1, 1), (31, .invokevirtual 87, 3), (34, .istore_n 3, 1), (35, .iload_n 2, 1), (36, .ifCond .ne 21, 3), (39, .iload_n 3, 1), (40, .iconst 1, 1), (41, .iadd, 1), (42, .iload_n 3, 1), (43, .iconst 2, 1), (44, .iload_n 1, 1), (45, .imul, 1), (46, .iadd, 1), (47, .imul, 1), (48, .iconst 2, 1), (49, .iload_n 3, 1), (50, .iload_n 1, 1), (51, .iadd, 1), (52, .imul, 1), (53, .idiv, 1), (54, .goto 46, 3), (57, .iload_n 2, 1), (58, .iconst 1, 1), (59, .if_icmp .ne 17, 3), (62, .iconst 3, 1), (63, .iload_n 3, 1), (64, .imul, 1), (65, .iload_n 3, 1), (66, .imul, 1), (67, .iconst 2, 1), (68, .iload_n 3, 1), (69, .iload_n 1, 1), (70, .iadd, 1), (71, .imul, 1), (72, .idiv, 1), (73, .goto 27, 3), (76, .iload_n 2, 1), (77, .iconst 2, 1), (78, .if_icmp .ne 19, 3), (81, .iconst 5, 1), (82, .iload_n 3, 1), (83, .imul, 1), (84, .iload_n 3, 1), (85, .imul, 1), (86, .iconst 4, 1), (87, .iload_n 3, 1), (88, .iconst 3, 1), (89, .iload_n 1, 1), (90, .imul, 1), (91, .iadd, 1), (92, .imul, 1), (93, .idiv, 1), (94, .goto 6, 3), (97, .iload_n 3, 1), (98, .iload_n 1, 1), (99, .idiv, 1), (100, .istore 4, 2), (102, .iload 4, 2), (104, .iconst 1, 1), (105, .if_icmp .ge 7, 3), (108, .iconst 1, 1), (109, .goto 5, 3), (112, .iload 4, 2), (114, .ireturn, 1)]
def qo_139 : List qOp := [(1, 1, 0, 0, .null, []), (0, 0, 0, 0, .int 0, []), (0, 712, 0, 0, .int 99999, []), (48, 89, 3, 0, .null, [(0, 671), (0, 672), (0, 53)]), (28, 0, 9, 0, .null, []), (3, 0, 0, 0, .null, []), (1, 1, 0, 0, .null, []), (49, 106, 1, 7, .null, [(0, 741), (0, 743), (0, 29), (0, 53)]), (32, 0, 10, 0, .null, []), (0, 657, 0, 0, .int (-1000000002), []), (50, 0, 0, 0, .null, [])]
def qr_139 : List qRow := [(0, .iload_n 1, 1), (1, .iconst 0, 1), (2, .ldc 86, 2), (4, .invokestatic 45, 3), (7, .ifCond .eq 11, 3), (10, .aload_n 0, 1), (11, .iload_n 1, 1), (12, .invokevirtual 102, 3), (15, .goto 5, 3), (18, .ldc 64, 2), (20, .ireturn, 1)]
def qo_140 : List qOp := [(1, 1, 0, 0, .null, []), (0, 0, 0, 0, .int 32, []), (0, 0, 0, 0, .int 126, []), (48, 89, 3, 0, .null, [(0, 671), (0, 672), (0, 53)]), (28, 1, 7, 0, .null, []), (0, 657, 0, 0, .int (-1000000002), []), (50, 0, 0, 0, .null, []), (3, 0, 0, 0, .null, []), (34, 7, 6, 595, .null, []), (0, 0, 0, 0, .int 120, []), (29, 1, 13, 0, .null, []), (0, 662, 0, 0, .int (-1000000004), []), (50, 0, 0, 0, .null, []), (3, 0, 0, 0, .null, []), (36, 7, 5, 594, .null, []), (3, 0, 0, 0, .null, []), (34, 7, 6, 595, .null, []), (1, 1, 0, 0, .null, []), (45, 0, 0, 0, .null, []), (3, 0, 0, 0, .null, []), (55, 0, 0, 0, .null, []), (34, 7, 6, 595, .null, []), (0, 0, 0, 0, .int 1, []), (8, 0, 0, 0, .null, []), (37, 7, 6, 595, .null, []), (3, 0, 0, 0, .null, []), (34, 7, 6, 595, .null, []), (50, 0, 0, 0, .null, [])]
def qr_140 : List qRow := [(0, .iload_n 1, 1), (1, .bipush 32, 2), (3, .bipush 126, 2), (5, .invokestatic 45, 3), (8, .ifCond .ne 6, 3), (11, .ldc 64, 2), (13, .ireturn, 1), (14, .aload_n 0, 1), (15, .getfield 125, 3), (18, .bipush 120, 2), (20, .if_icmp .ne 6, 3), (23, .ldc 65, 2), (25, .ireturn, 1), (26, .aload_n 0, 1), (27, .getfield 19, 3), (30, .aload_n 0, 1), (31, .getfield 125, 3), (34, .iload_n 1, 1), (35, .iastore, 1), (36, .aload_n 0, 1), (37, .dup, 1), (38, .getfield 125, 3), (41, .iconst 1, 1), (42, .iadd, 1), (43, .putfield 125, 3), (46, .aload_n 0, 1), (47, .getfield 125, 3), (50, .ireturn, 1)]
def qo_141 : List qOp := [(3, 0, 0, 0, .null, []), (34, 7, 6, 595, .null, []), (4, 1, 0, 0, .null, []), (3, 0, 0, 0, .null, []), (0, 0, 0, 0, .int 0, []), (37, 7, 6, 595, .null, []), (1, 1, 0, 0, .null, []), (50, 0, 0, 0, .null, [])]
def qr_141 : List qRow := [(0, .aload_n 0, 1), (1, .getfield 125, 3), (4, .istore_n 1, 1), (5, .aload_n 0, 1), (6, .iconst 0, 1), (7, .putfield 125, 3), (10, .iload_n 1, 1), (11, .ireturn, 1)]
def qo_142 : List qOp := [(3, 0, 0, 0, .null, []), (1, 1, 0, 0, .null, []), (37, 7, 14, 603, .null, []), (3, 0, 0, 0, .null, []), (1, 2, 0, 0, .null, []), (37, 7, 15, 604, .null, []), (0, 0, 0, 0, .int 1, []), (51, 0, 0, 0, .null, [])]
def qr_142 : List qRow := [(0, .aload_n 0, 1), (1, .iload_n 1, 1), (2, .putfield 177, 3), (5, .aload_n 0, 1), (6, .iload_n 2, 1), (7, .putfield 180, 3), (10, .iconst 1, 1), (11, .ireturn, 1)]
def qo_143 : List qOp := [(3, 0, 0, 0, .null, []), (34, 7, 13, 602, .null, []), (3, 0, 0, 0, .null, []), (34, 7, 6, 595, .null, []), (29, 3, 16, 0, .null, []), (3, 0, 0, 0, .null, []), (36, 7, 5, 594, .null, []), (3, 0, 0, 0, .null, []), (34, 7, 13, 602, .null, []), (41, 0, 0, 0, .null, []), (0, 0, 0, 0, .int 48, []), (0, 0, 0, 0, .int 57, []), (48, 89, 3, 0, .null, [(0, 671), (0, 672), (0, 53)]), (28, 0, 16, 0, .null, []), (0, 0, 0, 0, .int 1, []), (32, 0, 17, 0, .null, []), (0, 0, 0, 0, .int 0, []), (51, 0, 0, 0, .null, [])]
def qr_143 : List qRow := [(0, .aload_n 0, 1), (1, .getfield 183, 3), (4, .aload_n 0, 1), (5, .getfield 125, 3), (8, .if_icmp .ge 26, 3), (11, .aload_n 0, 1), (12, .getfield 19, 3), (15, .aload_n 0, 1), (16, .getfield 183, 3), (19, .iaload, 1), (20, .bipush 48, 2), (22, .bipush 57, 2), (24, .invokestatic 45, 3), (27, .ifCond .eq 7, 3), (30, .iconst 1, 1), (31, .goto 4, 3), (34, .iconst 0, 1), (35, .ireturn, 1)]
def qo_144 : List qOp := [(3, 0, 0, 0, .null, []), (34, 7, 13, 602, .null, []), (3, 0, 0, 0, .null, []), (34, 7, 6, 595, .null, []), (29, 3, 14, 0, .null, []), (3, 0, 0, 0, .null, []), (36, 7, 5, 594, .null, []), (3, 0, 0, 0, .null, []), (34, 7, 13, 602, .null, []), (41, 0, 0, 0, .null, []), (1, 1, 0, 0, .null, []), (29, 1, 14, 0, .null, []), (0, 0, 0, 0, .int 1, []), (32, 0, 15, 0, .null, []), (0, 0, 0, 0, .int 0, []), (4, 2, 0, 0, .null, []), (3, 0, 0, 0, .null, []), (55, 0, 0, 0, .null, []), (34, 7, 13, 602, .null, []), (1, 2, 0, 0, .null, []), (28, 0, 23, 0, .null, []), (0, 0, 0, 0, .int 1, []), (32, 0, 24, 0, .null, []), (0, 0, 0, 0, .int 0, []), (8, 0, 0, 0, .null, []), (37, 7, 13, 602, .null, []), (1, 2, 0, 0, .null, []), (51, 0, 0, 0, .null, [])]
def qr_144 : List qRow := [(0, .aload_n 0, 1), (1, .getfield 183, 3), (4, .aload_n 0, 1), (5, .getfield 125, 3), (8, .if_icmp .ge 20, 3), (11, .aload_n 0, 1), (12, .getfield 19, 3), (15, .aload_n 0, 1), (16, .getfield 183, 3), (19, .iaload, 1), (20, .iload_n 1, 1), (21, .if_icmp .ne 7, 3), (24, .iconst 1, 1), (25, .goto 4, 3), (28, .iconst 0, 1), (29, .istore_n 2, 1), (30, .aload_n 0, 1), (31, .dup, 1), (32, .getfield 183, 3), (35, .iload_n 2, 1), (36, .ifCond .eq 7, 3), (39, .iconst 1, 1), (40, .goto 4, 3), (43, .iconst 0, 1), (44, .iadd, 1), (45, .putfield 183, 3), (48, .iload_n 2, 1), (49, .ireturn, 1)]
def qo_145 : List qOp := [(3, 0, 0, 0, .null, []), (0, 0, 0, 0, .int 0, []), (37, 7, 18, 607, .null, []), (0, 0, 0, 0, .int 0, []), (4, 2, 0, 0, .null, []), (1, 2, 0, 0, .null, []), (1, 1, 0, 0, .null, []), (29, 3, 33, 0, .null, []), (3, 0, 0, 0, .null, []), (49, 143, 0, 7, .null, [(0, 884), (0, 886), (0, 43), (0, 53)]), (28, 0, 33, 0, .null, []), (3, 0, 0, 0, .null, []), (0, 0, 0, 0, .int 10, []), (3, 0, 0, 0, .null, []), (34, 7, 18, 607, .null, []), (10, 0, 0, 0, .null, []), (3, 0, 0, 0, .null, []), (36, 7, 5, 594, .null, []), (3, 0, 0, 0, .null, []), (34, 7, 13, 602, .null, []), (41, 0, 0, 0, .null, []), (8, 0, 0, 0, .null, []), (0, 0, 0, 0, .int 48, []), (9, 0, 0, 0, .null, []), (37, 7, 18, 607, .null, []), (3, 0, 0, 0, .null, []), (55, 0, 0, 0, .null, []), (34, 7, 13, 602, .null, []), (0, 0, 0, 0, .int 1, []), (8, 0, 0, 0, .null, []), (37, 7, 13, 602, .null, []), (7, 2, 0, 0, .int 1, []), (32, 0, 5, 0, .null, []), (1, 2, 0, 0, .null, []), (28, 1, 43, 0, .null, []), (3, 0, 0, 0, .null, []), (0, 0, 0, 0, .int 1, []), (3, 0, 0, 0, .null, []), (34, 7, 13, 602, .null, []), (49, 142, 2, 7, .null, [(0, 888), (0, 890), (0, 44), (0, 53)]), (28, 0, 43, 0, .null, []), (0, 0, 0, 0, .int 1, []), (32, 0, 44, 0, .null, []), (0, 0, 0, 0, .int 0, []), (51, 0, 0, 0, .null, [])]
def qr_145 : List qRow := [(0, .aload_n 0, 1), (1, .iconst 0, 1), (2, .putfield 186, 3), (5, .iconst 0, 1), (6, .istore_n 2, 1), (7, .iload_n 2, 1), (8, .iload_n 1, 1), (9, .if_icmp .ge 50, 3), (12, .aload_n 0, 1), (13, .invokevirtual 189, 3), (16, .ifCond .eq 43, 3), (19, .aload_n 0, 1), (20, .bipush 10, 2), (22, .aload_n 0, 1), (23, .getfield 186, 3), (26, .imul, 1), (27, .aload_n 0, 1), (28, .getfield 19, 3), (31, .aload_n 0, 1), (32, .getfield 183, 3), (35, .iaload, 1), (36, .iadd, 1), (37, .bipush 48, 2), (39, .isub, 1), (40, .putfield 186, 3), (43, .aload_n 0, 1), (44, .dup, 1), (45, .getfield 183, 3), (48, .iconst 1, 1), (49, .iadd, 1), (50, .putfield 183, 3), (53, .iinc 2 1, 3), (56, .goto (-49), 3), (59, .iload_n 2, 1), (60, .ifCond .ne 19, 3), (63, .aload_n 0, 1), (64, .iconst 1, 1), (65, .aload_n 0, 1), (66, .getfield 183, 3), (69, .invokevirtual 193, 3), (72, .ifCond .eq 7, 3), (75, .iconst 1, 1), (76, .goto 4, 3), (79, .iconst 0, 1), (80, .ireturn, 1)]
def qo_146 : List qOp := [(3, 0, 0, 0, .null, []), (34, 7, 13, 602, .null, []), (4, 1, 0, 0, .null, []), (0, 588, 0, 0, .int (-1000000001), []), (4, 2, 0, 0, .null, []), (3, 0, 0, 0, .null, []), (0, 0, 0, 0, .int 63, []), (49, 144, 1, 7, .null, [(0, 876), (0, 878), (0, 41), (0, 53)]), (28, 1, 28, 0, .null, []), (3, 0, 0, 0, .null, []), (0, 0, 0, 0, .int 45, []), (49, 144, 1, 7, .null, [(0, 876), (0, 878), (0, 41), (0, 53)]), (4, 3, 0, 0, .null, []), (3, 0, 0, 0, .null, []), (0, 0, 0, 0, .int 5, []), (49, 145, 1, 7, .null, [(0, 880), (0, 882), (0, 42), (0, 53)]), (28, 0, 19, 0, .null, []), (0, 0, 0, 0, .int 1, []), (51, 0, 0, 0, .null, []), (1, 3, 0, 0, .null, []), (28, 0, 25, 0, .null, []), (3, 0, 0, 0, .null, []), (34, 7, 18, 607, .null, []), (17, 0, 0, 0, .null, []), (32, 0, 27, 0, .null, []), (3, 0, 0, 0, .null, []), (34, 7, 18, 607, .null, []), (4, 2, 0, 0, .null, []), (0, 0, 0, 0, .int 1, []), (4, 3, 0, 0, .null, []), (3, 0, 0, 0, .null, []), (0, 0, 0, 0, .int 42, []), (49, 144, 1, 7, .null, [(0, 876), (0, 878), (0, 41), (0, 53)]), (28, 0, 56, 0, .null, []), (3, 0, 0, 0, .null, []), (34, 7, 13, 602, .null, []), (4, 4, 0, 0, .null, []), (3, 0, 0, 0, .null, []), (0, 0, 0, 0, .int 2, []), (49, 145, 1, 7, .null, [(0, 880), (0, 882), (0, 42), (0, 53)]), (28, 0, 43, 0, .null, []), (0, 0, 0, 0, .int 1, []), (51, 0, 0, 0, .null, []), (3, 0, 0, 0, .null, []), (34, 7, 18, 607, .null, []), (4, 3, 0, 0, .null, []), (1, 3, 0, 0, .null, []), (0, 0, 0, 0, .int 1, []), (0, 0, 0, 0, .int 64, []), (48, 89, 3, 0, .null, [(0, 671), (0, 672), (0, 53)]), (28, 1, 56, 0, .null, []), (3, 0, 0, 0, .null, []), (0, 0, 0, 0, .int 2, []), (1, 4, 0, 0, .null, []), (49, 142, 2, 7, .null, [(0, 888), (0, 890), (0, 44), (0, 53)]), (51, 0, 0, 0, .null, []), (3, 0, 0, 0, .null, []), (0, 0, 0, 0, .int 59, []), (49, 144, 1, 7, .null, [(0, 876), (0, 878), (0, 41), (0, 53)]), (28, 1, 66, 0, .null, []), (3, 0, 0, 0, .null, []), (0, 0, 0, 0, .int 1, []), (3, 0, 0, 0, .null, []), (34, 7, 13, 602, .null, []), (49, 142, 2, 7, .null, [(0, 888), (0, 890), (0, 44), (0, 53)]), (51, 0, 0, 0, .null, []), (3, 0, 0, 0, .null, []), (34, 7, 17, 606, .null, []), (1, 3, 0, 0, .null, []), (8, 0, 0, 0, .null, []), (0, 0, 0, 0, .int 64, []), (29, 5, 77, 0, .null, []), (3, 0, 0, 0, .null, []), (0, 0, 0, 0, .int 3, []), (1, 1, 0, 0, .null, []), (49, 142, 2, 7, .null, [(0, 888), (0, 890), (0, 44), (0, 53)]), (51, 0, 0, 0, .null, []), (0, 0, 0, 0, .int 0, []), (4, 4, 0, 0, .null, []), (1, 4, 0, 0, .null, []), (1, 3, 0, 0, .null, []), (29, 3, 96, 0, .null, []), (3, 0, 0, 0, .null, []), (36, 7, 16, 605, .null, []), (3, 0, 0, 0, .null, []), (34, 7, 17, 606, .null, []), (1, 2, 0, 0, .null, []), (45, 0, 0, 0, .null, []), (3, 0, 0, 0, .null, []), (55, 0, 0, 0, .null, []), (34, 7, 17, 606, .null, []), (0, 0, 0, 0, .int 1, []), (8, 0, 0, 0, .null, []), (37, 7, 17, 606, .null, []), (7, 4, 0, 0, .int 1, []), (32, 0, 79, 0, .null, []), (0, 0, 0, 0, .int 0, []), (51, 0, 0, 0, .null, [])]
def qr_146 : List qRow := [(0, .aload_n 0, 1), (1, .getfield 183, 3), (4, .istore_n 1, 1), (5, .ldc 22, 2), (7, .istore_n 2, 1), (8, .aload_n 0, 1), (9, .bipush 63, 2), (11, .invokevirtual 196, 3), (14, .ifCond .ne 37, 3), (17, .aload_n 0, 1), (18, .bipush 45, 2), (20, .invokevirtual 196, 3), (23, .istore_n 3, 1), (24, .aload_n 0, 1), (25, .iconst 5, 1), (26, .invokevirtual 199, 3), (29, .ifCond .eq 5, 3), (32, .iconst 1, 1), (33, .ireturn, 1), (34, .iload_n 3, 1), (35, .ifCond .eq 11, 3), (38, .aload_n 0, 1), (39, .getfield 186, 3), (42, .ineg, 1), (43, .goto 7, 3), (46, .aload_n 0, 1), (47, .getfield 186, 3), (50, .istore_n 2, 1), (51, .iconst 1, 1), (52, .istore_n 3, 1), (53, .aload_n 0, 1), (54, .bipush 42, 2), (56, .invokevirtual 196, 3), (59, .ifCond .eq 42, 3), (62, .aload_n 0, 1), (63, .getfield 183, 3), (66, .istore 4, 2), (68, .aload_n 0, 1), (69, .iconst 2, 1), (70, .invokevirtual 199, 3), (73, .ifCond .eq 5, 3), (76, .iconst 1, 1), (77, .ireturn, 1), (78, .aload_n 0, 1), (79, .getfield 186, 3), (82, .istore_n 3, 1), (83, .iload_n 3, 1), (84, .iconst 1, 1), (85, .bipush 64, 2), (87, .invokestatic 45, 3), (90, .ifCond .ne 11, 3), (93, .aload_n 0, 1), (94, .iconst 2, 1), (95, .iload 4, 2), (97, .invokevirtual 193, 3), (100, .ireturn, 1), (101, .aload_n 0, 1), (102, .bipush 59, 2), (104, .invokevirtual 196, 3), (107, .ifCond .ne 13, 3), (110, .aload_n 0, 1), (111, .iconst 1, 1), (112, .aload_n 0, 1), (113, .getfield 183, 3), (116, .invokevirtual 193, 3), (119, .ireturn, 1), (120, .aload_n 0, 1), (121, .getfield 202, 3), (124, .iload_n 3, 1), (125, .iadd, 1), (126, .bipush 64, 2), (128, .if_icmp .le 10, 3), (131, .aload_n 0, 1), (132, .iconst 3, 1), (133, .iload_n 1, 1), (134, .invokevirtual 193, 3), (137, .ireturn, 1), (138, .iconst 0, 1), (139, .istore 4, 2), (141, .iload 4, 2), (143, .iload_n 3, 1), (144, .if_icmp .ge 29, 3), (147, .aload_n 0, 1), (148, .getfield 38, 3), (151, .aload_n 0, 1), (152, .getfield 202, 3), (155, .iload_n 2, 1), (156, .iastore, 1), (157, .aload_n 0, 1), (158, .dup, 1), (159, .getfield 202, 3), (162, .iconst 1, 1), (163, .iadd, 1), (164, .putfield 202, 3), (167, .iinc 4 1, 3), (170, .goto (-29), 3), (173, .iconst 0, 1), (174, .ireturn, 1)]
def qo_147 : List qOp := [(3, 0, 0, 0, .null, []), (0, 0, 0, 0, .int 0, []), (37, 7, 13, 602, .null, []), (3, 0, 0, 0, .null, []), (0, 0, 0, 0, .int 0, []), (37, 7, 17, 606, .null, []), (3, 0, 0, 0, .null, []), (34, 7, 13, 602, .null, []), (3, 0, 0, 0, .null, []), (34, 7, 6, 595, .null, []), (29, 3, 24, 0, .null, []), (3, 0, 0, 0, .null, []), (49, 146, 0, 7, .null, [(0, 872), (0, 874), (0, 40), (0, 53)]), (28, 0, 6, 0, .null, []), (3, 0, 0, 0, .null, []), (3, 0, 0, 0, .null, []), (34, 7, 14, 603, .null, []), (37, 7, 7, 596, .null, []), (3, 0, 0, 0, .null, []), (3, 0, 0, 0, .null, []), (34, 7, 15, 604, .null, []), (37, 7, 8, 597, .null, []), (0, 694, 0, 0, .int (-1000000003), []), (50, 0, 0, 0, .null, []), (3, 0, 0, 0, .null, []), (49, 93, 0, 7, .null, [(0, 663), (0, 665), (0, 19), (0, 53)]), (0, 0, 0, 0, .int 0, []), (4, 1, 0, 0, .null, []), (1, 1, 0, 0, .null, []), (3, 0, 0, 0, .null, []), (34, 7, 17, 606, .null, []), (29, 3, 42, 0, .null, []), (3, 0, 0, 0, .null, []), (36, 7, 0, 589, .null, []), (1, 1, 0, 0, .null, []), (3, 0, 0, 0, .null, []), (36, 7, 16, 605, .null, []), (1, 1, 0, 0, .null, []), (41, 0, 0, 0, .null, []), (45, 0, 0, 0, .null, []), (7, 1, 0, 0, .int 1, []), (32, 0, 28, 0, .null, []), (3, 0, 0, 0, .null, []), (36, 7, 0, 589, .null, []), (0, 0, 0, 0, .int 64, []), (3, 0, 0, 0, .null, []), (34, 7, 17, 606, .null, []), (45, 0, 0, 0, .null, []), (3, 0, 0, 0, .null, []), (34, 7, 17, 606, .null, []), (50, 0, 0, 0, .null, [])]
def qr_147 : List qRow := [(0, .aload_n 0, 1), (1, .iconst 0, 1), (2, .putfield 183, 3), (5, .aload_n 0, 1), (6, .iconst 0, 1), (7, .putfield 202, 3), (10, .aload_n 0, 1), (11, .getfield 183, 3), (14, .aload_n 0, 1), (15, .getfield 125, 3), (18, .if_icmp .ge 29, 3), (21, .aload_n 0, 1), (22, .invokevirtual 205, 3), (25, .ifCond .eq (-15), 3), (28, .aload_n 0, 1), (29, .aload_n 0, 1), (30, .getfield 177, 3), (33, .putfield 23, 3), (36, .aload_n 0, 1), (37, .aload_n 0, 1), (38, .getfield 180, 3), (41, .putfield 27, 3), (44, .ldc 77, 2), (46, .ireturn, 1), (47, .aload_n 0, 1), (48, .invokevirtual 66, 3), (51, .iconst 0, 1), (52, .istore_n 1, 1), (53, .iload_n 1, 1), (54, .aload_n 0, 1), (55, .getfield 202, 3), (58, .if_icmp .ge 21, 3), (61, .aload_n 0, 1), (62, .getfield 7, 3), (65, .iload_n 1, 1), (66, .aload_n 0, 1), (67, .getfield 38, 3), (70, .iload_n 1, 1), (71, .iaload, 1), (72, .iastore, 1), (73, .iinc 1 1, 3), (76, .goto (-23), 3), (79, .aload_n 0, 1), (80, .getfield 7, 3), (83, .bipush 64, 2), (85, .aload_n 0, 1), (86, .getfield 202, 3), (89, .iastore, 1), (90, .aload_n 0, 1), (91, .getfield 202, 3), (94, .ireturn, 1)]
def qo_148 : List qOp := [(1, 1, 0, 0, .null, []), (28, 1, 5, 0, .null, []), (3, 0, 0, 0, .null, []), (34, 7, 7, 596, .null, []), (32, 0, 12, 0, .null, []), (1, 1, 0, 0, .null, []), (0, 0, 0, 0, .int 1, []), (29, 1, 11, 0, .null, []), (3, 0, 0, 0, .null, []), (34, 7, 8, 597, .null, []), (32, 0, 12, 0, .null, []), (0, 657, 0, 0, .int (-1000000002), []), (50, 0, 0, 0, .null, [])]
def qr_148 : List qRow := [(0, .iload_n 1, 1), (1, .ifCond .ne 10, 3), (4, .aload_n 0, 1), (5, .getfield 23, 3), (8, .goto 17, 3), (11, .iload_n 1, 1), (12, .iconst 1, 1), (13, .if_icmp .ne 10, 3), (16, .aload_n 0, 1), (17, .getfield 27, 3), (20, .goto 5, 3), (23, .ldc 64, 2), (25, .ireturn, 1)]
def qo_149 : List qOp := [(1, 0, 0, 0, .null, []), (0, 0, 0, 0, .int 0, []), (0, 0, 0, 0, .int 1, []), (48, 89, 3, 0, .null, [(0, 671), (0, 672), (0, 53)]), (51, 0, 0, 0, .null, [])]
def qr_149 : List qRow := [(0, .iload_n 0, 1), (1, .iconst 0, 1), (2, .iconst 1, 1), (3, .invokestatic 45, 3), (6, .ireturn, 1)]
def qo_150 : List qOp := [(1, 1, 0, 0, .null, []), (48, 149, 1, 0, .null, [(0, 900), (0, 901), (0, 53)]), (28, 1, 5, 0, .null, []), (0, 657, 0, 0, .int (-1000000002), []), (50, 0, 0, 0, .null, []), (0, 0, 0, 0, .int 0, []), (4, 2, 0, 0, .null, []), (1, 2, 0, 0, .null, []), (0, 0, 0, 0, .int 65, []), (29, 3, 24, 0, .null, []), (3, 0, 0, 0, .null, []), (36, 7, 3, 592, .null, []), (0, 0, 0, 0, .int 65, []), (1, 1, 0, 0, .null, []), (10, 0, 0, 0, .null, []), (1, 2, 0, 0, .null, []), (8, 0, 0, 0, .null, []), (3, 0, 0, 0, .null, []), (36, 7, 0, 589, .null, []), (1, 2, 0, 0, .null, []), (41, 0, 0, 0, .null, []), (45, 0, 0, 0, .null, []), (7, 2, 0, 0, .int 1, []), (32, 0, 7, 0, .null, []), (3, 0, 0, 0, .null, []), (55, 0, 0, 0, .null, []), (34, 7, 4, 593, .null, []), (0, 0, 0, 0, .int 1, []), (1, 1, 0, 0, .null, []), (13, 0, 0, 0, .null, []), (12, 0, 0, 0, .null, []), (37, 7, 4, 593, .null, []), (3, 0, 0, 0, .null, []), (49, 90, 0, 7, .null, [(0, 658), (0, 660), (0, 18), (0, 53)]), (50, 0, 0, 0, .null, [])]
def qr_150 : List qRow := [(0, .iload_n 1, 1), (1, .invokestatic 208, 3), (4, .ifCond .ne 6, 3), (7, .ldc 64, 2), (9, .ireturn, 1), (10, .iconst 0, 1), (11, .istore_n 2, 1), (12, .iload_n 2, 1), (13, .bipush 65, 2), (15, .if_icmp .ge 26, 3), (18, .aload_n 0, 1), (19, .getfield 16, 3), (22, .bipush 65, 2), (24, .iload_n 1, 1), (25, .imul, 1), (26, .iload_n 2, 1), (27, .iadd, 1), (28, .aload_n 0, 1), (29, .getfield 7, 3), (32, .iload_n 2, 1), (33, .iaload, 1), (34, .iastore, 1), (35, .iinc 2 1, 3), (38, .goto (-26), 3), (41, .aload_n 0, 1), (42, .dup, 1), (43, .getfield 211, 3), (46, .iconst 1, 1), (47, .iload_n 1, 1), (48, .ishl, 1), (49, .ior, 1), (50, .putfield 211, 3), (53, .aload_n 0, 1), (54, .invokevirtual 41, 3), (57, .ireturn, 1)]
def qo_151 : List qOp := [(1, 1, 0, 0, .null, []), (48, 149, 1, 0, .null, [(0, 900), (0, 901), (0, 53)]), (28, 1, 5, 0, .null, []), (0, 657, 0, 0, .int (-1000000002), []), (50, 0, 0, 0, .null, []), (3, 0, 0, 0, .null, []), (34, 7, 4, 593, .null, []), (1, 1, 0, 0, .null, []), (14, 0, 0, 0, .null, []), (0, 0, 0, 0, .int 1, []), (11, 0, 0, 0, .null, []), (28, 1, 14, 0, .null, []), (0, 694, 0, 0, .int (-1000000003), []), (50, 0, 0, 0, .null, []), (3, 0, 0, 0, .null, []), (49, 93, 0, 7, .null, [(0, 663), (0, 665), (0, 19), (0, 53)]), (0, 0, 0, 0, .int 0, []), (4, 2, 0, 0, .null, []), (1, 2, 0, 0, .null, []), (0, 0, 0, 0, .int 65, []), (29, 3, 35, 0, .null, []), (3, 0, 0, 0, .null, []), (36, 7, 0, 589, .null, []), (1, 2, 0, 0, .null, []), (3, 0, 0, 0, .null, []), (36, 7, 3, 592, .null, []), (0, 0, 0, 0, .int 65, []), (1, 1, 0, 0, .null, []), (10, 0, 0, 0, .null, []), (1, 2, 0, 0, .null, []), (8, 0, 0, 0, .null, []), (41, 0, 0, 0, .null, []), (45, 0, 0, 0, .null, []), (7, 2, 0, 0, .int 1, []), (32, 0, 18, 0, .null, []), (3, 0, 0, 0, .null, []), (49, 90, 0, 7, .null, [(0, 658), (0, 660), (0, 18), (0, 53)]), (50, 0, 0, 0, .null, [])]
def qr_151 : List qRow := [(0, .iload_n 1, 1), (1, .invokestatic 208, 3), (4, .ifCond .ne 6, 3), (7, .ldc 64, 2), (9, .ireturn, 1), (10, .aload_n 0, 1), (11, .getfield 211, 3), (14, .iload_n 1, 1), (15, .ishr, 1), (16, .iconst 1, 1), (17, .iand, 1), (18, .ifCond .ne 6, 3), (21, .ldc 77, 2), (23, .ireturn, 1), (24, .aload_n 0, 1), (25, .invokevirtual 66, 3), (28, .iconst 0, 1), (29, .istore_n 2, 1), (30, .iload_n 2, 1), (31, .bipush 65, 2), (33, .if_icmp .ge 26, 3), (36, .aload_n 0, 1), (37, .getfield 7, 3), (40, .iload_n 2, 1), (41, .aload_n 0, 1), (42, .getfield 16, 3), (45, .bipush 65, 2), (47, .iload_n 1, 1), (48, .imul, 1), (49, .iload_n 2, 1), (50, .iadd, 1), (51, .iaload, 1), (52, .iastore, 1), (53, .iinc 2 1, 3), (56, .goto (-26), 3), (59, .aload_n 0, 1), (60, .invokevirtual 41, 3), (63, .ireturn, 1)]
def qo_152 : List qOp := [(2, 0, 0, 0, .null, []), (2, 2, 0, 0, .null, []), (25, 0, 0, 0, .null, []), (28, 3, 6, 0, .null, []), (0, 0, 0, 0, .int (-1), []), (32, 0, 13, 0, .null, []), (2, 0, 0, 0, .null, []), (2, 2, 0, 0, .null, []), (25, 0, 0, 0, .null, []), (28, 1, 12, 0, .null, []), (0, 0, 0, 0, .int 0, []), (32, 0, 13, 0, .null, []), (0, 0, 0, 0, .int 1, []), (50, 0, 0, 0, .null, [])]
def qr_152 : List qRow := [(0, .lload_n 0, 1), (1, .lload_n 2, 1), (2, .lcmp, 1), (3, .ifCond .ge 7, 3), (6, .iconst (-1), 1), (7, .goto 14, 3), (10, .lload_n 0, 1), (11, .lload_n 2, 1), (12, .lcmp, 1), (13, .ifCond .ne 7, 3), (16, .iconst 0, 1), (17, .goto 4, 3), (20, .iconst 1, 1), (21, .ireturn, 1)]
def qo_153 : List qOp := [(2, 0, 0, 0, .null, []), (2, 2, 0, 0, .null, []), (21, 0, 0, 0, .null, []), (5, 4, 0, 0, .null, []), (2, 0, 0, 0, .null, []), (2, 2, 0, 0, .null, []), (57, 0, 0, 0, .null, []), (0, 0, 0, 0, .long 0, []), (25, 0, 0, 0, .null, []), (28, 3, 20, 0, .null, []), (2, 4, 0, 0, .null, []), (2, 2, 0, 0, .null, []), (20, 0, 0, 0, .null, []), (2, 0, 0, 0, .null, []), (25, 0, 0, 0, .null, []), (28, 0, 20, 0, .null, []), (2, 4, 0, 0, .null, []), (0, 0, 0, 0, .long 1, []), (19, 0, 0, 0, .null, []), (52, 0, 0, 0, .null, []), (2, 4, 0, 0, .null, []), (52, 0, 0, 0, .null, [])]
def qr_153 : List qRow := [(0, .lload_n 0, 1), (1, .lload_n 2, 1), (2, .ldiv, 1), (3, .lstore 4, 2), (5, .lload_n 0, 1), (6, .lload_n 2, 1), (7, .lxor, 1), (8, .lconst 0, 1), (9, .lcmp, 1), (10, .ifCond .ge 17, 3), (13, .lload 4, 2), (15, .lload_n 2, 1), (16, .lmul, 1), (17, .lload_n 0, 1), (18, .lcmp, 1), (19, .ifCond .eq 8, 3), (22, .lload 4, 2), (24, .lconst 1, 1), (25, .lsub, 1), (26, .lreturn, 1), (27, .lload 4, 2), (29, .lreturn, 1)]
def qo_154 : List qOp := [(1, 0, 0, 0, .null, []), (1, 1, 0, 0, .null, []), (29, 2, 5, 0, .null, []), (1, 0, 0, 0, .null, []), (32, 0, 6, 0, .null, []), (1, 1, 0, 0, .null, []), (50, 0, 0, 0, .null, [])]
def qr_154 : List qRow := [(0, .iload_n 0, 1), (1, .iload_n 1, 1), (2, .if_icmp .lt 7, 3), (5, .iload_n 0, 1), (6, .goto 4, 3), (9, .iload_n 1, 1), (10, .ireturn, 1)]
def qo_155 : List qOp := [(99, 0, 0, 0, .null, []), (55, 0, 0, 0, .null, []), (99, 0, 0, 0, .null, []), (6, 1, 0, 0, .null, []), (99, 0, 0, 0, .null, []), (55, 0, 0, 0, .null, []), (99, 0, 0, 0, .null, []), (6, 2, 0, 0, .null, []), (0, 0, 0, 0, .int 0, []), (4, 3, 0, 0, .null, []), (1, 3, 0, 0, .null, []), (3, 0, 0, 0, .null, []), (59, 0, 0, 0, .null, []), (0, 0, 0, 0, .int 4, []), (9, 0, 0, 0, .null, []), (29, 4, 572, 0, .null, []), (3, 0, 0, 0, .null, []), (1, 3, 0, 0, .null, []), (58, 0, 0, 0, .null, []), (0, 0, 0, 0, .int 31, []), (11, 0, 0, 0, .null, []), (33, 0, 570, 0, .null, [(0, 22), (1, 39), (2, 56), (3, 83), (4, 90), (5, 117), (6, 144), (7, 151), (8, 168), (9, 185), (10, 212), (11, 219), (12, 236), (13, 253), (14, 290), (15, 317), (16, 355), (17, 383), (18, 420), (19, 437), (20, 454), (21, 471), (22, 488), (23, 505), (24, 512), (25, 519), (26, 536), (27, 553)]), (3, 1, 0, 0, .null, []), (3, 0, 0, 0, .null, []), (1, 3, 0, 0, .null, []), (0, 0, 0, 0, .int 1, []), (8, 0, 0, 0, .null, []), (58, 0, 0, 0, .null, []), (49, 44, 1, 6, .null, [(0, 197), (0, 198), (0, 199), (0, 46)]), (3, 2, 0, 0, .null, []), (3, 0, 0, 0, .null, []), (1, 3, 0, 0, .null, []), (0, 0, 0, 0, .int 1, []), (8, 0, 0, 0, .null, []), (58, 0, 0, 0, .null, []), (49, 96, 1, 7, .null, [(0, 648), (0, 649), (0, 650), (0, 53)]), (29, 0, 570, 0, .null, []), (0, 0, 0, 0, .int 0, []), (51, 0, 0, 0, .null, []), (3, 1, 0, 0, .null, []), (3, 0, 0, 0, .null, []), (1, 3, 0, 0, .null, []), (0, 0, 0, 0, .int 1, []), (8, 0, 0, 0, .null, []), (58, 0, 0, 0, .null, []), (49, 45, 1, 6, .null, [(0, 239), (0, 240), (0, 241), (0, 46)]), (3, 2, 0, 0, .null, []), (3, 0, 0, 0, .null, []), (1, 3, 0, 0, .null, []), (0, 0, 0, 0, .int 1, []), (8, 0, 0, 0, .null, []), (58, 0, 0, 0, .null, []), (49, 97, 1, 7, .null, [(0, 667), (0, 668), (0, 669), (0, 53)]), (29, 0, 570, 0, .null, []), (0, 0, 0, 0, .int 0, []), (51, 0, 0, 0, .null, []), (3, 1, 0, 0, .null, []), (3, 0, 0, 0, .null, []), (1, 3, 0, 0, .null, []), (0, 0, 0, 0, .int 1, []), (8, 0, 0, 0, .null, []), (58, 0, 0, 0, .null, []), (3, 0, 0, 0, .null, []), (1, 3, 0, 0, .null, []), (0, 0, 0, 0, .int 2, []), (8, 0, 0, 0, .null, []), (58, 0, 0, 0, .null, []), (49, 46, 2, 6, .null, [(0, 248), (0, 249), (0, 250), (0, 46)]), (3, 2, 0, 0, .null, []), (3, 0, 0, 0, .null, []), (1, 3, 0, 0, .null, []), (0, 0, 0, 0, .int 1, []), (8, 0, 0, 0, .null, []), (58, 0, 0, 0, .null, []), (3, 0, 0, 0, .null, []), (1, 3, 0, 0, .null, []), (0, 0, 0, 0, .int 2, []), (8, 0, 0, 0, .null, []), (58, 0, 0, 0, .null, []), (49, 98, 2, 7, .null, [(0, 674), (0, 675), (0, 676), (0, 53)]), (29, 0, 570, 0, .null, []), (0, 0, 0, 0, .int 0, []), (51, 0, 0, 0, .null, []), (3, 1, 0, 0, .null, []), (49, 47, 0, 6, .null, [(0, 261), (0, 262), (0, 263), (0, 46)]), (3, 2, 0, 0, .null, []), (49, 99, 0, 7, .null, [(0, 682), (0, 683), (0, 684), (0, 53)]), (29, 0, 570, 0, .null, []), (0, 0, 0, 0, .int 0, []), (51, 0, 0, 0, .null, []), (3, 1, 0, 0, .null, []), (3, 0, 0, 0, .null, []), (1, 3, 0, 0, .null, []), (0, 0, 0, 0, .int 1, []), (8, 0, 0, 0, .null, []), (58, 0, 0, 0, .null, []), (3, 0, 0, 0, .null, []), (1, 3, 0, 0, .null, []), (0, 0, 0, 0, .int 2, []), (8, 0, 0, 0, .null, []), (58, 0, 0, 0, .null, []), (49, 48, 2, 6, .null, [(0, 266), (0, 267), (0, 268), (0, 46)]), (3, 2, 0, 0, .null, []), (3, 0, 0, 0, .null, []), (1, 3, 0, 0, .null, []), (0, 0, 0, 0, .int 1, []), (8, 0, 0, 0, .null, []), (58, 0, 0, 0, .null, []), (3, 0, 0, 0, .null, []), (1, 3, 0, 0, .null, []), (0, 0, 0, 0, .int 2, []), (8, 0, 0, 0, .null, []), (58, 0, 0, 0, .null, []), (49, 102, 2, 7, .null, [(0, 686), (0, 687), (0, 688), (0, 53)]), (29, 0, 570, 0, .null, []), (0, 0, 0, 0, .int 0, []), (51, 0, 0, 0, .null, []), (3, 1, 0, 0, .null, []), (3, 0, 0, 0, .null, []), (1, 3, 0, 0, .null, []), (0, 0, 0, 0, .int 1, []), (8, 0, 0, 0, .null, []), (58, 0, 0, 0, .null, []), (3, 0, 0, 0, .null, []), (1, 3, 0, 0, .null, []), (0, 0, 0, 0, .int 2, []), (8, 0, 0, 0, .null, []), (58, 0, 0, 0, .null, []), (49, 49, 2, 6, .null, [(0, 292), (0, 293), (0, 294), (0, 46)]), (3, 2, 0, 0, .null, []), (3, 0, 0, 0, .null, []), (1, 3, 0, 0, .null, []), (0, 0, 0, 0, .int 1, []), (8, 0, 0, 0, .null, []), (58, 0, 0, 0, .null, []), (3, 0, 0, 0, .null, []), (1, 3, 0, 0, .null, []), (0, 0, 0, 0, .int 2, []), (8, 0, 0, 0, .null, []), (58, 0, 0, 0, .null, []), (49, 103, 2, 7, .null, [(0, 707), (0, 708), (0, 709), (0, 53)]), (29, 0, 570, 0, .null, []), (0, 0, 0, 0, .int 0, []), (51, 0, 0, 0, .null, []), (3, 1, 0, 0, .null, []), (49, 50, 0, 6, .null, [(0, 296), (0, 297), (0, 298), (0, 46)]), (3, 2, 0, 0, .null, []), (49, 104, 0, 7, .null, [(0, 713), (0, 714), (0, 715), (0, 53)]), (29, 0, 570, 0, .null, []), (0, 0, 0, 0, .int 0, []), (51, 0, 0, 0, .null, []), (3, 1, 0, 0, .null, []), (3, 0, 0, 0, .null, []), (1, 3, 0, 0, .null, []), (0, 0, 0, 0, .int 1, []), (8, 0, 0, 0, .null, []), (58, 0, 0, 0, .null, []), (49, 51, 1, 6, .null, [(0, 328), (0, 329), (0, 330), (0, 46)]), (3, 2, 0, 0, .null, []), (3, 0, 0, 0, .null, []), (1, 3, 0, 0, .null, []), (0, 0, 0, 0, .int 1, []), (8, 0, 0, 0, .null, []), (58, 0, 0, 0, .null, []), (49, 107, 1, 7, .null, [(0, 737), (0, 738), (0, 739), (0, 53)]), (29, 0, 570, 0, .null, []), (0, 0, 0, 0, .int 0, []), (51, 0, 0, 0, .null, []), (3, 1, 0, 0, .null, []), (3, 0, 0, 0, .null, []), (1, 3, 0, 0, .null, []), (0, 0, 0, 0, .int 1, []), (8, 0, 0, 0, .null, []), (58, 0, 0, 0, .null, []), (49, 52, 1, 6, .null, [(0, 341), (0, 342), (0, 343), (0, 46)]), (3, 2, 0, 0, .null, []), (3, 0, 0, 0, .null, []), (1, 3, 0, 0, .null, []), (0, 0, 0, 0, .int 1, []), (8, 0, 0, 0, .null, []), (58, 0, 0, 0, .null, []), (49, 110, 1, 7, .null, [(0, 749), (0, 750), (0, 751), (0, 53)]), (29, 0, 570, 0, .null, []), (0, 0, 0, 0, .int 0, []), (51, 0, 0, 0, .null, []), (3, 1, 0, 0, .null, []), (3, 0, 0, 0, .null, []), (1, 3, 0, 0, .null, []), (0, 0, 0, 0, .int 1, []), (8, 0, 0, 0, .null, []), (58, 0, 0, 0, .null, []), (3, 0, 0, 0, .null, []), (1, 3, 0, 0, .null, []), (0, 0, 0, 0, .int 2, []), (8, 0, 0, 0, .null, []), (58, 0, 0, 0, .null, []), (49, 53, 2, 6, .null, [(0, 353), (0, 354), (0, 355), (0, 46)]), (3, 2, 0, 0, .null, []), (3, 0, 0, 0, .null, []), (1, 3, 0, 0, .null, []), (0, 0, 0, 0, .int 1, []), (8, 0, 0, 0, .null, []), (58, 0, 0, 0, .null, []), (3, 0, 0, 0, .null, []), (1, 3, 0, 0, .null, []), (0, 0, 0, 0, .int 2, []), (8, 0, 0, 0, .null, []), (58, 0, 0, 0, .null, []), (49, 111, 2, 7, .null, [(0, 761), (0, 762), (0, 763), (0, 53)]), (29, 0, 570, 0, .null, []), (0, 0, 0, 0, .int 0, []), (51, 0, 0, 0, .null, []), (3, 1, 0, 0, .null, []), (49, 54, 0, 6, .null, [(0, 357), (0, 358), (0, 359), (0, 46)]), (3, 2, 0, 0, .null, []), (49, 112, 0, 7, .null, [(0, 765), (0, 766), (0, 767), (0, 53)]), (29, 0, 570, 0, .null, []), (0, 0, 0, 0, .int 0, []), (51, 0, 0, 0, .null, []), (3, 1, 0, 0, .null, []), (3, 0, 0, 0, .null, []), (1, 3, 0, 0, .null, []), (0, 0, 0, 0, .int 1, []), (8, 0, 0, 0, .null, []), (58, 0, 0, 0, .null, []), (49, 55, 1, 6, .null, [(0, 369), (0, 370), (0, 371), (0, 46)]), (3, 2, 0, 0, .null, []), (3, 0, 0, 0, .null, []), (1, 3, 0, 0, .null, []), (0, 0, 0, 0, .int 1, []), (8, 0, 0, 0, .null, []), (58, 0, 0, 0, .null, []), (49, 117, 1, 7, .null, [(0, 769), (0, 770), (0, 771), (0, 53)]), (29, 0, 570, 0, .null, []), (0, 0, 0, 0, .int 0, []), (51, 0, 0, 0, .null, []), (3, 1, 0, 0, .null, []), (3, 0, 0, 0, .null, []), (1, 3, 0, 0, .null, []), (0, 0, 0, 0, .int 1, []), (8, 0, 0, 0, .null, []), (58, 0, 0, 0, .null, []), (49, 56, 1, 6, .null, [(0, 409), (0, 410), (0, 411), (0, 46)]), (3, 2, 0, 0, .null, []), (3, 0, 0, 0, .null, []), (1, 3, 0, 0, .null, []), (0, 0, 0, 0, .int 1, []), (8, 0, 0, 0, .null, []), (58, 0, 0, 0, .null, []), (49, 118, 1, 7, .null, [(0, 789), (0, 790), (0, 791), (0, 53)]), (29, 0, 570, 0, .null, []), (0, 0, 0, 0, .int 0, []), (51, 0, 0, 0, .null, []), (3, 1, 0, 0, .null, []), (3, 0, 0, 0, .null, []), (1, 3, 0, 0, .null, []), (0, 0, 0, 0, .int 1, []), (8, 0, 0, 0, .null, []), (58, 0, 0, 0, .null, []), (3, 0, 0, 0, .null, []), (1, 3, 0, 0, .null, []), (0, 0, 0, 0, .int 2, []), (8, 0, 0, 0, .null, []), (58, 0, 0, 0, .null, []), (3, 0, 0, 0, .null, []), (1, 3, 0, 0, .null, []), (0, 0, 0, 0, .int 3, []), (8, 0, 0, 0, .null, []), (58, 0, 0, 0, .null, []), (49, 57, 3, 6, .null, [(0, 413), (0, 414), (0, 415), (0, 46)]), (3, 2, 0, 0, .null, []), (3, 0, 0, 0, .null, []), (1, 3, 0, 0, .null, []), (0, 0, 0, 0, .int 1, []), (8, 0, 0, 0, .null, []), (58, 0, 0, 0, .null, []), (3, 0, 0, 0, .null, []), (1, 3, 0, 0, .null, []), (0, 0, 0, 0, .int 2, []), (8, 0, 0, 0, .null, []), (58, 0, 0, 0, .null, []), (3, 0, 0, 0, .null, []), (1, 3, 0, 0, .null, []), (0, 0, 0, 0, .int 3, []), (8, 0, 0, 0, .null, []), (58, 0, 0, 0, .null, []), (49, 124, 3, 7, .null, [(0, 793), (0, 794), (0, 795), (0, 53)]), (29, 0, 570, 0, .null, []), (0, 0, 0, 0, .int 0, []), (51, 0, 0, 0, .null, []), (3, 1, 0, 0, .null, []), (3, 0, 0, 0, .null, []), (1, 3, 0, 0, .null, []), (0, 0, 0, 0, .int 1, []), (8, 0, 0, 0, .null, []), (58, 0, 0, 0, .null, []), (3, 0, 0, 0, .null, []), (1, 3, 0, 0, .null, []), (0, 0, 0, 0, .int 2, []), (8, 0, 0, 0, .null, []), (58, 0, 0, 0, .null, []), (49, 58, 2, 6, .null, [(0, 423), (0, 424), (0, 425), (0, 46)]), (3, 2, 0, 0, .null, []), (3, 0, 0, 0, .null, []), (1, 3, 0, 0, .null, []), (0, 0, 0, 0, .int 1, []), (8, 0, 0, 0, .null, []), (58, 0, 0, 0, .null, []), (3, 0, 0, 0, .null, []), (1, 3, 0, 0, .null, []), (0, 0, 0, 0, .int 2, []), (8, 0, 0, 0, .null, []), (58, 0, 0, 0, .null, []), (49, 126, 2, 7, .null, [(0, 800), (0, 801), (0, 802), (0, 53)]), (29, 0, 570, 0, .null, []), (0, 0, 0, 0, .int 0, []), (51, 0, 0, 0, .null, []), (3, 1, 0, 0, .null, []), (3, 0, 0, 0, .null, []), (1, 3, 0, 0, .null, []), (0, 0, 0, 0, .int 1, []), (8, 0, 0, 0, .null, []), (58, 0, 0, 0, .null, []), (3, 0, 0, 0, .null, []), (1, 3, 0, 0, .null, []), (0, 0, 0, 0, .int 2, []), (8, 0, 0, 0, .null, []), (58, 0, 0, 0, .null, []), (3, 0, 0, 0, .null, []), (1, 3, 0, 0, .null, []), (0, 0, 0, 0, .int 3, []), (8, 0, 0, 0, .null, []), (58, 0, 0, 0, .null, []), (49, 59, 3, 6, .null, [(0, 427), (0, 428), (0, 429), (0, 46)]), (3, 2, 0, 0, .null, []), (3, 0, 0, 0, .null, []), (1, 3, 0, 0, .null, []), (0, 0, 0, 0, .int 1, []), (8, 0, 0, 0, .null, []), (58, 0, 0, 0, .null, []), (3, 0, 0, 0, .null, []), (1, 3, 0, 0, .null, []), (0, 0, 0, 0, .int 2, []), (8, 0, 0, 0, .null, []), (58, 0, 0, 0, .null, []), (3, 0, 0, 0, .null, []), (1, 3, 0, 0, .null, []), (0, 0, 0, 0, .int 3, []), (8, 0, 0, 0, .null, []), (58, 0, 0, 0, .null, []), (49, 130, 3, 7, .null, [(0, 804), (0, 805), (0, 806), (0, 53)]), (25, 0, 0, 0, .null, []), (28, 0, 570, 0, .null, []), (0, 0, 0, 0, .int 0, []), (51, 0, 0, 0, .null, []), (3, 1, 0, 0, .null, []), (3, 0, 0, 0, .null, []), (1, 3, 0, 0, .null, []), (0, 0, 0, 0, .int 1, []), (8, 0, 0, 0, .null, []), (58, 0, 0, 0, .null, []), (3, 0, 0, 0, .null, []), (1, 3, 0, 0, .null, []), (0, 0, 0, 0, .int 2, []), (8, 0, 0, 0, .null, []), (58, 0, 0, 0, .null, []), (49, 60, 2, 6, .null, [(0, 458), (0, 459), (0, 460), (0, 46)]), (3, 2, 0, 0, .null, []), (3, 0, 0, 0, .null, []), (1, 3, 0, 0, .null, []), (0, 0, 0, 0, .int 1, []), (8, 0, 0, 0, .null, []), (58, 0, 0, 0, .null, []), (3, 0, 0, 0, .null, []), (1, 3, 0, 0, .null, []), (0, 0, 0, 0, .int 2, []), (8, 0, 0, 0, .null, []), (58, 0, 0, 0, .null, []), (49, 131, 2, 7, .null, [(0, 822), (0, 823), (0, 824), (0, 53)]), (25, 0, 0, 0, .null, []), (28, 0, 570, 0, .null, []), (0, 0, 0, 0, .int 0, []), (51, 0, 0, 0, .null, []), (3, 1, 0, 0, .null, []), (3, 0, 0, 0, .null, []), (1, 3, 0, 0, .null, []), (0, 0, 0, 0, .int 1, []), (8, 0, 0, 0, .null, []), (58, 0, 0, 0, .null, []), (3, 0, 0, 0, .null, []), (1, 3, 0, 0, .null, []), (0, 0, 0, 0, .int 2, []), (8, 0, 0, 0, .null, []), (58, 0, 0, 0, .null, []), (3, 0, 0, 0, .null, []), (1, 3, 0, 0, .null, []), (0, 0, 0, 0, .int 3, []), (8, 0, 0, 0, .null, []), (58, 0, 0, 0, .null, []), (49, 61, 3, 6, .null, [(0, 471), (0, 472), (0, 473), (0, 46)]), (3, 2, 0, 0, .null, []), (3, 0, 0, 0, .null, []), (1, 3, 0, 0, .null, []), (0, 0, 0, 0, .int 1, []), (8, 0, 0, 0, .null, []), (58, 0, 0, 0, .null, []), (3, 0, 0, 0, .null, []), (1, 3, 0, 0, .null, []), (0, 0, 0, 0, .int 2, []), (8, 0, 0, 0, .null, []), (58, 0, 0, 0, .null, []), (3, 0, 0, 0, .null, []), (1, 3, 0, 0, .null, []), (0, 0, 0, 0, .int 3, []), (8, 0, 0, 0, .null, []), (58, 0, 0, 0, .null, []), (49, 134, 3, 7, .null, [(0, 828), (0, 829), (0, 830), (0, 53)]), (29, 0, 570, 0, .null, []), (0, 0, 0, 0, .int 0, []), (51, 0, 0, 0, .null, []), (3, 1, 0, 0, .null, []), (3, 0, 0, 0, .null, []), (1, 3, 0, 0, .null, []), (0, 0, 0, 0, .int 1, []), (8, 0, 0, 0, .null, []), (58, 0, 0, 0, .null, []), (49, 62, 1, 6, .null, [(0, 482), (0, 483), (0, 484), (0, 46)]), (3, 2, 0, 0, .null, []), (3, 0, 0, 0, .null, []), (1, 3, 0, 0, .null, []), (0, 0, 0, 0, .int 1, []), (8, 0, 0, 0, .null, []), (58, 0, 0, 0, .null, []), (49, 135, 1, 7, .null, [(0, 839), (0, 840), (0, 841), (0, 53)]), (29, 0, 570, 0, .null, []), (0, 0, 0, 0, .int 0, []), (51, 0, 0, 0, .null, []), (3, 1, 0, 0, .null, []), (3, 0, 0, 0, .null, []), (1, 3, 0, 0, .null, []), (0, 0, 0, 0, .int 1, []), (8, 0, 0, 0, .null, []), (58, 0, 0, 0, .null, []), (49, 63, 1, 6, .null, [(0, 490), (0, 491), (0, 492), (0, 46)]), (3, 2, 0, 0, .null, []), (3, 0, 0, 0, .null, []), (1, 3, 0, 0, .null, []), (0, 0, 0, 0, .int 1, []), (8, 0, 0, 0, .null, []), (58, 0, 0, 0, .null, []), (49, 137, 1, 7, .null, [(0, 843), (0, 844), (0, 845), (0, 53)]), (29, 0, 570, 0, .null, []), (0, 0, 0, 0, .int 0, []), (51, 0, 0, 0, .null, []), (3, 1, 0, 0, .null, []), (3, 0, 0, 0, .null, []), (1, 3, 0, 0, .null, []), (0, 0, 0, 0, .int 1, []), (8, 0, 0, 0, .null, []), (58, 0, 0, 0, .null, []), (49, 64, 1, 6, .null, [(0, 499), (0, 500), (0, 501), (0, 46)]), (3, 2, 0, 0, .null, []), (3, 0, 0, 0, .null, []), (1, 3, 0, 0, .null, []), (0, 0, 0, 0, .int 1, []), (8, 0, 0, 0, .null, []), (58, 0, 0, 0, .null, []), (49, 138, 1, 7, .null, [(0, 852), (0, 853), (0, 854), (0, 53)]), (29, 0, 570, 0, .null, []), (0, 0, 0, 0, .int 0, []), (51, 0, 0, 0, .null, []), (3, 1, 0, 0, .null, []), (3, 0, 0, 0, .null, []), (1, 3, 0, 0, .null, []), (0, 0, 0, 0, .int 1, []), (8, 0, 0, 0, .null, []), (58, 0, 0, 0, .null, []), (49, 65, 1, 6, .null, [(0, 507), (0, 508), (0, 509), (0, 46)]), (3, 2, 0, 0, .null, []), (3, 0, 0, 0, .null, []), (1, 3, 0, 0, .null, []), (0, 0, 0, 0, .int 1, []), (8, 0, 0, 0, .null, []), (58, 0, 0, 0, .null, []), (49, 139, 1, 7, .null, [(0, 856), (0, 857), (0, 858), (0, 53)]), (29, 0, 570, 0, .null, []), (0, 0, 0, 0, .int 0, []), (51, 0, 0, 0, .null, []), (3, 1, 0, 0, .null, []), (3, 0, 0, 0, .null, []), (1, 3, 0, 0, .null, []), (0, 0, 0, 0, .int 1, []), (8, 0, 0, 0, .null, []), (58, 0, 0, 0, .null, []), (49, 66, 1, 6, .null, [(0, 511), (0, 512), (0, 513), (0, 46)]), (3, 2, 0, 0, .null, []), (3, 0, 0, 0, .null, []), (1, 3, 0, 0, .null, []), (0, 0, 0, 0, .int 1, []), (8, 0, 0, 0, .null, []), (58, 0, 0, 0, .null, []), (49, 140, 1, 7, .null, [(0, 860), (0, 861), (0, 862), (0, 53)]), (29, 0, 570, 0, .null, []), (0, 0, 0, 0, .int 0, []), (51, 0, 0, 0, .null, []), (3, 1, 0, 0, .null, []), (49, 67, 0, 6, .null, [(0, 519), (0, 520), (0, 521), (0, 46)]), (3, 2, 0, 0, .null, []), (49, 141, 0, 7, .null, [(0, 864), (0, 865), (0, 866), (0, 53)]), (29, 0, 570, 0, .null, []), (0, 0, 0, 0, .int 0, []), (51, 0, 0, 0, .null, []), (3, 1, 0, 0, .null, []), (49, 68, 0, 6, .null, [(0, 527), (0, 528), (0, 529), (0, 46)]), (3, 2, 0, 0, .null, []), (49, 147, 0, 7, .null, [(0, 868), (0, 869), (0, 870), (0, 53)]), (29, 0, 570, 0, .null, []), (0, 0, 0, 0, .int 0, []), (51, 0, 0, 0, .null, []), (3, 1, 0, 0, .null, []), (3, 0, 0, 0, .null, []), (1, 3, 0, 0, .null, []), (0, 0, 0, 0, .int 1, []), (8, 0, 0, 0, .null, []), (58, 0, 0, 0, .null, []), (49, 69, 1, 6, .null, [(0, 566), (0, 567), (0, 568), (0, 46)]), (3, 2, 0, 0, .null, []), (3, 0, 0, 0, .null, []), (1, 3, 0, 0, .null, []), (0, 0, 0, 0, .int 1, []), (8, 0, 0, 0, .null, []), (58, 0, 0, 0, .null, []), (49, 148, 1, 7, .null, [(0, 892), (0, 893), (0, 894), (0, 53)]), (29, 0, 570, 0, .null, []), (0, 0, 0, 0, .int 0, []), (51, 0, 0, 0, .null, []), (3, 1, 0, 0, .null, []), (3, 0, 0, 0, .null, []), (1, 3, 0, 0, .null, []), (0, 0, 0, 0, .int 1, []), (8, 0, 0, 0, .null, []), (58, 0, 0, 0, .null, []), (49, 70, 1, 6, .null, [(0, 570), (0, 571), (0, 572), (0, 46)]), (3, 2, 0, 0, .null, []), (3, 0, 0, 0, .null, []), (1, 3, 0, 0, .null, []), (0, 0, 0, 0, .int 1, []), (8, 0, 0, 0, .null, []), (58, 0, 0, 0, .null, []), (49, 150, 1, 7, .null, [(0, 896), (0, 897), (0, 898), (0, 53)]), (29, 0, 570, 0, .null, []), (0, 0, 0, 0, .int 0, []), (51, 0, 0, 0, .null, []), (3, 1, 0, 0, .null, []), (3, 0, 0, 0, .null, []), (1, 3, 0, 0, .null, []), (0, 0, 0, 0, .int 1, []), (8, 0, 0, 0, .null, []), (58, 0, 0, 0, .null, []), (49, 71, 1, 6, .null, [(0, 578), (0, 579), (0, 580), (0, 46)]), (3, 2, 0, 0, .null, []), (3, 0, 0, 0, .null, []), (1, 3, 0, 0, .null, []), (0, 0, 0, 0, .int 1, []), (8, 0, 0, 0, .null, []), (58, 0, 0, 0, .null, []), (49, 151, 1, 7, .null, [(0, 903), (0, 904), (0, 905), (0, 53)]), (29, 0, 570, 0, .null, []), (0, 0, 0, 0, .int 0, []), (51, 0, 0, 0, .null, []), (7, 3, 0, 0, .int 4, []), (32, 0, 10, 0, .null, []), (0, 0, 0, 0, .int 1, []), (51, 0, 0, 0, .null, [])]
def qr_155 : List qRow := [(0, .new 7, 3), (3, .dup, 1), (4, .invokespecial 9, 3), (7, .astore_n 1, 1), (8, .new 10, 3), (11, .dup, 1), (12, .invokespecial 12, 3), (15, .astore_n 2, 1), (16, .iconst 0, 1), (17, .istore_n 3, 1), (18, .iload_n 3, 1), (19, .aload_n 0, 1), (20, .arraylength, 1), (21, .iconst 4, 1), (22, .isub, 1), (23, .if_icmp .gt 859, 3), (26, .aload_n 0, 1), (27, .iload_n 3, 1), (28, .iaload, 1), (29, .bipush 31, 2), (31, .iand, 1), (32, .tableswitch 844 0 27 #[128, 151, 174, 207, 220, 253, 286, 299, 322, 345, 378, 391, 414, 437, 480, 513, 557, 591, 634, 657, 680, 703, 726, 749, 762, 775, 798, 821], 128), (160, .aload_n 1, 1), (161, .aload_n 0, 1), (162, .iload_n 3, 1), (163, .iconst 1, 1), (164, .iadd, 1), (165, .iaload, 1), (166, .invokevirtual 13, 3), (169, .aload_n 2, 1), (170, .aload_n 0, 1), (171, .iload_n 3, 1), (172, .iconst 1, 1), (173, .iadd, 1), (174, .iaload, 1), (175, .invokevirtual 17, 3), (178, .if_icmp .eq 698, 3), (181, .iconst 0, 1), (182, .ireturn, 1), (183, .aload_n 1, 1), (184, .aload_n 0, 1), (185, .iload_n 3, 1), (186, .iconst 1, 1), (187, .iadd, 1), (188, .iaload, 1), (189, .invokevirtual 18, 3), (192, .aload_n 2, 1), (193, .aload_n 0, 1), (194, .iload_n 3, 1), (195, .iconst 1, 1), (196, .iadd, 1), (197, .iaload, 1), (198, .invokevirtual 21, 3), (201, .if_icmp .eq 675, 3), (204, .iconst 0, 1), (205, .ireturn, 1), (206, .aload_n 1, 1), (207, .aload_n 0, 1), (208, .iload_n 3, 1), (209, .iconst 1, 1), (210, .iadd, 1), (211, .iaload, 1), (212, .aload_n 0, 1), (213, .iload_n 3, 1), (214, .iconst 2, 1), (215, .iadd, 1), (216, .iaload, 1), (217, .invokevirtual 22, 3), (220, .aload_n 2, 1), (221, .aload_n 0, 1), (222, .iload_n 3, 1), (223, .iconst 1, 1), (224, .iadd, 1), (225, .iaload, 1), (226, .aload_n 0, 1), (227, .iload_n 3, 1), (228, .iconst 2, 1), (229, .iadd, 1), (230, .iaload, 1), (231, .invokevirtual 26, 3), (234, .if_icmp .eq 642, 3), (237, .iconst 0, 1), (238, .ireturn, 1), (239, .aload_n 1, 1), (240, .invokevirtual 27, 3), (243, .aload_n 2, 1), (244, .invokevirtual 31, 3), (247, .if_icmp .eq 629, 3), (250, .iconst 0, 1), (251, .ireturn, 1), (252, .aload_n 1, 1), (253, .aload_n 0, 1), (254, .iload_n 3, 1), (255, .iconst 1, 1), (256, .iadd, 1), (257, .iaload, 1), (258, .aload_n 0, 1), (259, .iload_n 3, 1), (260, .iconst 2, 1), (261, .iadd, 1), (262, .iaload, 1), (263, .invokevirtual 32, 3), (266, .aload_n 2, 1), (267, .aload_n 0, 1), (268, .iload_n 3, 1), (269, .iconst 1, 1), (270, .iadd, 1), (271, .iaload, 1), (272, .aload_n 0, 1), (273, .iload_n 3, 1), (274, .iconst 2, 1), (275, .iadd, 1), (276, .iaload, 1), (277, .invokevirtual 35, 3), (280, .if_icmp .eq 596, 3), (283, .iconst 0, 1), (284, .ireturn, 1), (285, .aload_n 1, 1), (286, .aload_n 0, 1), (287, .iload_n 3, 1), (288, .iconst 1, 1), (289, .iadd, 1), (290, .iaload, 1), (291, .aload_n 0, 1), (292, .iload_n 3, 1), (293, .iconst 2, 1), (294, .iadd, 1), (295, .iaload, 1), (296, .invokevirtual 36, 3), (299, .aload_n 2, 1), (300, .aload_n 0, 1), (301, .iload_n 3, 1), (302, .iconst 1, 1), (303, .iadd, 1), (304, .iaload, 1), (305, .aload_n 0, 1), (306, .iload_n 3, 1), (307, .iconst 2, 1), (308, .iadd, 1), (309, .iaload, 1), (310, .invokevirtual 39, 3), (313, .if_icmp .eq 563, 3), (316, .iconst 0, 1), (317, .ireturn, 1), (318, .aload_n 1, 1), (319, .invokevirtual 40, 3), (322, .aload_n 2, 1), (323, .invokevirtual 43, 3), (326, .if_icmp .eq 550, 3), (329, .iconst 0, 1), (330, .ireturn, 1), (331, .aload_n 1, 1), (332, .aload_n 0, 1), (333, .iload_n 3, 1), (334, .iconst 1, 1), (335, .iadd, 1), (336, .iaload, 1), (337, .invokevirtual 44, 3), (340, .aload_n 2, 1), (341, .aload_n 0, 1), (342, .iload_n 3, 1), (343, .iconst 1, 1), (344, .iadd, 1), (345, .iaload, 1), (346, .invokevirtual 47, 3), (349, .if_icmp .eq 527, 3), (352, .iconst 0, 1), (353, .ireturn, 1), (354, .aload_n 1, 1), (355, .aload_n 0, 1), (356, .iload_n 3, 1), (357, .iconst 1, 1), (358, .iadd, 1), (359, .iaload, 1), (360, .invokevirtual 48, 3), (363, .aload_n 2, 1), (364, .aload_n 0, 1), (365, .iload_n 3, 1), (366, .iconst 1, 1), (367, .iadd, 1), (368, .iaload, 1), (369, .invokevirtual 51, 3), (372, .if_icmp .eq 504, 3), (375, .iconst 0, 1), (376, .ireturn, 1), (377, .aload_n 1, 1), (378, .aload_n 0, 1), (379, .iload_n 3, 1), (380, .iconst 1, 1), (381, .iadd, 1), (382, .iaload, 1), (383, .aload_n 0, 1), (384, .iload_n 3, 1), (385, .iconst 2, 1), (386, .iadd, 1), (387, .iaload, 1), (388, .invokevirtual 52, 3), (391, .aload_n 2, 1), (392, .aload_n 0, 1), (393, .iload_n 3, 1), (394, .iconst 1, 1), (395, .iadd, 1), (396, .iaload, 1), (397, .aload_n 0, 1), (398, .iload_n 3, 1), (399, .iconst 2, 1), (400, .iadd, 1), (401, .iaload, 1), (402, .invokevirtual 55, 3), (405, .if_icmp .eq 471, 3), (408, .iconst 0, 1), (409, .ireturn, 1), (410, .aload_n 1, 1), (411, .invokevirtual 56, 3), (414, .aload_n 2, 1), (415, .invokevirtual 59, 3), (418, .if_icmp .eq 458, 3), (421, .iconst 0, 1), (422, .ireturn, 1), (423, .aload_n 1, 1), (424, .aload_n 0, 1), (425, .iload_n 3, 1), (426, .iconst 1, 1), (427, .iadd, 1), (428, .iaload, 1), (429, .invokevirtual 60, 3), (432, .aload_n 2, 1), (433, .aload_n 0, 1), (434, .iload_n 3, 1), (435, .iconst 1, 1), (436, .iadd, 1), (437, .iaload, 1), (438, .invokevirtual 63, 3), (441, .if_icmp .eq 435, 3), (444, .iconst 0, 1), (445, .ireturn, 1), (446, .aload_n 1, 1), (447, .aload_n 0, 1), (448, .iload_n 3, 1), (449, .iconst 1, 1), (450, .iadd, 1), (451, .iaload, 1), (452, .invokevirtual 64, 3), (455, .aload_n 2, 1), (456, .aload_n 0, 1), (457, .iload_n 3, 1), (458, .iconst 1, 1), (459, .iadd, 1), (460, .iaload, 1), (461, .invokevirtual 67, 3), (464, .if_icmp .eq 412, 3), (467, .iconst 0, 1), (468, .ireturn, 1), (469, .aload_n 1, 1), (470, .aload_n 0, 1), (471, .iload_n 3, 1), (472, .iconst 1, 1), (473, .iadd, 1), (474, .iaload, 1), (475, .aload_n 0, 1), (476, .iload_n 3, 1), (477, .iconst 2, 1), (478, .iadd, 1), (479, .iaload, 1), (480, .aload_n 0, 1), (481, .iload_n 3, 1), (482, .iconst 3, 1), (483, .iadd, 1), (484, .iaload, 1), (485, .invokevirtual 68, 3), (488, .aload_n 2, 1), (489, .aload_n 0, 1), (490, .iload_n 3, 1), (491, .iconst 1, 1), (492, .iadd, 1), (493, .iaload, 1), (494, .aload_n 0, 1), (495, .iload_n 3, 1), (496, .iconst 2, 1), (497, .iadd, 1), (498, .iaload, 1), (499, .aload_n 0, 1), (500, .iload_n 3, 1), (501, .iconst 3, 1), (502, .iadd, 1), (503, .iaload, 1), (504, .invokevirtual 72, 3), (507, .if_icmp .eq 369, 3), (510, .iconst 0, 1), (511, .ireturn, 1), (512, .aload_n 1, 1), (513, .aload_n 0, 1), (514, .iload_n 3, 1), (515, .iconst 1, 1), (516, .iadd, 1), (517, .iaload, 1), (518, .aload_n 0, 1), (519, .iload_n 3, 1), (520, .iconst 2, 1), (521, .iadd, 1), (522, .iaload, 1), (523, .invokevirtual 73, 3), (526, .aload_n 2, 1), (527, .aload_n 0, 1), (528, .iload_n 3, 1), (529, .iconst 1, 1), (530, .iadd, 1), (531, .iaload, 1), (532, .aload_n 0, 1), (533, .iload_n 3, 1), (534, .iconst 2, 1), (535, .iadd, 1), (536, .iaload, 1), (537, .invokevirtual 76, 3), (540, .if_icmp .eq 336, 3), (543, .iconst 0, 1), (544, .ireturn, 1), (545, .aload_n 1, 1), (546, .aload_n 0, 1), (547, .iload_n 3, 1), (548, .iconst 1, 1), (549, .iadd, 1), (550, .iaload, 1), (551, .aload_n 0, 1), (552, .iload_n 3, 1), (553, .iconst 2, 1), (554, .iadd, 1), (555, .iaload, 1), (556, .aload_n 0, 1), (557, .iload_n 3, 1), (558, .iconst 3, 1), (559, .iadd, 1), (560, .iaload, 1), (561, .invokevirtual 77, 3), (564, .aload_n 2, 1), (565, .aload_n 0, 1), (566, .iload_n 3, 1), (567, .iconst 1, 1), (568, .iadd, 1), (569, .iaload, 1), (570, .aload_n 0, 1), (571, .iload_n 3, 1), (572, .iconst 2, 1), (573, .iadd, 1), (574, .iaload, 1), (575, .aload_n 0, 1), (576, .iload_n 3, 1), (577, .iconst 3, 1), (578, .iadd, 1), (579, .iaload, 1), (580, .invokevirtual 81, 3), (583, .lcmp, 1), (584, .ifCond .eq 292, 3), (587, .iconst 0, 1), (588, .ireturn, 1), (589, .aload_n 1, 1), (590, .aload_n 0, 1), (591, .iload_n 3, 1), (592, .iconst 1, 1), (593, .iadd, 1), (594, .iaload, 1), (595, .aload_n 0, 1), (596, .iload_n 3, 1), (597, .iconst 2, 1), (598, .iadd, 1), (599, .iaload, 1), (600, .invokevirtual 82, 3), (603, .aload_n 2, 1), (604, .aload_n 0, 1), (605, .iload_n 3, 1), (606, .iconst 1, 1), (607, .iadd, 1), (608, .iaload, 1), (609, .aload_n 0, 1), (610, .iload_n 3, 1), (611, .iconst 2, 1), (612, .iadd, 1), (613, .iaload, 1), (614, .invokevirtual 86, 3), (617, .lcmp, 1), (618, .ifCond .eq 258, 3), (621, .iconst 0, 1), (622, .ireturn, 1), (623, .aload_n 1, 1), (624, .aload_n 0, 1), (625, .iload_n 3, 1), (626, .iconst 1, 1), (627, .iadd, 1), (628, .iaload, 1), (629, .aload_n 0, 1), (630, .iload_n 3, 1), (631, .iconst 2, 1), (632, .iadd, 1), (633, .iaload, 1), (634, .aload_n 0, 1), (635, .iload_n 3, 1), (636, .iconst 3, 1), (637, .iadd, 1), (638, .iaload, 1), (639, .invokevirtual 87, 3), (642, .aload_n 2, 1), (643, .aload_n 0, 1), (644, .iload_n 3, 1), (645, .iconst 1, 1), (646, .iadd, 1), (647, .iaload, 1), (648, .aload_n 0, 1), (649, .iload_n 3, 1), (650, .iconst 2, 1), (651, .iadd, 1), (652, .iaload, 1), (653, .aload_n 0, 1), (654, .iload_n 3, 1), (655, .iconst 3, 1), (656, .iadd, 1), (657, .iaload, 1), (658, .invokevirtual 90, 3), (661, .if_icmp .eq 215, 3), (664, .iconst 0, 1), (665, .ireturn, 1), (666, .aload_n 1, 1), (667, .aload_n 0, 1), (668, .iload_n 3, 1), (669, .iconst 1, 1), (670, .iadd, 1), (671, .iaload, 1), (672, .invokevirtual 91, 3), (675, .aload_n 2, 1), (676, .aload_n 0, 1), (677, .iload_n 3, 1), (678, .iconst 1, 1), (679, .iadd, 1), (680, .iaload, 1), (681, .invokevirtual 94, 3), (684, .if_icmp .eq 192, 3), (687, .iconst 0, 1), (688, .ireturn, 1), (689, .aload_n 1, 1), (690, .aload_n 0, 1), (691, .iload_n 3, 1), (692, .iconst 1, 1), (693, .iadd, 1), (694, .iaload, 1), (695, .invokevirtual 95, 3), (698, .aload_n 2, 1), (699, .aload_n 0, 1), (700, .iload_n 3, 1), (701, .iconst 1, 1), (702, .iadd, 1), (703, .iaload, 1), (704, .invokevirtual 98, 3), (707, .if_icmp .eq 169, 3), (710, .iconst 0, 1), (711, .ireturn, 1), (712, .aload_n 1, 1), (713, .aload_n 0, 1), (714, .iload_n 3, 1), (715, .iconst 1, 1), (716, .iadd, 1), (717, .iaload, 1), (718, .invokevirtual 99, 3), (721, .aload_n 2, 1), (722, .aload_n 0, 1), (723, .iload_n 3, 1), (724, .iconst 1, 1), (725, .iadd, 1), (726, .iaload, 1), (727, .invokevirtual 102, 3), (730, .if_icmp .eq 146, 3), (733, .iconst 0, 1), (734, .ireturn, 1), (735, .aload_n 1, 1), (736, .aload_n 0, 1), (737, .iload_n 3, 1), (738, .iconst 1, 1), (739, .iadd, 1), (740, .iaload, 1), (741, .invokevirtual 103, 3), (744, .aload_n 2, 1), (745, .aload_n 0, 1), (746, .iload_n 3, 1), (747, .iconst 1, 1), (748, .iadd, 1), (749, .iaload, 1), (750, .invokevirtual 106, 3), (753, .if_icmp .eq 123, 3), (756, .iconst 0, 1), (757, .ireturn, 1), (758, .aload_n 1, 1), (759, .aload_n 0, 1), (760, .iload_n 3, 1), (761, .iconst 1, 1), (762, .iadd, 1), (763, .iaload, 1), (764, .invokevirtual 107, 3), (767, .aload_n 2, 1), (768, .aload_n 0, 1), (769, .iload_n 3, 1), (770, .iconst 1, 1), (771, .iadd, 1), (772, .iaload, 1), (773, .invokevirtual 110, 3), (776, .if_icmp .eq 100, 3), (779, .iconst 0, 1), (780, .ireturn, 1), (781, .aload_n 1, 1), (782, .invokevirtual 111, 3), (785, .aload_n 2, 1), (786, .invokevirtual 114, 3), (789, .if_icmp .eq 87, 3), (792, .iconst 0, 1), (793, .ireturn, 1), (794, .aload_n 1, 1), (795, .invokevirtual 115, 3), (798, .aload_n 2, 1), (799, .invokevirtual 118, 3), (802, .if_icmp .eq 74, 3), (805, .iconst 0, 1), (806, .ireturn, 1), (807, .aload_n 1, 1), (808, .aload_n 0, 1), (809, .iload_n 3, 1), (810, .iconst 1, 1), (811, .iadd, 1), (812, .iaload, 1), (813, .invokevirtual 119, 3), (816, .aload_n 2, 1), (817, .aload_n 0, 1), (818, .iload_n 3, 1), (819, .iconst 1, 1), (820, .iadd, 1), (821, .iaload, 1), (822, .invokevirtual 122, 3), (825, .if_icmp .eq 51, 3), (828, .iconst 0, 1), (829, .ireturn, 1), (830, .aload_n 1, 1), (831, .aload_n 0, 1), (832, .iload_n 3, 1), (833, .iconst 1, 1), (834, .iadd, 1), (835, .iaload, 1), (836, .invokevirtual 123, 3), (839, .aload_n 2, 1), (840, .aload_n 0, 1), (841, .iload_n 3, 1), (842, .iconst 1, 1), (843, .iadd, 1), (844, .iaload, 1), (845, .invokevirtual 126, 3), (848, .if_icmp .eq 28, 3), (851, .iconst 0, 1), (852, .ireturn, 1), (853, .aload_n 1, 1), (854, .aload_n 0, 1), (855, .iload_n 3, 1), (856, .iconst 1, 1), (857, .iadd, 1), (858, .iaload, 1), (859, .invokevirtual 127, 3), (862, .aload_n 2, 1), (863, .aload_n 0, 1), (864, .iload_n 3, 1), (865, .iconst 1, 1), (866, .iadd, 1), (867, .iaload, 1), (868, .invokevirtual 130, 3), (871, .if_icmp .eq 5, 3), (874, .iconst 0, 1), (875, .ireturn, 1), (876, .iinc 3 4, 3), (879, .goto (-861), 3), (882, .iconst 1, 1), (883, .ireturn, 1)]
def qOps : List (List qOp) := [qo_0, qo_1, qo_2, qo_3, qo_4, qo_5, qo_6, qo_7, qo_8, qo_9, qo_10, qo_11, qo_12, qo_13, qo_14, qo_15, qo_16, qo_17, qo_18, qo_19, qo_20, qo_21, qo_22, qo_23, qo_24, qo_25, qo_26, qo_27, qo_28, qo_29, qo_30, qo_31, qo_32, qo_33, qo_34, qo_35, qo_36, qo_37, qo_38, qo_39, qo_40, qo_41, qo_42, qo_43, qo_44, qo_45, qo_46, qo_47, qo_48, qo_49, qo_50, qo_51, qo_52, qo_53, qo_54, qo_55, qo_56, qo_57, qo_58, qo_59, qo_60, qo_61, qo_62, qo_63, qo_64, qo_65, qo_66, qo_67, qo_68, qo_69, qo_70, qo_71, qo_72, qo_73, qo_74, qo_75, qo_76, qo_77, qo_78, qo_79, qo_80, qo_81, qo_82, qo_83, qo_84, qo_85, qo_86, qo_87, qo_88, qo_89, qo_90, qo_91, qo_92, qo_93, qo_94, qo_95, qo_96, qo_97, qo_98, qo_99, qo_100, qo_101, qo_102, qo_103, qo_104, qo_105, qo_106, qo_107, qo_108, qo_109, qo_110, qo_111, qo_112, qo_113, qo_114, qo_115, qo_116, qo_117, qo_118, qo_119, qo_120, qo_121, qo_122, qo_123, qo_124, qo_125, qo_126, qo_127, qo_128, qo_129, qo_130, qo_131, qo_132, qo_133, qo_134, qo_135, qo_136, qo_137, qo_138, qo_139, qo_140, qo_141, qo_142, qo_143, qo_144, qo_145, qo_146, qo_147, qo_148, qo_149, qo_150, qo_151, qo_152, qo_153, qo_154, qo_155]
def qRows : List (List qRow) := [qr_0, qr_1, qr_2, qr_3, qr_4, qr_5, qr_6, qr_7, qr_8, qr_9, qr_10, qr_11, qr_12, qr_13, qr_14, qr_15, qr_16, qr_17, qr_18, qr_19, qr_20, qr_21, qr_22, qr_23, qr_24, qr_25, qr_26, qr_27, qr_28, qr_29, qr_30, qr_31, qr_32, qr_33, qr_34, qr_35, qr_36, qr_37, qr_38, qr_39, qr_40, qr_41, qr_42, qr_43, qr_44, qr_45, qr_46, qr_47, qr_48, qr_49, qr_50, qr_51, qr_52, qr_53, qr_54, qr_55, qr_56, qr_57, qr_58, qr_59, qr_60, qr_61, qr_62, qr_63, qr_64, qr_65, qr_66, qr_67, qr_68, qr_69, qr_70, qr_71, qr_72, qr_73, qr_74, qr_75, qr_76, qr_77, qr_78, qr_79, qr_80, qr_81, qr_82, qr_83, qr_84, qr_85, qr_86, qr_87, qr_88, qr_89, qr_90, qr_91, qr_92, qr_93, qr_94, qr_95, qr_96, qr_97, qr_98, qr_99, qr_100, qr_101, qr_102, qr_103, qr_104, qr_105, qr_106, qr_107, qr_108, qr_109, qr_110, qr_111, qr_112, qr_113, qr_114, qr_115, qr_116, qr_117, qr_118, qr_119, qr_120, qr_121, qr_122, qr_123, qr_124, qr_125, qr_126, qr_127, qr_128, qr_129, qr_130, qr_131, qr_132, qr_133, qr_134, qr_135, qr_136, qr_137, qr_138, qr_139, qr_140, qr_141, qr_142, qr_143, qr_144, qr_145, qr_146, qr_147, qr_148, qr_149, qr_150, qr_151, qr_152, qr_153, qr_154, qr_155]
def qNm : List MethodName := [yX0_exists, yX0_become, yX0_copyFrom, yX0_orderOfMultiples, yX0_timesRoundedDown, yX0_greatestDivisor, yX1_depth, yX1_record, yX1_restore, yX1_stateAt, yX3_readsAll, yX3_readsItem, yX3_readsPhase, yX3_readsTimes, yX3_readNumber, yX3_isDigit, yX3_refuses, yX4_size, yX4_reaches, yX4_has, yX4_at, yX4_put, yX4_append, yX4_appendTimes, yX4_empty, yX4_copyFrom, yX4_present, yX4_least, yX4_greatest, yX4_gaps, yX4_longestGap, yX4_startsGap, yX4_gapEnd, yX4_lineAt, yX4_isOutlier, yX4_countOf, yX4_differenceAt, yX4_secondAt, yX4_thirdAt, yX4_meanAt, yX5_size, yX5_at, yX5_append, yX5_empty, yX6_add, yX6_skip, yX6_set, yX6_clear, yX6_removeLine, yX6_addLine, yX6_removeDrift, yX6_removeOutliers, yX6_fill, yX6_thin, yX6_undo, yX6_told, yX6_reading, yX6_difference, yX6_count, yX6_variance, yX6_deviation, yX6_compare, yX6_best, yX6_noise, yX6_freedom, yX6_outliers, yX6_write, yX6_wipe, yX6_load, yX6_fault, yX6_keep, yX6_back, yX6_isPhase, yX6_isLimit, yX6_isOrder, yX6_isM, yX6_isVariance, yX6_imageAt, yX6_subtractAmounts, yX6_allStayPhases, yX6_sumOfSecondDifferences, yX6_fillGap, yX6_greatestM, yX6_measure, yX6_orderFor, yX6_divisorFor, yX6_squareRoot, yX6_kindOfNoise, yX6_degreesOfFreedom, yX7_isIn, yX7_many, yX7_isReading, yX7_isThere, yX7_remember, yX7_isPhase, yX7_floor, yX7_add, yX7_skip, yX7_set, yX7_clear, yX7_subtract, yX7_onLine, yX7_removeLine, yX7_addLine, yX7_removeDrift, yX7_isOutlier, yX7_layOutliers, yX7_removeOutliers, yX7_endOfGap, yX7_beginsGap, yX7_fill, yX7_thin, yX7_undo, yX7_gaps, yX7_present, yX7_end, yX7_widest, yX7_told, yX7_reading, yX7_exists, yX7_exists2, yX7_second, yX7_differenceAt, yX7_isWide, yX7_difference, yX7_countOf, yX7_count, yX7_common, yX7_layVariance, yX7_isVariance, yX7_variance, yX7_deviation, yX7_order, yX7_compared, yX7_compare, yX7_best, yX7_noiseAt, yX7_noise, yX7_freedom, yX7_outliers, yX7_write, yX7_wipe, yX7_isWrong, yX7_isDigit, yX7_takes, yX7_lacksNumber, yX7_isItemWrong, yX7_load, yX7_fault, yX7_isImage, yX7_keep, yX7_back, yJ13_compare_74951, yJ9_floorDiv_f86c9, yJ9_max_7cf53, yL_law]
def qBy : List ByteArray := [cX0_exists, cX0_become, cX0_copyFrom, cX0_orderOfMultiples, cX0_timesRoundedDown, cX0_greatestDivisor, cX1_depth, cX1_record, cX1_restore, cX1_stateAt, cX3_readsAll, cX3_readsItem, cX3_readsPhase, cX3_readsTimes, cX3_readNumber, cX3_isDigit, cX3_refuses, cX4_size, cX4_reaches, cX4_has, cX4_at, cX4_put, cX4_append, cX4_appendTimes, cX4_empty, cX4_copyFrom, cX4_present, cX4_least, cX4_greatest, cX4_gaps, cX4_longestGap, cX4_startsGap, cX4_gapEnd, cX4_lineAt, cX4_isOutlier, cX4_countOf, cX4_differenceAt, cX4_secondAt, cX4_thirdAt, cX4_meanAt, cX5_size, cX5_at, cX5_append, cX5_empty, cX6_add, cX6_skip, cX6_set, cX6_clear, cX6_removeLine, cX6_addLine, cX6_removeDrift, cX6_removeOutliers, cX6_fill, cX6_thin, cX6_undo, cX6_told, cX6_reading, cX6_difference, cX6_count, cX6_variance, cX6_deviation, cX6_compare, cX6_best, cX6_noise, cX6_freedom, cX6_outliers, cX6_write, cX6_wipe, cX6_load, cX6_fault, cX6_keep, cX6_back, cX6_isPhase, cX6_isLimit, cX6_isOrder, cX6_isM, cX6_isVariance, cX6_imageAt, cX6_subtractAmounts, cX6_allStayPhases, cX6_sumOfSecondDifferences, cX6_fillGap, cX6_greatestM, cX6_measure, cX6_orderFor, cX6_divisorFor, cX6_squareRoot, cX6_kindOfNoise, cX6_degreesOfFreedom, cX7_isIn, cX7_many, cX7_isReading, cX7_isThere, cX7_remember, cX7_isPhase, cX7_floor, cX7_add, cX7_skip, cX7_set, cX7_clear, cX7_subtract, cX7_onLine, cX7_removeLine, cX7_addLine, cX7_removeDrift, cX7_isOutlier, cX7_layOutliers, cX7_removeOutliers, cX7_endOfGap, cX7_beginsGap, cX7_fill, cX7_thin, cX7_undo, cX7_gaps, cX7_present, cX7_end, cX7_widest, cX7_told, cX7_reading, cX7_exists, cX7_exists2, cX7_second, cX7_differenceAt, cX7_isWide, cX7_difference, cX7_countOf, cX7_count, cX7_common, cX7_layVariance, cX7_isVariance, cX7_variance, cX7_deviation, cX7_order, cX7_compared, cX7_compare, cX7_best, cX7_noiseAt, cX7_noise, cX7_freedom, cX7_outliers, cX7_write, cX7_wipe, cX7_isWrong, cX7_isDigit, cX7_takes, cX7_lacksNumber, cX7_isItemWrong, cX7_load, cX7_fault, cX7_isImage, cX7_keep, cX7_back, cJ13_compare_74951, cJ9_floorDiv_f86c9, cJ9_max_7cf53, cL_law]
def qOw : List String := [RX0, RX0, RX0, RX0, RX0, RX0, RX1, RX1, RX1, RX1, RX3, RX3, RX3, RX3, RX3, RX3, RX3, RX4, RX4, RX4, RX4, RX4, RX4, RX4, RX4, RX4, RX4, RX4, RX4, RX4, RX4, RX4, RX4, RX4, RX4, RX4, RX4, RX4, RX4, RX4, RX5, RX5, RX5, RX5, RX6, RX6, RX6, RX6, RX6, RX6, RX6, RX6, RX6, RX6, RX6, RX6, RX6, RX6, RX6, RX6, RX6, RX6, RX6, RX6, RX6, RX6, RX6, RX6, RX6, RX6, RX6, RX6, RX6, RX6, RX6, RX6, RX6, RX6, RX6, RX6, RX6, RX6, RX6, RX6, RX6, RX6, RX6, RX6, RX6, RX7, RX7, RX7, RX7, RX7, RX7, RX7, RX7, RX7, RX7, RX7, RX7, RX7, RX7, RX7, RX7, RX7, RX7, RX7, RX7, RX7, RX7, RX7, RX7, RX7, RX7, RX7, RX7, RX7, RX7, RX7, RX7, RX7, RX7, RX7, RX7, RX7, RX7, RX7, RX7, RX7, RX7, RX7, RX7, RX7, RX7, RX7, RX7, RX7, RX7, RX7, RX7, RX7, RX7, RX7, RX7, RX7, RX7, RX7, RX7, RX7, RX7, RX7, RJ13, RJ9, RJ9, RL]
def qMl : List Nat := [1, 7, 2, 11, 3, 11, 1, 3, 3, 3, 4, 4, 4, 3, 5, 1, 3, 1, 2, 2, 2, 3, 2, 4, 1, 3, 3, 3, 3, 3, 3, 2, 3, 6, 4, 5, 4, 6, 7, 6, 1, 2, 2, 1, 2, 2, 4, 2, 4, 4, 4, 4, 5, 4, 1, 2, 2, 4, 3, 4, 3, 5, 4, 2, 3, 4, 2, 2, 1, 2, 3, 3, 2, 1, 1, 1, 1, 2, 3, 2, 5, 4, 2, 12, 1, 3, 7, 4, 3, 3, 1, 2, 2, 2, 2, 6, 2, 3, 4, 2, 3, 6, 4, 4, 7, 4, 4, 4, 3, 2, 6, 5, 2, 5, 3, 5, 3, 2, 2, 6, 3, 3, 6, 1, 4, 5, 3, 10, 10, 2, 4, 11, 21, 9, 4, 4, 7, 2, 5, 2, 2, 2, 3, 1, 3, 3, 5, 2, 2, 1, 3, 3, 4, 6, 2, 4]
def qRt : List (Option FieldType) := [(Option.some Jvm.ClassFile.FieldType.boolean), (Option.none : Option Jvm.ClassFile.FieldType), (Option.none : Option Jvm.ClassFile.FieldType), (Option.some Jvm.ClassFile.FieldType.int), (Option.some Jvm.ClassFile.FieldType.long), (Option.some Jvm.ClassFile.FieldType.long), (Option.some Jvm.ClassFile.FieldType.int), (Option.none : Option Jvm.ClassFile.FieldType), (Option.none : Option Jvm.ClassFile.FieldType), (Option.some (Jvm.ClassFile.FieldType.object "StabilityAnalyzer$Readings")), (Option.some Jvm.ClassFile.FieldType.boolean), (Option.some Jvm.ClassFile.FieldType.boolean), (Option.some Jvm.ClassFile.FieldType.boolean), (Option.some Jvm.ClassFile.FieldType.boolean), (Option.some Jvm.ClassFile.FieldType.int), (Option.some Jvm.ClassFile.FieldType.boolean), (Option.some Jvm.ClassFile.FieldType.boolean), (Option.some Jvm.ClassFile.FieldType.int), (Option.some Jvm.ClassFile.FieldType.boolean), (Option.some Jvm.ClassFile.FieldType.boolean), (Option.some Jvm.ClassFile.FieldType.int), (Option.none : Option Jvm.ClassFile.FieldType), (Option.none : Option Jvm.ClassFile.FieldType), (Option.none : Option Jvm.ClassFile.FieldType), (Option.none : Option Jvm.ClassFile.FieldType), (Option.none : Option Jvm.ClassFile.FieldType), (Option.some Jvm.ClassFile.FieldType.int), (Option.some Jvm.ClassFile.FieldType.int), (Option.some Jvm.ClassFile.FieldType.int), (Option.some Jvm.ClassFile.FieldType.int), (Option.some Jvm.ClassFile.FieldType.int), (Option.some Jvm.ClassFile.FieldType.boolean), (Option.some Jvm.ClassFile.FieldType.int), (Option.some Jvm.ClassFile.FieldType.long), (Option.some Jvm.ClassFile.FieldType.boolean), (Option.some Jvm.ClassFile.FieldType.int), (Option.some Jvm.ClassFile.FieldType.int), (Option.some Jvm.ClassFile.FieldType.int), (Option.some Jvm.ClassFile.FieldType.int), (Option.some Jvm.ClassFile.FieldType.int), (Option.some Jvm.ClassFile.FieldType.int), (Option.some Jvm.ClassFile.FieldType.int), (Option.none : Option Jvm.ClassFile.FieldType), (Option.none : Option Jvm.ClassFile.FieldType), (Option.some Jvm.ClassFile.FieldType.int), (Option.some Jvm.ClassFile.FieldType.int), (Option.some Jvm.ClassFile.FieldType.int), (Option.some Jvm.ClassFile.FieldType.int), (Option.some Jvm.ClassFile.FieldType.int), (Option.some Jvm.ClassFile.FieldType.int), (Option.some Jvm.ClassFile.FieldType.int), (Option.some Jvm.ClassFile.FieldType.int), (Option.some Jvm.ClassFile.FieldType.int), (Option.some Jvm.ClassFile.FieldType.int), (Option.some Jvm.ClassFile.FieldType.int), (Option.some Jvm.ClassFile.FieldType.int), (Option.some Jvm.ClassFile.FieldType.int), (Option.some Jvm.ClassFile.FieldType.int), (Option.some Jvm.ClassFile.FieldType.int), (Option.some Jvm.ClassFile.FieldType.long), (Option.some Jvm.ClassFile.FieldType.long), (Option.some Jvm.ClassFile.FieldType.int), (Option.some Jvm.ClassFile.FieldType.int), (Option.some Jvm.ClassFile.FieldType.int), (Option.some Jvm.ClassFile.FieldType.int), (Option.some Jvm.ClassFile.FieldType.int), (Option.some Jvm.ClassFile.FieldType.int), (Option.some Jvm.ClassFile.FieldType.int), (Option.some Jvm.ClassFile.FieldType.int), (Option.some Jvm.ClassFile.FieldType.int), (Option.some Jvm.ClassFile.FieldType.int), (Option.some Jvm.ClassFile.FieldType.int), (Option.some Jvm.ClassFile.FieldType.boolean), (Option.some Jvm.ClassFile.FieldType.boolean), (Option.some Jvm.ClassFile.FieldType.boolean), (Option.some Jvm.ClassFile.FieldType.boolean), (Option.some Jvm.ClassFile.FieldType.boolean), (Option.some (Jvm.ClassFile.FieldType.object "StabilityAnalyzer$Image")), (Option.some Jvm.ClassFile.FieldType.int), (Option.some Jvm.ClassFile.FieldType.boolean), (Option.some Jvm.ClassFile.FieldType.long), (Option.none : Option Jvm.ClassFile.FieldType), (Option.some Jvm.ClassFile.FieldType.int), (Option.none : Option Jvm.ClassFile.FieldType), (Option.some Jvm.ClassFile.FieldType.int), (Option.some Jvm.ClassFile.FieldType.long), (Option.some Jvm.ClassFile.FieldType.long), (Option.some Jvm.ClassFile.FieldType.int), (Option.some Jvm.ClassFile.FieldType.int), (Option.some Jvm.ClassFile.FieldType.boolean), (Option.some Jvm.ClassFile.FieldType.int), (Option.some Jvm.ClassFile.FieldType.boolean), (Option.some Jvm.ClassFile.FieldType.boolean), (Option.none : Option Jvm.ClassFile.FieldType), (Option.some Jvm.ClassFile.FieldType.boolean), (Option.some Jvm.ClassFile.FieldType.long), (Option.some Jvm.ClassFile.FieldType.int), (Option.some Jvm.ClassFile.FieldType.int), (Option.some Jvm.ClassFile.FieldType.int), (Option.some Jvm.ClassFile.FieldType.int), (Option.some Jvm.ClassFile.FieldType.int), (Option.some Jvm.ClassFile.FieldType.long), (Option.some Jvm.ClassFile.FieldType.int), (Option.some Jvm.ClassFile.FieldType.int), (Option.some Jvm.ClassFile.FieldType.int), (Option.some Jvm.ClassFile.FieldType.boolean), (Option.some Jvm.ClassFile.FieldType.int), (Option.some Jvm.ClassFile.FieldType.int), (Option.some Jvm.ClassFile.FieldType.int), (Option.some Jvm.ClassFile.FieldType.boolean), (Option.some Jvm.ClassFile.FieldType.int), (Option.some Jvm.ClassFile.FieldType.int), (Option.some Jvm.ClassFile.FieldType.int), (Option.some Jvm.ClassFile.FieldType.int), (Option.some Jvm.ClassFile.FieldType.int), (Option.some Jvm.ClassFile.FieldType.int), (Option.some Jvm.ClassFile.FieldType.int), (Option.some Jvm.ClassFile.FieldType.int), (Option.some Jvm.ClassFile.FieldType.int), (Option.some Jvm.ClassFile.FieldType.boolean), (Option.some Jvm.ClassFile.FieldType.boolean), (Option.some Jvm.ClassFile.FieldType.int), (Option.some Jvm.ClassFile.FieldType.int), (Option.some Jvm.ClassFile.FieldType.boolean), (Option.some Jvm.ClassFile.FieldType.int), (Option.some Jvm.ClassFile.FieldType.int), (Option.some Jvm.ClassFile.FieldType.int), (Option.some Jvm.ClassFile.FieldType.long), (Option.some Jvm.ClassFile.FieldType.boolean), (Option.some Jvm.ClassFile.FieldType.boolean), (Option.some Jvm.ClassFile.FieldType.long), (Option.some Jvm.ClassFile.FieldType.long), (Option.some Jvm.ClassFile.FieldType.int), (Option.some Jvm.ClassFile.FieldType.int), (Option.some Jvm.ClassFile.FieldType.int), (Option.some Jvm.ClassFile.FieldType.int), (Option.some Jvm.ClassFile.FieldType.int), (Option.some Jvm.ClassFile.FieldType.int), (Option.some Jvm.ClassFile.FieldType.int), (Option.some Jvm.ClassFile.FieldType.int), (Option.some Jvm.ClassFile.FieldType.int), (Option.some Jvm.ClassFile.FieldType.int), (Option.some Jvm.ClassFile.FieldType.boolean), (Option.some Jvm.ClassFile.FieldType.boolean), (Option.some Jvm.ClassFile.FieldType.boolean), (Option.some Jvm.ClassFile.FieldType.boolean), (Option.some Jvm.ClassFile.FieldType.boolean), (Option.some Jvm.ClassFile.FieldType.int), (Option.some Jvm.ClassFile.FieldType.int), (Option.some Jvm.ClassFile.FieldType.boolean), (Option.some Jvm.ClassFile.FieldType.int), (Option.some Jvm.ClassFile.FieldType.int), (Option.some Jvm.ClassFile.FieldType.int), (Option.some Jvm.ClassFile.FieldType.long), (Option.some Jvm.ClassFile.FieldType.int), (Option.some Jvm.ClassFile.FieldType.boolean)]
def qFr : List Nat := [0, 1, 0, 1, 1, 0, 0, 2, 2, 0, 4, 3, 2, 2, 1, 0, 0, 0, 0, 1, 0, 0, 0, 1, 0, 1, 2, 2, 1, 3, 3, 2, 2, 2, 4, 4, 3, 1, 1, 2, 0, 0, 0, 0, 3, 3, 3, 3, 4, 4, 5, 5, 4, 3, 3, 6, 1, 4, 5, 5, 5, 5, 5, 6, 6, 5, 1, 1, 5, 0, 2, 3, 0, 0, 0, 0, 0, 0, 3, 2, 4, 3, 5, 4, 0, 0, 0, 5, 0, 0, 0, 1, 2, 0, 0, 0, 1, 1, 2, 1, 3, 1, 4, 4, 6, 3, 4, 5, 2, 0, 3, 1, 0, 3, 3, 3, 6, 7, 2, 4, 3, 0, 1, 1, 5, 5, 6, 0, 5, 2, 6, 6, 0, 6, 7, 7, 6, 7, 7, 5, 1, 0, 0, 1, 0, 2, 3, 4, 0, 1, 2, 2, 0, 0, 0, 8]
def qLo : List Nat := [0, 30, 0, 23, 20, 0, 0, 43, 43, 0, 91, 68, 45, 45, 21, 0, 0, 0, 0, 21, 0, 0, 0, 21, 0, 21, 42, 42, 21, 63, 64, 42, 42, 42, 94, 94, 71, 21, 21, 46, 0, 0, 0, 0, 65, 65, 65, 65, 87, 87, 118, 117, 90, 65, 65, 139, 21, 94, 118, 125, 125, 125, 125, 148, 148, 117, 21, 20, 114, 0, 43, 65, 0, 0, 0, 0, 0, 0, 65, 42, 94, 67, 118, 94, 0, 0, 0, 125, 0, 0, 0, 22, 43, 0, 0, 0, 21, 22, 43, 21, 64, 25, 86, 86, 135, 64, 87, 110, 43, 0, 65, 22, 0, 65, 64, 64, 135, 157, 43, 86, 64, 0, 22, 22, 111, 111, 135, 0, 111, 42, 140, 140, 0, 140, 168, 168, 140, 166, 166, 110, 22, 0, 0, 22, 0, 42, 64, 88, 0, 22, 42, 42, 0, 0, 0, 191]
def qCw : List Nat := [457, 450, 489, 478, 466, 453, 364, 215, 368, 219, 534, 540, 544, 563, 559, 551, 555, 210, 255, 273, 232, 260, 237, 247, 227, 223, 376, 380, 384, 391, 399, 395, 348, 278, 340, 303, 307, 312, 316, 320, 408, 548, 518, 526, 200, 242, 251, 264, 269, 295, 299, 331, 344, 356, 360, 372, 412, 416, 426, 430, 461, 474, 485, 493, 502, 510, 514, 522, 530, 569, 573, 581, 203, 334, 419, 422, 433, 577, 286, 290, 324, 352, 404, 438, 441, 445, 470, 497, 505, 673, 661, 681, 693, 666, 654, 701, 651, 670, 677, 685, 705, 698, 689, 710, 716, 748, 744, 740, 756, 760, 752, 764, 768, 784, 776, 780, 788, 772, 792, 724, 728, 736, 732, 799, 796, 720, 803, 820, 815, 810, 807, 825, 838, 835, 831, 842, 850, 846, 855, 859, 863, 867, 891, 887, 879, 883, 875, 871, 895, 902, 899, 906, 481, 282, 387, 0]
def qNst : List (String × Nat × String × String × String × String) := [("StabilityAnalyzer", 192, "StabilityAnalyzer$Fraction", "numerator", "J", "StabilityAnalyzer"), ("StabilityAnalyzer", 196, "StabilityAnalyzer$Fraction", "denominator", "J", "StabilityAnalyzer"), ("StabilityAnalyzer", 230, "StabilityAnalyzer$Loader", "faultKind", "I", "StabilityAnalyzer"), ("StabilityAnalyzer", 234, "StabilityAnalyzer$Loader", "faultPlace", "I", "StabilityAnalyzer"), ("StabilityAnalyzer", 241, "StabilityAnalyzer$Image", "readings", "LStabilityAnalyzer$Readings;", "StabilityAnalyzer"), ("StabilityAnalyzer", 244, "StabilityAnalyzer$Image", "used", "Z", "StabilityAnalyzer")]
def qN : Nat := 156
def qNstW : List Nat := [161, 163, 137, 139, 108, 110]
end
section
/-! rows of the machine against rows of the abstract one: what a program checks -/
def qHalt : qOp := (99, 0, 0, 0, .null, [])
def qOp' (y i : Nat) : qOp := (qOps.getD y []).getD i qHalt
def mN (y : Nat) : MethodName := qNm.getD y ⟨"", "", ""⟩
def mB (y : Nat) : ByteArray := qBy.getD y ⟨#[]⟩
def mO (y : Nat) : String := qOw.getD y ""
def mL (y : Nat) : Nat := qMl.getD y 0
def mR (y : Nat) : Option FieldType := qRt.getD y none
def mF (y : Nat) : Nat := qFr.getD y 0
def mW (y : Nat) : Nat := qLo.getD y 0
def cC (ci : Nat) : String := (vwCl.getD ci ("", fun _ => ("", "", "", false), 0)).1
def cT (ci : Nat) : u_T := (vwCl.getD ci ("", fun _ => ("", "", "", false), 0)).2.1
def cN (ci : Nat) : Nat := (vwCl.getD ci ("", fun _ => ("", "", "", false), 0)).2.2
def fkTl : List (List Nat) := [[1, 1], [2, 0, 0], [2, 0], [0, 0, 0, 0, 0], [2, 0], [2, 0], [2, 2, 2, 2, 2, 2, 2, 2, 2], [2, 2, 0, 2, 0, 2, 0, 0, 0, 2, 2, 1, 1, 0, 0, 0, 2, 0, 0]]
def fk (ci j : Nat) : Nat := (fkTl.getD ci []).getD j 2
def qRw (y i : Nat) : qRow := (qRows.getD y []).getD i (0, .nop, 0)
def pcA (y i : Nat) : Nat := (qRw y i).1
def cnu : ClassFile.Cond → Nat
  | .eq => 0
  | .ne => 1
  | .lt => 2
  | .ge => 3
  | .gt => 4
  | .le => 5
def nx (y i pc n : Nat) : Bool := Nat.beq (pcA y (i + 1)) (pc + n)
def jmp (y pc : Nat) (off : Int) (b : Nat) : Bool := decide ((pc : Int) + off = (pcA y b : Int))
def tbw (i : Nat) (w : Cond) : Bool := decide (lw_tbl[i]? = some w)
def chkT (y pc : Nat) : Int → List Int → List (Int × Nat) → Bool
  | _, [], [] => true
  | lo, o :: os, q :: r => decide (q.1 = lo) && jmp y pc o q.2 && chkT y pc (lo + 1) os r
  | _, _, _ => false
def chkU (y pc : Nat) : List (Int × Int) → List (Int × Nat) → Bool
  | [], [] => true
  | o :: os, q :: r => decide (q.1 = o.1) && decide (-2147483648 ≤ o.1 ∧ o.1 < 2147483648) && jmp y pc o.2 q.2 && chkU y pc os r
  | _, _ => false
def chkF (y : Nat) (idx : Nat) (o : qOp) : Bool :=
  Nat.blt o.2.1 8 && Nat.blt o.2.2.1 (cN o.2.1) && tbw o.2.2.2.1 (.fieldLink (mO y) idx (cC o.2.1) (cT o.2.1 o.2.2.1).2.1 (cT o.2.1 o.2.2.1).2.2.1) && decide ((cT o.2.1 o.2.2.1).1 = cC o.2.1)
def qNw (t : String × Nat × String × String × String × String) : Cond := .fieldLinkNest t.1 t.2.1 t.2.2.1 t.2.2.2.1 t.2.2.2.2.1 t.2.2.2.2.2
def chkG (y : Nat) (idx : Nat) (o : qOp) : Bool :=
  Nat.blt o.2.1 8 && Nat.blt o.2.2.1 (cN o.2.1) && decide (qNst[o.2.2.2.1]?.map (fun t => qNw t) = some (.fieldLinkNest (mO y) idx (cC o.2.1) (cT o.2.1 o.2.2.1).2.1 (cT o.2.1 o.2.2.1).2.2.1 "StabilityAnalyzer")) && decide ((cT o.2.1 o.2.2.1).1 = cC o.2.1)
def chkP (o : qOp) (ty : FieldType) : Bool := decide (parseFieldDescriptor (cT o.2.1 o.2.2.1).2.2.1 = some ty) && decide ((cT o.2.1 o.2.2.1).2.2.2 = false)
def chkM (y : Nat) (o : qOp) : Bool :=
  Nat.blt o.2.1 155 && Nat.ble (mF o.2.1 + 1) (mF y) && Nat.ble (8 + (mL o.2.1 + 11) + mW o.2.1) (mW y) && decide ((mN o.2.1).cls ≠ "java/lang/invoke/MethodHandle" ∧ (mN o.2.1).cls ≠ "java/lang/invoke/VarHandle")
def chkS (y idx : Nat) (o : qOp) : Bool := match o.2.2.2.2.2 with
  | [w1, w2, w3] => chkM y o && tbw w1.2 (.methodLink (mO y) idx (mN o.2.1)) && tbw w2.2 (.static (mN o.2.1)) && tbw w3.2 (.initialized (mN o.2.1).cls) && decide ((parseMethodDescriptor (mN o.2.1).desc).map (fun d => d.parameters.length) = some o.2.2.1)
  | _ => false
def chkV (y idx : Nat) (o : qOp) : Bool := match o.2.2.2.2.2 with
  | [w1, w2, w3, w4] => chkM y o && tbw w1.2 (.methodLink (mO y) idx (mN o.2.1)) && tbw w2.2 (.instanceMethod (mN o.2.1)) && tbw w3.2 (.selects (mN o.2.1).cls (mN o.2.1) (mN o.2.1)) && tbw w4.2 (.initialized (mN o.2.1).cls) && Nat.blt o.2.2.2.1 8 && decide (cC o.2.2.2.1 = (mN o.2.1).cls) && decide ((parseMethodDescriptor (mN o.2.1).desc).map (fun d => d.parameters.length) = some o.2.2.1)
  | _ => false
def chkO (y i pc : Nat) (ins : Instr) (len : Nat) (o : qOp) : Bool := match ins with
  | .iconst n => Nat.beq o.1 0 && decide (o.2.2.2.2.1 = .int (Int32.ofInt n)) && Nat.beq len 1 && nx y i pc 1
  | .bipush n => Nat.beq o.1 0 && decide (o.2.2.2.2.1 = .int (Int8.ofInt n).toInt32) && Nat.beq len 2 && nx y i pc 2
  | .sipush n => Nat.beq o.1 0 && decide (o.2.2.2.2.1 = .int (Int16.ofInt n).toInt32) && Nat.beq len 3 && nx y i pc 3
  | .lconst n => Nat.beq o.1 0 && decide (o.2.2.2.2.1 = .long (Int64.ofNat n.val)) && Nat.beq len 1 && nx y i pc 1
  | .aconst_null => Nat.beq o.1 0 && decide (o.2.2.2.2.1 = .null) && Nat.beq len 1 && nx y i pc 1
  | .ldc idx => (match o.2.2.2.2.1 with | .int x => Nat.beq o.1 0 && tbw o.2.1 (.constant (mO y) idx x) | _ => false) && Nat.beq len 2 && nx y i pc 2
  | .ldc2_w idx => (match o.2.2.2.2.1 with | .long x => Nat.beq o.1 0 && tbw o.2.1 (.constantLong (mO y) idx x) | _ => false) && Nat.beq len 3 && nx y i pc 3
  | .iload k => Nat.beq o.1 1 && Nat.beq o.2.1 k && Nat.beq len 2 && nx y i pc 2
  | .iload_n k => Nat.beq o.1 1 && Nat.beq o.2.1 k.val && Nat.beq len 1 && nx y i pc 1
  | .lload k => Nat.beq o.1 2 && Nat.beq o.2.1 k && Nat.beq len 2 && nx y i pc 2
  | .lload_n k => Nat.beq o.1 2 && Nat.beq o.2.1 k.val && Nat.beq len 1 && nx y i pc 1
  | .aload k => Nat.beq o.1 3 && Nat.beq o.2.1 k && Nat.beq len 2 && nx y i pc 2
  | .aload_n k => Nat.beq o.1 3 && Nat.beq o.2.1 k.val && Nat.beq len 1 && nx y i pc 1
  | .istore k => Nat.beq o.1 4 && Nat.beq o.2.1 k && Nat.blt k (mL y) && Nat.beq len 2 && nx y i pc 2
  | .istore_n k => Nat.beq o.1 4 && Nat.beq o.2.1 k.val && Nat.blt k.val (mL y) && Nat.beq len 1 && nx y i pc 1
  | .lstore k => Nat.beq o.1 5 && Nat.beq o.2.1 k && Nat.blt (k + 1) (mL y) && Nat.beq len 2 && nx y i pc 2
  | .lstore_n k => Nat.beq o.1 5 && Nat.beq o.2.1 k.val && Nat.blt (k.val + 1) (mL y) && Nat.beq len 1 && nx y i pc 1
  | .astore k => Nat.beq o.1 6 && Nat.beq o.2.1 k && Nat.blt k (mL y) && Nat.beq len 2 && nx y i pc 2
  | .astore_n k => Nat.beq o.1 6 && Nat.beq o.2.1 k.val && Nat.blt k.val (mL y) && Nat.beq len 1 && nx y i pc 1
  | .iinc k n => Nat.beq o.1 7 && Nat.beq o.2.1 k && decide (o.2.2.2.2.1 = .int (Int32.ofInt n)) && Nat.blt k (mL y) && Nat.beq len 3 && nx y i pc 3
  | .iadd => Nat.beq o.1 8 && Nat.beq len 1 && nx y i pc 1
  | .isub => Nat.beq o.1 9 && Nat.beq len 1 && nx y i pc 1
  | .imul => Nat.beq o.1 10 && Nat.beq len 1 && nx y i pc 1
  | .iand => Nat.beq o.1 11 && Nat.beq len 1 && nx y i pc 1
  | .ior => Nat.beq o.1 12 && Nat.beq len 1 && nx y i pc 1
  | .ishl => Nat.beq o.1 13 && Nat.beq len 1 && nx y i pc 1
  | .ishr => Nat.beq o.1 14 && Nat.beq len 1 && nx y i pc 1
  | .idiv => Nat.beq o.1 15 && Nat.beq len 1 && nx y i pc 1
  | .irem => Nat.beq o.1 16 && Nat.beq len 1 && nx y i pc 1
  | .ineg => Nat.beq o.1 17 && Nat.beq len 1 && nx y i pc 1
  | .ladd => Nat.beq o.1 18 && Nat.beq len 1 && nx y i pc 1
  | .lsub => Nat.beq o.1 19 && Nat.beq len 1 && nx y i pc 1
  | .lmul => Nat.beq o.1 20 && Nat.beq len 1 && nx y i pc 1
  | .ldiv => Nat.beq o.1 21 && Nat.beq len 1 && nx y i pc 1
  | .lrem => Nat.beq o.1 22 && Nat.beq len 1 && nx y i pc 1
  | .lneg => Nat.beq o.1 23 && Nat.beq len 1 && nx y i pc 1
  | .lshl => Nat.beq o.1 24 && Nat.beq len 1 && nx y i pc 1
  | .lcmp => Nat.beq o.1 25 && Nat.beq len 1 && nx y i pc 1
  | .i2l => Nat.beq o.1 26 && Nat.beq len 1 && nx y i pc 1
  | .l2i => Nat.beq o.1 27 && Nat.beq len 1 && nx y i pc 1
  | .lxor => Nat.beq o.1 57 && Nat.beq len 1 && nx y i pc 1
  | .ifCond cc off => Nat.beq o.1 28 && Nat.beq o.2.1 (cnu cc) && jmp y pc off o.2.2.1 && Nat.beq len 3 && nx y i pc 3
  | .if_icmp cc off => Nat.beq o.1 29 && Nat.beq o.2.1 (cnu cc) && jmp y pc off o.2.2.1 && Nat.beq len 3 && nx y i pc 3
  | .ifnull off => Nat.beq o.1 30 && jmp y pc off o.2.2.1 && Nat.beq len 3 && nx y i pc 3
  | .ifnonnull off => Nat.beq o.1 31 && jmp y pc off o.2.2.1 && Nat.beq len 3 && nx y i pc 3
  | .goto off => Nat.beq o.1 32 && jmp y pc off o.2.2.1 && Nat.beq len 3
  | .tableswitch d lo hi offs => Nat.beq o.1 33 && jmp y pc d o.2.2.1 && decide (-2147483648 ≤ lo ∧ hi < 2147483648 ∧ (offs.size : Int) = hi - lo + 1) && chkT y pc lo offs.toList o.2.2.2.2.2
  | .lookupswitch d ps => Nat.beq o.1 33 && jmp y pc d o.2.2.1 && (ps.toList.zip (ps.toList.drop 1)).all (fun (a, b) => a.1 < b.1) && chkU y pc ps.toList o.2.2.2.2.2
  | .getfield idx => Nat.beq len 3 && nx y i pc 3 && ((Nat.beq o.1 34 && chkF y idx o && Nat.beq (fk o.2.1 o.2.2.1) 0) || (Nat.beq o.1 35 && chkF y idx o && Nat.beq (fk o.2.1 o.2.2.1) 1) || (Nat.beq o.1 36 && chkF y idx o && Nat.beq (fk o.2.1 o.2.2.1) 2) || (Nat.beq o.1 60 && chkG y idx o && Nat.beq (fk o.2.1 o.2.2.1) 0) || (Nat.beq o.1 61 && chkG y idx o && Nat.beq (fk o.2.1 o.2.2.1) 1) || (Nat.beq o.1 62 && chkG y idx o && Nat.beq (fk o.2.1 o.2.2.1) 2))
  | .putfield idx => Nat.beq len 3 && nx y i pc 3 && ((Nat.beq o.1 37 && chkF y idx o && chkP o .int && Nat.beq (fk o.2.1 o.2.2.1) 0) || (Nat.beq o.1 38 && chkF y idx o && chkP o .long && Nat.beq (fk o.2.1 o.2.2.1) 1) || (Nat.beq o.1 39 && chkF y idx o && chkP o .boolean && Nat.beq (fk o.2.1 o.2.2.1) 0) || (Nat.beq o.1 65 && chkG y idx o && chkP o .boolean && Nat.beq (fk o.2.1 o.2.2.1) 0))
  | .arraylength => (Nat.beq o.1 40 || Nat.beq o.1 59) && Nat.beq len 1 && nx y i pc 1
  | .iaload => (Nat.beq o.1 41 || Nat.beq o.1 58) && Nat.beq len 1 && nx y i pc 1
  | .laload => Nat.beq o.1 42 && Nat.beq len 1 && nx y i pc 1
  | .baload => Nat.beq o.1 43 && Nat.beq len 1 && nx y i pc 1
  | .aaload => Nat.beq o.1 44 && (Nat.beq o.2.1 103 || Nat.beq o.2.1 104) && Nat.beq len 1 && nx y i pc 1
  | .iastore => Nat.beq o.1 45 && Nat.beq len 1 && nx y i pc 1
  | .lastore => Nat.beq o.1 46 && Nat.beq len 1 && nx y i pc 1
  | .bastore => Nat.beq o.1 47 && Nat.beq len 1 && nx y i pc 1
  | .invokestatic idx => Nat.beq o.1 48 && chkS y idx o && Nat.beq len 3 && nx y i pc 3
  | .invokevirtual idx => Nat.beq o.1 49 && chkV y idx o && Nat.beq len 3 && nx y i pc 3
  | .ireturn => ((Nat.beq o.1 50 && decide (mR y = some .int)) || (Nat.beq o.1 51 && decide (mR y = some .boolean))) && Nat.beq len 1
  | .lreturn => Nat.beq o.1 52 && decide (mR y = some .long) && Nat.beq len 1
  | .areturn => Nat.beq o.1 53 && (match mR y with | some (.object _) => true | _ => false) && Nat.beq len 1
  | .return_ => Nat.beq o.1 54 && decide (mR y = none) && Nat.beq len 1
  | .dup => Nat.beq o.1 55 && Nat.beq len 1 && nx y i pc 1
  | .dup2 => Nat.beq o.1 56 && Nat.beq len 1 && nx y i pc 1
  | _ => false
def qDec (y : Nat) (r : qRow) : Bool := match decode (mB y) r.1 with
  | .ok q => decide (q = (r.2.1, r.2.2))
  | _ => false
def chk (y i : Nat) : Bool := Nat.beq (qOp' y i).1 99 || (qDec y (qRw y i) && chkO y i (qRw y i).1 (qRw y i).2.1 (qRw y i).2.2 (qOp' y i))
def chkAll (lo n : Nat) : Bool := (List.range n).all (fun k => (List.range (qOps.getD (lo + k) []).length).all (chk (lo + k)))
def chkRng (y lo n : Nat) : Bool := (List.range n).all (fun k => chk y (lo + k))
set_option maxRecDepth 100000 in
theorem ck_len : qOps.length = 156 := by decide +kernel
end
section
/-! the check, run -/
set_option maxRecDepth 100000 in
theorem ck_0 : chkAll 0 25 = true := by decide +kernel
set_option maxRecDepth 100000 in
theorem ck_1 : chkAll 25 25 = true := by decide +kernel
end
section
/-! the check, run -/
set_option maxRecDepth 100000 in
theorem ck_2 : chkAll 50 25 = true := by decide +kernel
set_option maxRecDepth 100000 in
theorem ck_3 : chkAll 75 25 = true := by decide +kernel
end
section
/-! the check, run -/
set_option maxRecDepth 100000 in
theorem ck_4 : chkAll 100 25 = true := by decide +kernel
set_option maxRecDepth 100000 in
theorem ck_5 : chkAll 125 30 = true := by decide +kernel
end
section
/-! the check, run -/
set_option maxRecDepth 100000 in
theorem ck_6 : chkRng 155 0 150 = true := by decide +kernel
set_option maxRecDepth 100000 in
theorem ck_7 : chkRng 155 150 150 = true := by decide +kernel
end
section
/-! the check, run -/
set_option maxRecDepth 100000 in
theorem ck_8 : chkRng 155 300 150 = true := by decide +kernel
set_option maxRecDepth 100000 in
theorem ck_9 : chkRng 155 450 124 = true := by decide +kernel
end
section
/-! the abstract machine: memory of ints and longs over a fixed list of objects; a judgement 'P' that is closed under one step -/
abbrev qMem : Type := (Nat → Nat → Int32) × (Nat → Nat → Int64)
abbrev qLc : Type := List (Nat × Value)
abbrev qPost : Type := Option Value → qMem → Prop
abbrev qSem : Type := Nat → Nat → qLc → List Value → qMem → qPost → Prop
def pI (M : qMem) (k j : Nat) (x : Int32) : qMem := (fun a b => if a = k ∧ b = j then x else M.1 a b, M.2)
def pJ (M : qMem) (k j : Nat) (x : Int64) : qMem := (M.1, fun a b => if a = k ∧ b = j then x else M.2 a b)
def lcS1 (L : qLc) (i : Nat) (v : Value) : qLc := (i, v) :: L.filter (fun q => !(q.1 == i) && !(q.1 + 1 == i && q.2.category == 2))
def lcS2 (L : qLc) (i : Nat) (v : Value) : qLc := (i, v) :: L.filter (fun q => !(q.1 == i) && (!(q.1 == i + 1) && !(q.1 + 1 == i && q.2.category == 2)))
def lcG (i : Nat) : qLc → Value
  | [] => .retAddr 0
  | q :: r => bif q.1 == i then q.2 else lcG i r
def csum (st : List Value) : Nat := (st.map fun v => v.category).sum
def shTl : List (Nat × Nat) := [(6, 0), (4, 0), (100, 64), (4, 0), (100, 64), (101, 64), (1, 0), (103, 8), (4, 0), (100, 64), (4, 0), (100, 64), (4, 0), (100, 64), (4, 0), (100, 64), (4, 0), (100, 64), (4, 0), (100, 64), (4, 0), (100, 64), (4, 0), (100, 64), (104, 2), (2, 0), (4, 0), (100, 64), (2, 0), (4, 0), (100, 64), (5, 0), (100, 120), (3, 0), (0, 0), (0, 0), (7, 0), (100, 65), (100, 520), (100, 130), (100, 120), (101, 64), (102, 64), (100, 64)]
def rfTl : List (List Nat) := [[1, 3, 5, 6, 24, 31, 33, 34, 35], [2], [], [4], [], [], [7], [8, 10, 12, 14, 16, 18, 20, 22], [9], [], [11], [], [13], [], [15], [], [17], [], [19], [], [21], [], [23], [], [25, 28], [26], [27], [], [29], [30], [], [32], [], [], [], [], [37, 38, 0, 39, 0, 40, 0, 0, 0, 41, 42, 0, 0, 0, 0, 0, 43, 0, 0], [], [], [], [], [], [], []]
def shT (k : Nat) : Nat := (shTl.getD k (200, 0)).1
def shL (k : Nat) : Nat := (shTl.getD k (200, 0)).2
def rf (k j : Nat) : Nat := (rfTl.getD k []).getD j 0
def qSCR : Nat := 1000
def icc (cc : Nat) (x y : Int32) : Prop := match cc with
  | 0 => x = y
  | 1 => ¬ x = y
  | 2 => x < y
  | 3 => y ≤ x
  | 4 => y < x
  | _ => x ≤ y
def swP (x : Int32) (f : Nat → Prop) : List (Int × Nat) → Nat → Prop
  | [], d => f d
  | q :: r, d => (x = Int32.ofInt q.1 → f q.2) ∧ (¬ x = Int32.ofInt q.1 → swP x f r d)
def qx_0 (P : qSem) (y i : Nat) (o : qOp) (L : qLc) (stk : List Value) (M : qMem) (Q : qPost) : Prop :=
  P y (i + 1) L (o.2.2.2.2.1 :: stk) M Q
def qx_1 (P : qSem) (y i : Nat) (o : qOp) (L : qLc) (stk : List Value) (M : qMem) (Q : qPost) : Prop :=
  match lcG o.2.1 L with
    | .int x => P y (i + 1) L (.int x :: stk) M Q
    | _ => False
def qx_2 (P : qSem) (y i : Nat) (o : qOp) (L : qLc) (stk : List Value) (M : qMem) (Q : qPost) : Prop :=
  match lcG o.2.1 L with
    | .long x => P y (i + 1) L (.long x :: stk) M Q
    | _ => False
def qx_3 (P : qSem) (y i : Nat) (o : qOp) (L : qLc) (stk : List Value) (M : qMem) (Q : qPost) : Prop :=
  match lcG o.2.1 L with
    | .ref x => P y (i + 1) L (.ref x :: stk) M Q
    | .null => P y (i + 1) L (.null :: stk) M Q
    | _ => False
def qx_4 (P : qSem) (y i : Nat) (o : qOp) (L : qLc) (stk : List Value) (M : qMem) (Q : qPost) : Prop :=
  match stk with
    | .int x :: st => P y (i + 1) (lcS1 L o.2.1 (.int x)) st M Q
    | _ => False
def qx_5 (P : qSem) (y i : Nat) (o : qOp) (L : qLc) (stk : List Value) (M : qMem) (Q : qPost) : Prop :=
  match stk with
    | .long x :: st => P y (i + 1) (lcS2 L o.2.1 (.long x)) st M Q
    | _ => False
def qx_6 (P : qSem) (y i : Nat) (o : qOp) (L : qLc) (stk : List Value) (M : qMem) (Q : qPost) : Prop :=
  match stk with
    | .ref x :: st => P y (i + 1) (lcS1 L o.2.1 (.ref x)) st M Q
    | .null :: st => P y (i + 1) (lcS1 L o.2.1 .null) st M Q
    | _ => False
def qx_7 (P : qSem) (y i : Nat) (o : qOp) (L : qLc) (stk : List Value) (M : qMem) (Q : qPost) : Prop :=
  match lcG o.2.1 L, o.2.2.2.2.1 with
    | .int x, .int d => P y (i + 1) (lcS1 L o.2.1 (.int (x + d))) stk M Q
    | _, _ => False
/-- one step: what must hold so that the judgement holds at row i of method y -/
def qSt1 (P : qSem) (y i : Nat) (o : qOp) (L : qLc) (stk : List Value) (M : qMem) (Q : qPost) : Prop :=
  match o.1 with
  | 0 => qx_0 P y i o L stk M Q
  | 1 => qx_1 P y i o L stk M Q
  | 2 => qx_2 P y i o L stk M Q
  | 3 => qx_3 P y i o L stk M Q
  | 4 => qx_4 P y i o L stk M Q
  | 5 => qx_5 P y i o L stk M Q
  | 6 => qx_6 P y i o L stk M Q
  | _ => qx_7 P y i o L stk M Q
def qx_8 (P : qSem) (y i : Nat) (o : qOp) (L : qLc) (stk : List Value) (M : qMem) (Q : qPost) : Prop :=
  match stk with
    | .int b :: .int a :: st => P y (i + 1) L (.int (a + b) :: st) M Q
    | _ => False
def qx_9 (P : qSem) (y i : Nat) (o : qOp) (L : qLc) (stk : List Value) (M : qMem) (Q : qPost) : Prop :=
  match stk with
    | .int b :: .int a :: st => P y (i + 1) L (.int (a - b) :: st) M Q
    | _ => False
def qx_10 (P : qSem) (y i : Nat) (o : qOp) (L : qLc) (stk : List Value) (M : qMem) (Q : qPost) : Prop :=
  match stk with
    | .int b :: .int a :: st => P y (i + 1) L (.int (a * b) :: st) M Q
    | _ => False
def qx_11 (P : qSem) (y i : Nat) (o : qOp) (L : qLc) (stk : List Value) (M : qMem) (Q : qPost) : Prop :=
  match stk with
    | .int b :: .int a :: st => P y (i + 1) L (.int (a &&& b) :: st) M Q
    | _ => False
def qx_12 (P : qSem) (y i : Nat) (o : qOp) (L : qLc) (stk : List Value) (M : qMem) (Q : qPost) : Prop :=
  match stk with
    | .int b :: .int a :: st => P y (i + 1) L (.int (a ||| b) :: st) M Q
    | _ => False
def qx_13 (P : qSem) (y i : Nat) (o : qOp) (L : qLc) (stk : List Value) (M : qMem) (Q : qPost) : Prop :=
  match stk with
    | .int b :: .int a :: st => P y (i + 1) L (.int (a <<< (b &&& 31)) :: st) M Q
    | _ => False
def qx_14 (P : qSem) (y i : Nat) (o : qOp) (L : qLc) (stk : List Value) (M : qMem) (Q : qPost) : Prop :=
  match stk with
    | .int b :: .int a :: st => P y (i + 1) L (.int (a >>> (b &&& 31)) :: st) M Q
    | _ => False
def qx_15 (P : qSem) (y i : Nat) (o : qOp) (L : qLc) (stk : List Value) (M : qMem) (Q : qPost) : Prop :=
  match stk with
    | .int b :: .int a :: st => ¬ b = 0 ∧ P y (i + 1) L (.int (a / b) :: st) M Q
    | _ => False
def qx_16 (P : qSem) (y i : Nat) (o : qOp) (L : qLc) (stk : List Value) (M : qMem) (Q : qPost) : Prop :=
  match stk with
    | .int b :: .int a :: st => ¬ b = 0 ∧ P y (i + 1) L (.int (a - a / b * b) :: st) M Q
    | _ => False
def qx_17 (P : qSem) (y i : Nat) (o : qOp) (L : qLc) (stk : List Value) (M : qMem) (Q : qPost) : Prop :=
  match stk with
    | .int a :: st => P y (i + 1) L (.int (-a) :: st) M Q
    | _ => False
def qx_18 (P : qSem) (y i : Nat) (o : qOp) (L : qLc) (stk : List Value) (M : qMem) (Q : qPost) : Prop :=
  match stk with
    | .long b :: .long a :: st => P y (i + 1) L (.long (a + b) :: st) M Q
    | _ => False
def qx_19 (P : qSem) (y i : Nat) (o : qOp) (L : qLc) (stk : List Value) (M : qMem) (Q : qPost) : Prop :=
  match stk with
    | .long b :: .long a :: st => P y (i + 1) L (.long (a - b) :: st) M Q
    | _ => False
def qx_20 (P : qSem) (y i : Nat) (o : qOp) (L : qLc) (stk : List Value) (M : qMem) (Q : qPost) : Prop :=
  match stk with
    | .long b :: .long a :: st => P y (i + 1) L (.long (a * b) :: st) M Q
    | _ => False
def qx_21 (P : qSem) (y i : Nat) (o : qOp) (L : qLc) (stk : List Value) (M : qMem) (Q : qPost) : Prop :=
  match stk with
    | .long b :: .long a :: st => ¬ b = 0 ∧ P y (i + 1) L (.long (a / b) :: st) M Q
    | _ => False
def qx_22 (P : qSem) (y i : Nat) (o : qOp) (L : qLc) (stk : List Value) (M : qMem) (Q : qPost) : Prop :=
  match stk with
    | .long b :: .long a :: st => ¬ b = 0 ∧ P y (i + 1) L (.long (a - a / b * b) :: st) M Q
    | _ => False
def qx_23 (P : qSem) (y i : Nat) (o : qOp) (L : qLc) (stk : List Value) (M : qMem) (Q : qPost) : Prop :=
  match stk with
    | .long a :: st => P y (i + 1) L (.long (-a) :: st) M Q
    | _ => False
def qx_24 (P : qSem) (y i : Nat) (o : qOp) (L : qLc) (stk : List Value) (M : qMem) (Q : qPost) : Prop :=
  match stk with
    | .int b :: .long a :: st => P y (i + 1) L (.long (a <<< (b.toInt64 &&& 63)) :: st) M Q
    | _ => False
def qx_25 (P : qSem) (y i : Nat) (o : qOp) (L : qLc) (stk : List Value) (M : qMem) (Q : qPost) : Prop :=
  match stk with
    | .long b :: .long a :: st => P y (i + 1) L (.int (lg_cmp a b) :: st) M Q
    | _ => False
def qx_26 (P : qSem) (y i : Nat) (o : qOp) (L : qLc) (stk : List Value) (M : qMem) (Q : qPost) : Prop :=
  match stk with
    | .int a :: st => P y (i + 1) L (.long a.toInt64 :: st) M Q
    | _ => False
def qx_27 (P : qSem) (y i : Nat) (o : qOp) (L : qLc) (stk : List Value) (M : qMem) (Q : qPost) : Prop :=
  match stk with
    | .long a :: st => P y (i + 1) L (.int a.toInt32 :: st) M Q
    | _ => False
/-- arithmetic -/
def qSt2 (P : qSem) (y i : Nat) (o : qOp) (L : qLc) (stk : List Value) (M : qMem) (Q : qPost) : Prop :=
  match o.1 with
  | 8 => qx_8 P y i o L stk M Q
  | 9 => qx_9 P y i o L stk M Q
  | 10 => qx_10 P y i o L stk M Q
  | 11 => qx_11 P y i o L stk M Q
  | 12 => qx_12 P y i o L stk M Q
  | 13 => qx_13 P y i o L stk M Q
  | 14 => qx_14 P y i o L stk M Q
  | 15 => qx_15 P y i o L stk M Q
  | 16 => qx_16 P y i o L stk M Q
  | 17 => qx_17 P y i o L stk M Q
  | 18 => qx_18 P y i o L stk M Q
  | 19 => qx_19 P y i o L stk M Q
  | 20 => qx_20 P y i o L stk M Q
  | 21 => qx_21 P y i o L stk M Q
  | 22 => qx_22 P y i o L stk M Q
  | 23 => qx_23 P y i o L stk M Q
  | 24 => qx_24 P y i o L stk M Q
  | 25 => qx_25 P y i o L stk M Q
  | 26 => qx_26 P y i o L stk M Q
  | _ => qx_27 P y i o L stk M Q
def qx_28 (P : qSem) (y i : Nat) (o : qOp) (L : qLc) (stk : List Value) (M : qMem) (Q : qPost) : Prop :=
  match stk with
    | .int a :: st => (icc o.2.1 a 0 → P y o.2.2.1 L st M Q) ∧ (¬ icc o.2.1 a 0 → P y (i + 1) L st M Q)
    | _ => False
def qx_29 (P : qSem) (y i : Nat) (o : qOp) (L : qLc) (stk : List Value) (M : qMem) (Q : qPost) : Prop :=
  match stk with
    | .int b :: .int a :: st => (icc o.2.1 a b → P y o.2.2.1 L st M Q) ∧ (¬ icc o.2.1 a b → P y (i + 1) L st M Q)
    | _ => False
def qx_30 (P : qSem) (y i : Nat) (o : qOp) (L : qLc) (stk : List Value) (M : qMem) (Q : qPost) : Prop :=
  match stk with
    | .null :: st => P y o.2.2.1 L st M Q
    | .ref _ :: st => P y (i + 1) L st M Q
    | _ => False
def qx_31 (P : qSem) (y i : Nat) (o : qOp) (L : qLc) (stk : List Value) (M : qMem) (Q : qPost) : Prop :=
  match stk with
    | .null :: st => P y (i + 1) L st M Q
    | .ref _ :: st => P y o.2.2.1 L st M Q
    | _ => False
def qx_32 (P : qSem) (y i : Nat) (o : qOp) (L : qLc) (stk : List Value) (M : qMem) (Q : qPost) : Prop :=
  P y o.2.2.1 L stk M Q
def qx_33 (P : qSem) (y i : Nat) (o : qOp) (L : qLc) (stk : List Value) (M : qMem) (Q : qPost) : Prop :=
  match stk with
    | .int a :: st => swP a (fun t => P y t L st M Q) o.2.2.2.2.2 o.2.2.1
    | _ => False
/-- branches -/
def qSt3 (P : qSem) (y i : Nat) (o : qOp) (L : qLc) (stk : List Value) (M : qMem) (Q : qPost) : Prop :=
  match o.1 with
  | 28 => qx_28 P y i o L stk M Q
  | 29 => qx_29 P y i o L stk M Q
  | 30 => qx_30 P y i o L stk M Q
  | 31 => qx_31 P y i o L stk M Q
  | 32 => qx_32 P y i o L stk M Q
  | _ => qx_33 P y i o L stk M Q
def qx_34 (P : qSem) (y i : Nat) (o : qOp) (L : qLc) (stk : List Value) (M : qMem) (Q : qPost) : Prop :=
  match stk with
    | .ref k :: st => shT k = o.2.1 ∧ P y (i + 1) L (.int (M.1 k o.2.2.1) :: st) M Q
    | _ => False
def qx_35 (P : qSem) (y i : Nat) (o : qOp) (L : qLc) (stk : List Value) (M : qMem) (Q : qPost) : Prop :=
  match stk with
    | .ref k :: st => shT k = o.2.1 ∧ P y (i + 1) L (.long (M.2 k o.2.2.1) :: st) M Q
    | _ => False
def qx_36 (P : qSem) (y i : Nat) (o : qOp) (L : qLc) (stk : List Value) (M : qMem) (Q : qPost) : Prop :=
  match stk with
    | .ref k :: st => shT k = o.2.1 ∧ P y (i + 1) L (.ref (rf k o.2.2.1) :: st) M Q
    | _ => False
def qx_37 (P : qSem) (y i : Nat) (o : qOp) (L : qLc) (stk : List Value) (M : qMem) (Q : qPost) : Prop :=
  match stk with
    | .int x :: .ref k :: st => shT k = o.2.1 ∧ P y (i + 1) L st (pI M k o.2.2.1 x) Q
    | _ => False
def qx_38 (P : qSem) (y i : Nat) (o : qOp) (L : qLc) (stk : List Value) (M : qMem) (Q : qPost) : Prop :=
  match stk with
    | .long x :: .ref k :: st => shT k = o.2.1 ∧ P y (i + 1) L st (pJ M k o.2.2.1 x) Q
    | _ => False
def qx_39 (P : qSem) (y i : Nat) (o : qOp) (L : qLc) (stk : List Value) (M : qMem) (Q : qPost) : Prop :=
  match stk with
    | .int x :: .ref k :: st => shT k = o.2.1 ∧ narrow .boolean (.int x) = .int x ∧ P y (i + 1) L st (pI M k o.2.2.1 x) Q
    | _ => False
/-- fields -/
def qSt4 (P : qSem) (y i : Nat) (o : qOp) (L : qLc) (stk : List Value) (M : qMem) (Q : qPost) : Prop :=
  match o.1 with
  | 34 => qx_34 P y i o L stk M Q
  | 35 => qx_35 P y i o L stk M Q
  | 36 => qx_36 P y i o L stk M Q
  | 37 => qx_37 P y i o L stk M Q
  | 38 => qx_38 P y i o L stk M Q
  | _ => qx_39 P y i o L stk M Q
def qx_40 (P : qSem) (y i : Nat) (o : qOp) (L : qLc) (stk : List Value) (M : qMem) (Q : qPost) : Prop :=
  match stk with
    | .ref k :: st => 100 ≤ shT k ∧ shT k ≤ 104 ∧ P y (i + 1) L (.int (Int32.ofNat (shL k)) :: st) M Q
    | _ => False
def qx_41 (P : qSem) (y i : Nat) (o : qOp) (L : qLc) (stk : List Value) (M : qMem) (Q : qPost) : Prop :=
  match stk with
    | .int j :: .ref k :: st => shT k = 100 ∧ vp_in j (shL k) ∧ P y (i + 1) L (.int (M.1 k j.toNatClampNeg) :: st) M Q
    | _ => False
def qx_42 (P : qSem) (y i : Nat) (o : qOp) (L : qLc) (stk : List Value) (M : qMem) (Q : qPost) : Prop :=
  match stk with
    | .int j :: .ref k :: st => shT k = 101 ∧ vp_in j (shL k) ∧ P y (i + 1) L (.long (M.2 k j.toNatClampNeg) :: st) M Q
    | _ => False
def qx_43 (P : qSem) (y i : Nat) (o : qOp) (L : qLc) (stk : List Value) (M : qMem) (Q : qPost) : Prop :=
  match stk with
    | .int j :: .ref k :: st => shT k = 102 ∧ vp_in j (shL k) ∧ P y (i + 1) L (.int (M.1 k j.toNatClampNeg) :: st) M Q
    | _ => False
def qx_44 (P : qSem) (y i : Nat) (o : qOp) (L : qLc) (stk : List Value) (M : qMem) (Q : qPost) : Prop :=
  match stk with
    | .int j :: .ref k :: st => shT k = o.2.1 ∧ vp_in j (shL k) ∧ P y (i + 1) L (.ref (rf k j.toNatClampNeg) :: st) M Q
    | _ => False
def qx_45 (P : qSem) (y i : Nat) (o : qOp) (L : qLc) (stk : List Value) (M : qMem) (Q : qPost) : Prop :=
  match stk with
    | .int x :: .int j :: .ref k :: st => shT k = 100 ∧ vp_in j (shL k) ∧ P y (i + 1) L st (pI M k j.toNatClampNeg x) Q
    | _ => False
def qx_46 (P : qSem) (y i : Nat) (o : qOp) (L : qLc) (stk : List Value) (M : qMem) (Q : qPost) : Prop :=
  match stk with
    | .long x :: .int j :: .ref k :: st => shT k = 101 ∧ vp_in j (shL k) ∧ P y (i + 1) L st (pJ M k j.toNatClampNeg x) Q
    | _ => False
def qx_47 (P : qSem) (y i : Nat) (o : qOp) (L : qLc) (stk : List Value) (M : qMem) (Q : qPost) : Prop :=
  match stk with
    | .int x :: .int j :: .ref k :: st => shT k = 102 ∧ vp_in j (shL k) ∧ P y (i + 1) L st (pI M k j.toNatClampNeg (vp_nar .boolean x)) Q
    | _ => False
/-- arrays -/
def qSt5 (P : qSem) (y i : Nat) (o : qOp) (L : qLc) (stk : List Value) (M : qMem) (Q : qPost) : Prop :=
  match o.1 with
  | 40 => qx_40 P y i o L stk M Q
  | 41 => qx_41 P y i o L stk M Q
  | 42 => qx_42 P y i o L stk M Q
  | 43 => qx_43 P y i o L stk M Q
  | 44 => qx_44 P y i o L stk M Q
  | 45 => qx_45 P y i o L stk M Q
  | 46 => qx_46 P y i o L stk M Q
  | _ => qx_47 P y i o L stk M Q
def qx_48 (Ls : Nat) (xs : Nat → Int32) (P : qSem) (y i : Nat) (o : qOp) (L : qLc) (stk : List Value) (M : qMem) (Q : qPost) : Prop :=
  bif Nat.ble o.2.2.1 stk.length && (Nat.ble (csum (stk.drop o.2.2.1)) 8 && Nat.ble (csum (stk.take o.2.2.1)) (mL o.2.1)) then P o.2.1 0 (lv_args 0 (stk.take o.2.2.1).reverse) [] M (fun v M' => P y (i + 1) L (v.toList ++ stk.drop o.2.2.1) M' Q) else False
def qx_49 (Ls : Nat) (xs : Nat → Int32) (P : qSem) (y i : Nat) (o : qOp) (L : qLc) (stk : List Value) (M : qMem) (Q : qPost) : Prop :=
  match stk.drop o.2.2.1 with
    | .ref k :: st => bif Nat.ble o.2.2.1 stk.length && (Nat.ble (csum st) 8 && Nat.ble (csum (stk.take o.2.2.1) + 1) (mL o.2.1)) then shT k = o.2.2.2.1 ∧ P o.2.1 0 (lv_args 0 (.ref k :: (stk.take o.2.2.1).reverse)) [] M (fun v M' => P y (i + 1) L (v.toList ++ st) M' Q) else False
    | _ => False
def qx_50 (Ls : Nat) (xs : Nat → Int32) (P : qSem) (y i : Nat) (o : qOp) (L : qLc) (stk : List Value) (M : qMem) (Q : qPost) : Prop :=
  match stk with
    | [.int x] => Q (some (.int x)) M
    | _ => False
def qx_51 (Ls : Nat) (xs : Nat → Int32) (P : qSem) (y i : Nat) (o : qOp) (L : qLc) (stk : List Value) (M : qMem) (Q : qPost) : Prop :=
  match stk with
    | [.int x] => narrow .boolean (.int x) = .int x ∧ Q (some (.int x)) M
    | _ => False
def qx_52 (Ls : Nat) (xs : Nat → Int32) (P : qSem) (y i : Nat) (o : qOp) (L : qLc) (stk : List Value) (M : qMem) (Q : qPost) : Prop :=
  match stk with
    | [.long x] => Q (some (.long x)) M
    | _ => False
def qx_53 (Ls : Nat) (xs : Nat → Int32) (P : qSem) (y i : Nat) (o : qOp) (L : qLc) (stk : List Value) (M : qMem) (Q : qPost) : Prop :=
  match stk with
    | [.ref k] => Q (some (.ref k)) M
    | [.null] => Q (some .null) M
    | _ => False
def qx_54 (Ls : Nat) (xs : Nat → Int32) (P : qSem) (y i : Nat) (o : qOp) (L : qLc) (stk : List Value) (M : qMem) (Q : qPost) : Prop :=
  match stk with
    | [] => Q none M
    | _ => False
def qx_55 (Ls : Nat) (xs : Nat → Int32) (P : qSem) (y i : Nat) (o : qOp) (L : qLc) (stk : List Value) (M : qMem) (Q : qPost) : Prop :=
  match stk with
    | .ref k :: st => P y (i + 1) L (.ref k :: .ref k :: st) M Q
    | .int k :: st => P y (i + 1) L (.int k :: .int k :: st) M Q
    | _ => False
def qx_56 (Ls : Nat) (xs : Nat → Int32) (P : qSem) (y i : Nat) (o : qOp) (L : qLc) (stk : List Value) (M : qMem) (Q : qPost) : Prop :=
  match stk with
    | .int j :: .ref k :: st => P y (i + 1) L (.int j :: .ref k :: .int j :: .ref k :: st) M Q
    | _ => False
def qx_57 (Ls : Nat) (xs : Nat → Int32) (P : qSem) (y i : Nat) (o : qOp) (L : qLc) (stk : List Value) (M : qMem) (Q : qPost) : Prop :=
  match stk with
    | .long b :: .long a :: st => P y (i + 1) L (.long (a ^^^ b) :: st) M Q
    | _ => False
def qx_58 (Ls : Nat) (xs : Nat → Int32) (P : qSem) (y i : Nat) (o : qOp) (L : qLc) (stk : List Value) (M : qMem) (Q : qPost) : Prop :=
  match stk with
    | .int j :: .ref 1000 :: st => vp_in j Ls ∧ P y (i + 1) L (.int (xs j.toNatClampNeg) :: st) M Q
    | _ => False
def qx_59 (Ls : Nat) (xs : Nat → Int32) (P : qSem) (y i : Nat) (o : qOp) (L : qLc) (stk : List Value) (M : qMem) (Q : qPost) : Prop :=
  match stk with
    | .ref 1000 :: st => P y (i + 1) L (.int (Int32.ofNat Ls) :: st) M Q
    | _ => False
/-- calls, ends, the rest -/
def qSt6 (Ls : Nat) (xs : Nat → Int32) (P : qSem) (y i : Nat) (o : qOp) (L : qLc) (stk : List Value) (M : qMem) (Q : qPost) : Prop :=
  match o.1 with
  | 48 => qx_48 Ls xs P y i o L stk M Q
  | 49 => qx_49 Ls xs P y i o L stk M Q
  | 50 => qx_50 Ls xs P y i o L stk M Q
  | 51 => qx_51 Ls xs P y i o L stk M Q
  | 52 => qx_52 Ls xs P y i o L stk M Q
  | 53 => qx_53 Ls xs P y i o L stk M Q
  | 54 => qx_54 Ls xs P y i o L stk M Q
  | 55 => qx_55 Ls xs P y i o L stk M Q
  | 56 => qx_56 Ls xs P y i o L stk M Q
  | 57 => qx_57 Ls xs P y i o L stk M Q
  | 58 => qx_58 Ls xs P y i o L stk M Q
  | _ => qx_59 Ls xs P y i o L stk M Q
def qx_60 (P : qSem) (y i : Nat) (o : qOp) (L : qLc) (stk : List Value) (M : qMem) (Q : qPost) : Prop :=
  match stk with
    | .ref k :: st => shT k = o.2.1 ∧ P y (i + 1) L (.int (M.1 k o.2.2.1) :: st) M Q
    | _ => False
def qx_61 (P : qSem) (y i : Nat) (o : qOp) (L : qLc) (stk : List Value) (M : qMem) (Q : qPost) : Prop :=
  match stk with
    | .ref k :: st => shT k = o.2.1 ∧ P y (i + 1) L (.long (M.2 k o.2.2.1) :: st) M Q
    | _ => False
def qx_62 (P : qSem) (y i : Nat) (o : qOp) (L : qLc) (stk : List Value) (M : qMem) (Q : qPost) : Prop :=
  match stk with
    | .ref k :: st => shT k = o.2.1 ∧ P y (i + 1) L (.ref (rf k o.2.2.1) :: st) M Q
    | _ => False
def qx_65 (P : qSem) (y i : Nat) (o : qOp) (L : qLc) (stk : List Value) (M : qMem) (Q : qPost) : Prop :=
  match stk with
    | .int x :: .ref k :: st => shT k = o.2.1 ∧ narrow .boolean (.int x) = .int x ∧ P y (i + 1) L st (pI M k o.2.2.1 x) Q
    | _ => False
/-- nest mates' fields -/
def qSt7 (P : qSem) (y i : Nat) (o : qOp) (L : qLc) (stk : List Value) (M : qMem) (Q : qPost) : Prop :=
  match o.1 with
  | 60 => qx_60 P y i o L stk M Q
  | 61 => qx_61 P y i o L stk M Q
  | 62 => qx_62 P y i o L stk M Q
  | 65 => qx_65 P y i o L stk M Q
  | _ => False
def qStep (Ls : Nat) (xs : Nat → Int32) (P : qSem) (y i : Nat) (o : qOp) (L : qLc) (stk : List Value) (M : qMem) (Q : qPost) : Prop :=
  bif Nat.ble o.1 7 then qSt1 P y i o L stk M Q
  else bif Nat.ble o.1 27 then qSt2 P y i o L stk M Q
  else bif Nat.ble o.1 33 then qSt3 P y i o L stk M Q
  else bif Nat.ble o.1 39 then qSt4 P y i o L stk M Q
  else bif Nat.ble o.1 47 then qSt5 P y i o L stk M Q
  else bif Nat.ble o.1 59 then qSt6 Ls xs P y i o L stk M Q
  else qSt7 P y i o L stk M Q
/-- P holds wherever one step says so -/
def qClosed (Ls : Nat) (xs : Nat → Int32) (P : qSem) : Prop := ∀ (y i : Nat) (L : qLc) (stk : List Value) (M : qMem) (Q : qPost), qStep Ls xs P y i (qOp' y i) L stk M Q → P y i L stk M Q
end
section
/-! the abstract machine stands for the machine: the worlds and the judgement -/
theorem q_bq {a b : Nat} (h : Nat.beq a b = true) : a = b := Nat.eq_of_beq_eq_true h
def tr (ad : Nat → Nat) : Value → Value
  | .ref k => .ref (ad k)
  | v => v
def trS (ad : Nat → Nat) (st : List Value) : List Value := st.map (tr ad)
def trL (ad : Nat → Nat) (L : qLc) : List (Nat × Value) := L.map (fun q => (q.1, tr ad q.2))
theorem tr_cat (ad : Nat → Nat) (v : Value) : (tr ad v).category = v.category := by cases v <;> rfl
theorem trL_S1 (ad : Nat → Nat) (L : qLc) (i : Nat) (v : Value) : (i, tr ad v) :: (trL ad L).filter (fun q => !(q.1 == i) && !(q.1 + 1 == i && q.2.category == 2)) = trL ad (lcS1 L i v) := by
  simp only [trL, lcS1, List.map_cons, List.filter_map]
  congr 2
  congr 1
  funext q
  simp [Function.comp, tr_cat]
theorem trL_S2 (ad : Nat → Nat) (L : qLc) (i : Nat) (v : Value) : (i, tr ad v) :: (trL ad L).filter (fun q => !(q.1 == i) && (!(q.1 == i + 1) && !(q.1 + 1 == i && q.2.category == 2))) = trL ad (lcS2 L i v) := by
  simp only [trL, lcS2, List.map_cons, List.filter_map]
  congr 2
  congr 1
  funext q
  simp [Function.comp, tr_cat]
theorem lcG_mem {i : Nat} {v : Value} (hv : v ≠ .retAddr 0) : ∀ {L : qLc}, lcG i L = v → ∃ k : Nat, L[k]? = some (i, v) := by
  intro L
  induction L with
  | nil => intro h; exact absurd h.symm hv
  | cons q r ih =>
    intro h
    unfold lcG at h
    cases hq : (q.1 == i) with
    | true =>
      rw [hq] at h
      refine ⟨0, ?_⟩
      have h1 : q.1 = i := by simpa using hq
      have h2 : q.2 = v := h
      rw [← h1, ← h2]
      rfl
    | false =>
      rw [hq] at h
      obtain ⟨k, hk⟩ := ih h
      exact ⟨k + 1, by simpa using hk⟩
theorem lcG_at {ad : Nat → Nat} {ls : Array Slot} {n i : Nat} {L : qLc} {v : Value} (hl : lv_has ls n (trL ad L)) (h : lcG i L = v) (hv : v ≠ .retAddr 0) : ls[i]? = some (.val (tr ad v)) := by
  obtain ⟨k, hk⟩ := lcG_mem hv h
  refine lv_at hl k (i := i) (v := tr ad v) ?_
  unfold trL
  rw [List.getElem?_map, hk]
  rfl
theorem lcG_k {ad : Nat → Nat} {i : Nat} {L : qLc} {v : Value} (h : lcG i L = v) (hv : v ≠ .retAddr 0) : ∃ k : Nat, (trL ad L)[k]? = some (i, tr ad v) := by
  obtain ⟨k, hk⟩ := lcG_mem hv h
  refine ⟨k, ?_⟩
  unfold trL
  rw [List.getElem?_map, hk]
  rfl
theorem trA (ad : Nat → Nat) : ∀ (vs : List Value) (i : Nat), lv_args i (trS ad vs) = trL ad (lv_args i vs) := by
  intro vs
  induction vs with
  | nil => intro i; rfl
  | cons v r ih =>
    intro i
    show (i, tr ad v) :: lv_args (if (tr ad v).category = 2 then i + 2 else i + 1) (trS ad r) = (i, tr ad v) :: trL ad (lv_args (if v.category = 2 then i + 2 else i + 1) r)
    rw [tr_cat, ih]
theorem csum_tr (ad : Nat → Nat) (st : List Value) : csum (trS ad st) = csum st := by
  unfold csum trS
  rw [List.map_map]
  congr 1
  exact List.map_congr_left (fun v _ => tr_cat ad v)
theorem lg_slN (vs : List Value) : (lg_sl vs).length = csum vs := by
  induction vs with
  | nil => rfl
  | cons v r ih =>
    have e : lg_sl (v :: r) = (if v.category = 2 then [.val v, .second] else [.val v]) ++ lg_sl r := rfl
    rw [e, List.length_append, ih]
    have e2 : csum (v :: r) = v.category + csum r := by simp [csum]
    rw [e2]
    rcases lv_cat v with h | h <;> rw [h] <;> rfl
theorem trS_rev (ad : Nat → Nat) (st : List Value) : trS ad st.reverse = (trS ad st).reverse := by simp [trS]
theorem trS_app (ad : Nat → Nat) (a b : List Value) : trS ad (a ++ b) = trS ad a ++ trS ad b := by simp [trS]
/-- words that every callee may have -/
def qT : List Cond := lw_tbl.filter goodWord
theorem tbw_T {i : Nat} {w : Cond} (h : tbw i w = true) (hg : goodWord w = true) : w ∈ qT := by
  have h1 : lw_tbl[i]? = some w := by simpa [tbw] using h
  exact List.mem_filter.mpr ⟨List.mem_of_getElem? h1, hg⟩
theorem qT_good : ∀ w ∈ qT, w ∈ qT ∧ ((w.onTables && w.keeps) = true ∨ ∃ ty, w = .arrayClass ty) := fun w hw => ⟨hw, good_of_word (List.mem_filter.mp hw).2⟩
/-- memory as cells -/
def fv (ad : Nat → Nat) (M : qMem) (ci k j : Nat) : Value := match fk ci j with
  | 0 => .int (M.1 k j)
  | 1 => .long (M.2 k j)
  | _ => .ref (ad (rf k j))
def ent (ad : Nat → Nat) (aC : Nat → ClassId) (M : qMem) (k : Nat) : va_E := match shT k with
  | 100 => .inl (aC 0, shL k, .inl (M.1 k))
  | 101 => .inl (aC 1, shL k, .inr (.inl (M.2 k)))
  | 102 => .inl (aC 2, shL k, .inl (M.1 k))
  | 103 => .inl (aC 3, shL k, .inr (.inr (.inr (.inr (fun j => some (ad (rf k j)))))))
  | 104 => .inl (aC 4, shL k, .inr (.inr (.inr (.inr (fun j => some (ad (rf k j)))))))
  | ci => .inr (ci, (List.range (cN ci)).map (fv ad M ci k))
theorem ent_o {ad : Nat → Nat} {aC : Nat → ClassId} {M : qMem} {k ci : Nat} (h : shT k = ci) (hc : ci < 8) : ent ad aC M k = .inr (ci, (List.range (cN ci)).map (fv ad M ci k)) := by
  unfold ent
  rw [h]
  split <;> first | omega | rfl
theorem ent_100 {ad : Nat → Nat} {aC : Nat → ClassId} {M : qMem} {k : Nat} (h : shT k = 100) : ent ad aC M k = .inl (aC 0, shL k, .inl (M.1 k)) := by unfold ent; rw [h]; rfl
theorem ent_101 {ad : Nat → Nat} {aC : Nat → ClassId} {M : qMem} {k : Nat} (h : shT k = 101) : ent ad aC M k = .inl (aC 1, shL k, .inr (.inl (M.2 k))) := by unfold ent; rw [h]; rfl
theorem ent_102 {ad : Nat → Nat} {aC : Nat → ClassId} {M : qMem} {k : Nat} (h : shT k = 102) : ent ad aC M k = .inl (aC 2, shL k, .inl (M.1 k)) := by unfold ent; rw [h]; rfl
theorem ent_103 {ad : Nat → Nat} {aC : Nat → ClassId} {M : qMem} {k : Nat} (h : shT k = 103) : ent ad aC M k = .inl (aC 3, shL k, .inr (.inr (.inr (.inr (fun j => some (ad (rf k j))))))) := by unfold ent; rw [h]; rfl
theorem ent_104 {ad : Nat → Nat} {aC : Nat → ClassId} {M : qMem} {k : Nat} (h : shT k = 104) : ent ad aC M k = .inl (aC 4, shL k, .inr (.inr (.inr (.inr (fun j => some (ad (rf k j))))))) := by unfold ent; rw [h]; rfl
theorem sh_lt {k : Nat} (h : shT k ≤ 104) : k < 44 := by
  rcases Nat.lt_or_ge k 44 with q | q
  · exact q
  · have e : shTl.getD k (200, 0) = (200, 0) := by
      rw [List.getD_eq_getElem?_getD, List.getElem?_eq_none (by exact q)]
      rfl
    unfold shT at h
    rw [e] at h
    exact absurd h (by decide)
def wl (ad : Nat → Nat) (aC : Nat → ClassId) (M : qMem) : va_W := (List.range 44).map (fun k => (ad k, ent ad aC M k))
theorem wl_get {ad : Nat → Nat} {aC : Nat → ClassId} {M : qMem} {k : Nat} (h : k < 44) : (wl ad aC M)[k]? = some (ad k, ent ad aC M k) := by
  unfold wl
  rw [List.getElem?_map, List.getElem?_range h]
  rfl
theorem wl_set {ad : Nat → Nat} {aC : Nat → ClassId} {M M' : qMem} {k : Nat} {e : va_E} (hk : k < 44) (he : ent ad aC M' k = e) (ho : ∀ k', k' ≠ k → ent ad aC M' k' = ent ad aC M k') : (wl ad aC M).set k (ad k, e) = wl ad aC M' := by
  apply List.ext_getElem?
  intro j
  rw [List.getElem?_set]
  have hlen : (wl ad aC M).length = 44 := by simp [wl]
  have hlen' : (wl ad aC M').length = 44 := by simp [wl]
  by_cases hj : k = j
  · subst hj
    rw [if_pos rfl, if_pos (by omega), wl_get hk, he]
  · rw [if_neg hj]
    rcases Nat.lt_or_ge j 44 with q | q
    · rw [wl_get q, wl_get q, ho j (fun z => hj z.symm)]
    · rw [List.getElem?_eq_none (by omega), List.getElem?_eq_none (by omega)]
theorem ent_eq {ad : Nat → Nat} {aC : Nat → ClassId} {M M' : qMem} {k : Nat} (h1 : M'.1 k = M.1 k) (h2 : M'.2 k = M.2 k) : ent ad aC M' k = ent ad aC M k := by
  unfold ent fv
  simp only [h1, h2]
theorem pI_o {M : qMem} {k j : Nat} {x : Int32} {k' : Nat} (h : k' ≠ k) : (pI M k j x).1 k' = M.1 k' := by
  funext b
  show (if k' = k ∧ b = j then x else M.1 k' b) = _
  rw [if_neg (fun q => h q.1)]
theorem pJ_o {M : qMem} {k j : Nat} {x : Int64} {k' : Nat} (h : k' ≠ k) : (pJ M k j x).2 k' = M.2 k' := by
  funext b
  show (if k' = k ∧ b = j then x else M.2 k' b) = _
  rw [if_neg (fun q => h q.1)]
theorem ent_pI {ad : Nat → Nat} {aC : Nat → ClassId} {M : qMem} {k j : Nat} {x : Int32} {k' : Nat} (h : k' ≠ k) : ent ad aC (pI M k j x) k' = ent ad aC M k' := ent_eq (pI_o h) rfl
theorem ent_pJ {ad : Nat → Nat} {aC : Nat → ClassId} {M : qMem} {k j : Nat} {x : Int64} {k' : Nat} (h : k' ≠ k) : ent ad aC (pJ M k j x) k' = ent ad aC M k' := ent_eq rfl (pJ_o h)
theorem pI_s {M : qMem} {k j : Nat} {x : Int32} : (pI M k j x).1 k = upd (M.1 k) j x := by
  funext b
  show (if k = k ∧ b = j then x else M.1 k b) = if b = j then x else M.1 k b
  simp
theorem pJ_s {M : qMem} {k j : Nat} {x : Int64} : (pJ M k j x).2 k = vp_updL (M.2 k) j x := by
  funext b
  show (if k = k ∧ b = j then x else M.2 k b) = if b = j then x else M.2 k b
  simp
theorem q_setmap {α : Type} {f g : Nat → α} {n j : Nat} (h1 : ∀ i, i ≠ j → g i = f i) : ((List.range n).map f).set j (g j) = (List.range n).map g := by
  apply List.ext_getElem?
  intro i
  rw [List.getElem?_set]
  by_cases hj : j = i
  · subst hj
    rw [if_pos rfl]
    rcases Nat.lt_or_ge j n with q | q
    · rw [if_pos (by simpa using q), List.getElem?_map, List.getElem?_range q]
      rfl
    · rw [if_neg (by simpa using q), List.getElem?_eq_none (by simpa using q)]
  · rw [if_neg hj]
    rcases Nat.lt_or_ge i n with q | q
    · rw [List.getElem?_map, List.getElem?_map, List.getElem?_range q]
      show some (f i) = some (g i)
      rw [h1 i (fun z => hj z.symm)]
    · rw [List.getElem?_eq_none (by simpa using q), List.getElem?_eq_none (by simpa using q)]
theorem fv_pI {ad : Nat → Nat} {M : qMem} {ci k j : Nat} {x : Int32} (hf : fk ci j = 0) : ((List.range (cN ci)).map (fv ad M ci k)).set j (.int x) = (List.range (cN ci)).map (fv ad (pI M k j x) ci k) := by
  have e : Value.int x = fv ad (pI M k j x) ci k j := by
    unfold fv
    rw [hf]
    show Value.int x = Value.int (if k = k ∧ j = j then x else M.1 k j)
    simp
  rw [e]
  refine q_setmap (fun i hi => ?_)
  unfold fv
  have e2 : (pI M k j x).1 k i = M.1 k i := by
    show (if k = k ∧ i = j then x else M.1 k i) = _
    simp [hi]
  rw [e2]
  rfl
theorem fv_pJ {ad : Nat → Nat} {M : qMem} {ci k j : Nat} {x : Int64} (hf : fk ci j = 1) : ((List.range (cN ci)).map (fv ad M ci k)).set j (.long x) = (List.range (cN ci)).map (fv ad (pJ M k j x) ci k) := by
  have e : Value.long x = fv ad (pJ M k j x) ci k j := by
    unfold fv
    rw [hf]
    show Value.long x = Value.long (if k = k ∧ j = j then x else M.2 k j)
    simp
  rw [e]
  refine q_setmap (fun i hi => ?_)
  unfold fv
  have e2 : (pJ M k j x).2 k i = M.2 k i := by
    show (if k = k ∧ i = j then x else M.2 k i) = _
    simp [hi]
  rw [e2]
  rfl
/-- classes' facts -/
def cY (ci k : Nat) : FieldType := (parseFieldDescriptor (cT ci k).2.2.1).getD .int
theorem cls_c : ∀ ci, ci < 8 → vwCl[ci]? = some (cC ci, cT ci, cN ci) := by
  intro ci h
  rcases (show ci = 0 ∨ ci = 1 ∨ ci = 2 ∨ ci = 3 ∨ ci = 4 ∨ ci = 5 ∨ ci = 6 ∨ ci = 7 by omega) with rfl | rfl | rfl | rfl | rfl | rfl | rfl | rfl <;> rfl
set_option maxRecDepth 100000 in
theorem cls_t : ∀ ci, ci < 8 → ∀ k, k < cN ci → parseFieldDescriptor (cT ci k).2.2.1 = some (cY ci k) := by decide +kernel
set_option maxRecDepth 100000 in
theorem cls_n : ∀ ci, ci < 8 → ∀ a, a < cN ci → ∀ b, b < cN ci → a ≠ b → (cT ci a).2.1 ≠ (cT ci b).2.1 := by decide +kernel
set_option maxRecDepth 100000 in
theorem cls_w : ∀ ci, ci < 8 → ∀ w ∈ u_ws (cC ci) (cT ci) (cN ci), w ∈ qT := by decide +kernel
set_option maxRecDepth 100000 in
theorem met_o : ∀ y, y < 156 → mO y = (mN y).cls ∧ pcA y 0 = 0 ∧ plainFor (mN y) = true := by decide +kernel
section QG
variable {Ls : Nat} {xs : Nat → Int32} {P : qSem} {y i : Nat} {o : qOp} {L : qLc} {stk : List Value} {M : qMem} {Q : qPost}
theorem q_g1 (h : qStep Ls xs P y i o L stk M Q) (h1 : Nat.ble o.1 7 = true) : qSt1 P y i o L stk M Q := by
  unfold qStep at h
  rw [h1] at h
  exact h
theorem q_g2 (h : qStep Ls xs P y i o L stk M Q) (h1 : Nat.ble o.1 7 = false) (h2 : Nat.ble o.1 27 = true) : qSt2 P y i o L stk M Q := by
  unfold qStep at h
  rw [h1, h2] at h
  exact h
theorem q_g3 (h : qStep Ls xs P y i o L stk M Q) (h1 : Nat.ble o.1 7 = false) (h2 : Nat.ble o.1 27 = false) (h3 : Nat.ble o.1 33 = true) : qSt3 P y i o L stk M Q := by
  unfold qStep at h
  rw [h1, h2, h3] at h
  exact h
theorem q_g4 (h : qStep Ls xs P y i o L stk M Q) (h1 : Nat.ble o.1 7 = false) (h2 : Nat.ble o.1 27 = false) (h3 : Nat.ble o.1 33 = false) (h4 : Nat.ble o.1 39 = true) : qSt4 P y i o L stk M Q := by
  unfold qStep at h
  rw [h1, h2, h3, h4] at h
  exact h
theorem q_g5 (h : qStep Ls xs P y i o L stk M Q) (h1 : Nat.ble o.1 7 = false) (h2 : Nat.ble o.1 27 = false) (h3 : Nat.ble o.1 33 = false) (h4 : Nat.ble o.1 39 = false) (h5 : Nat.ble o.1 47 = true) : qSt5 P y i o L stk M Q := by
  unfold qStep at h
  rw [h1, h2, h3, h4, h5] at h
  exact h
theorem q_g6 (h : qStep Ls xs P y i o L stk M Q) (h1 : Nat.ble o.1 7 = false) (h2 : Nat.ble o.1 27 = false) (h3 : Nat.ble o.1 33 = false) (h4 : Nat.ble o.1 39 = false) (h5 : Nat.ble o.1 47 = false) (h6 : Nat.ble o.1 59 = true) : qSt6 Ls xs P y i o L stk M Q := by
  unfold qStep at h
  rw [h1, h2, h3, h4, h5, h6] at h
  exact h
theorem q_g7 (h : qStep Ls xs P y i o L stk M Q) (h1 : Nat.ble o.1 7 = false) (h2 : Nat.ble o.1 27 = false) (h3 : Nat.ble o.1 33 = false) (h4 : Nat.ble o.1 39 = false) (h5 : Nat.ble o.1 47 = false) (h6 : Nat.ble o.1 59 = false) : qSt7 P y i o L stk M Q := by
  unfold qStep at h
  rw [h1, h2, h3, h4, h5, h6] at h
  exact h
end QG
theorem q_fitZ {x : Int32} (h : narrow .boolean (.int x) = .int x) : fits .boolean (.int x) = true := by
  have e : x &&& 1 = x := by
    have h2 : Value.int (x &&& 1) = Value.int x := h
    exact Value.int.inj h2
  show (x == 0 || x == 1) = true
  rw [← e]
  obtain ⟨j, hj, hx⟩ := pk_andE x (m := 1) 1 (by decide)
  rw [hx]
  rcases (show j = 0 ∨ j = 1 by omega) with rfl | rfl <;> rfl
end
section
/-! the code words, by their places -/
set_option maxRecDepth 100000 in
theorem cw_0 : lw_tbl[457]? = some (Cond.code (mN 0) (mB 0) (mL 0) (mR 0)) := rfl
set_option maxRecDepth 100000 in
theorem cw_1 : lw_tbl[450]? = some (Cond.code (mN 1) (mB 1) (mL 1) (mR 1)) := rfl
set_option maxRecDepth 100000 in
theorem cw_2 : lw_tbl[489]? = some (Cond.code (mN 2) (mB 2) (mL 2) (mR 2)) := rfl
set_option maxRecDepth 100000 in
theorem cw_3 : lw_tbl[478]? = some (Cond.code (mN 3) (mB 3) (mL 3) (mR 3)) := rfl
set_option maxRecDepth 100000 in
theorem cw_4 : lw_tbl[466]? = some (Cond.code (mN 4) (mB 4) (mL 4) (mR 4)) := rfl
set_option maxRecDepth 100000 in
theorem cw_5 : lw_tbl[453]? = some (Cond.code (mN 5) (mB 5) (mL 5) (mR 5)) := rfl
set_option maxRecDepth 100000 in
theorem cw_6 : lw_tbl[364]? = some (Cond.code (mN 6) (mB 6) (mL 6) (mR 6)) := rfl
set_option maxRecDepth 100000 in
theorem cw_7 : lw_tbl[215]? = some (Cond.code (mN 7) (mB 7) (mL 7) (mR 7)) := rfl
set_option maxRecDepth 100000 in
theorem cw_8 : lw_tbl[368]? = some (Cond.code (mN 8) (mB 8) (mL 8) (mR 8)) := rfl
set_option maxRecDepth 100000 in
theorem cw_9 : lw_tbl[219]? = some (Cond.code (mN 9) (mB 9) (mL 9) (mR 9)) := rfl
set_option maxRecDepth 100000 in
theorem cw_10 : lw_tbl[534]? = some (Cond.code (mN 10) (mB 10) (mL 10) (mR 10)) := rfl
set_option maxRecDepth 100000 in
theorem cw_11 : lw_tbl[540]? = some (Cond.code (mN 11) (mB 11) (mL 11) (mR 11)) := rfl
set_option maxRecDepth 100000 in
theorem cw_12 : lw_tbl[544]? = some (Cond.code (mN 12) (mB 12) (mL 12) (mR 12)) := rfl
set_option maxRecDepth 100000 in
theorem cw_13 : lw_tbl[563]? = some (Cond.code (mN 13) (mB 13) (mL 13) (mR 13)) := rfl
set_option maxRecDepth 100000 in
theorem cw_14 : lw_tbl[559]? = some (Cond.code (mN 14) (mB 14) (mL 14) (mR 14)) := rfl
set_option maxRecDepth 100000 in
theorem cw_15 : lw_tbl[551]? = some (Cond.code (mN 15) (mB 15) (mL 15) (mR 15)) := rfl
set_option maxRecDepth 100000 in
theorem cw_16 : lw_tbl[555]? = some (Cond.code (mN 16) (mB 16) (mL 16) (mR 16)) := rfl
set_option maxRecDepth 100000 in
theorem cw_17 : lw_tbl[210]? = some (Cond.code (mN 17) (mB 17) (mL 17) (mR 17)) := rfl
set_option maxRecDepth 100000 in
theorem cw_18 : lw_tbl[255]? = some (Cond.code (mN 18) (mB 18) (mL 18) (mR 18)) := rfl
set_option maxRecDepth 100000 in
theorem cw_19 : lw_tbl[273]? = some (Cond.code (mN 19) (mB 19) (mL 19) (mR 19)) := rfl
set_option maxRecDepth 100000 in
theorem cw_20 : lw_tbl[232]? = some (Cond.code (mN 20) (mB 20) (mL 20) (mR 20)) := rfl
set_option maxRecDepth 100000 in
theorem cw_21 : lw_tbl[260]? = some (Cond.code (mN 21) (mB 21) (mL 21) (mR 21)) := rfl
set_option maxRecDepth 100000 in
theorem cw_22 : lw_tbl[237]? = some (Cond.code (mN 22) (mB 22) (mL 22) (mR 22)) := rfl
set_option maxRecDepth 100000 in
theorem cw_23 : lw_tbl[247]? = some (Cond.code (mN 23) (mB 23) (mL 23) (mR 23)) := rfl
set_option maxRecDepth 100000 in
theorem cw_24 : lw_tbl[227]? = some (Cond.code (mN 24) (mB 24) (mL 24) (mR 24)) := rfl
set_option maxRecDepth 100000 in
theorem cw_25 : lw_tbl[223]? = some (Cond.code (mN 25) (mB 25) (mL 25) (mR 25)) := rfl
set_option maxRecDepth 100000 in
theorem cw_26 : lw_tbl[376]? = some (Cond.code (mN 26) (mB 26) (mL 26) (mR 26)) := rfl
set_option maxRecDepth 100000 in
theorem cw_27 : lw_tbl[380]? = some (Cond.code (mN 27) (mB 27) (mL 27) (mR 27)) := rfl
set_option maxRecDepth 100000 in
theorem cw_28 : lw_tbl[384]? = some (Cond.code (mN 28) (mB 28) (mL 28) (mR 28)) := rfl
set_option maxRecDepth 100000 in
theorem cw_29 : lw_tbl[391]? = some (Cond.code (mN 29) (mB 29) (mL 29) (mR 29)) := rfl
set_option maxRecDepth 100000 in
theorem cw_30 : lw_tbl[399]? = some (Cond.code (mN 30) (mB 30) (mL 30) (mR 30)) := rfl
set_option maxRecDepth 100000 in
theorem cw_31 : lw_tbl[395]? = some (Cond.code (mN 31) (mB 31) (mL 31) (mR 31)) := rfl
set_option maxRecDepth 100000 in
theorem cw_32 : lw_tbl[348]? = some (Cond.code (mN 32) (mB 32) (mL 32) (mR 32)) := rfl
set_option maxRecDepth 100000 in
theorem cw_33 : lw_tbl[278]? = some (Cond.code (mN 33) (mB 33) (mL 33) (mR 33)) := rfl
set_option maxRecDepth 100000 in
theorem cw_34 : lw_tbl[340]? = some (Cond.code (mN 34) (mB 34) (mL 34) (mR 34)) := rfl
set_option maxRecDepth 100000 in
theorem cw_35 : lw_tbl[303]? = some (Cond.code (mN 35) (mB 35) (mL 35) (mR 35)) := rfl
set_option maxRecDepth 100000 in
theorem cw_36 : lw_tbl[307]? = some (Cond.code (mN 36) (mB 36) (mL 36) (mR 36)) := rfl
set_option maxRecDepth 100000 in
theorem cw_37 : lw_tbl[312]? = some (Cond.code (mN 37) (mB 37) (mL 37) (mR 37)) := rfl
set_option maxRecDepth 100000 in
theorem cw_38 : lw_tbl[316]? = some (Cond.code (mN 38) (mB 38) (mL 38) (mR 38)) := rfl
set_option maxRecDepth 100000 in
theorem cw_39 : lw_tbl[320]? = some (Cond.code (mN 39) (mB 39) (mL 39) (mR 39)) := rfl
set_option maxRecDepth 100000 in
theorem cw_40 : lw_tbl[408]? = some (Cond.code (mN 40) (mB 40) (mL 40) (mR 40)) := rfl
set_option maxRecDepth 100000 in
theorem cw_41 : lw_tbl[548]? = some (Cond.code (mN 41) (mB 41) (mL 41) (mR 41)) := rfl
set_option maxRecDepth 100000 in
theorem cw_42 : lw_tbl[518]? = some (Cond.code (mN 42) (mB 42) (mL 42) (mR 42)) := rfl
set_option maxRecDepth 100000 in
theorem cw_43 : lw_tbl[526]? = some (Cond.code (mN 43) (mB 43) (mL 43) (mR 43)) := rfl
set_option maxRecDepth 100000 in
theorem cw_44 : lw_tbl[200]? = some (Cond.code (mN 44) (mB 44) (mL 44) (mR 44)) := rfl
set_option maxRecDepth 100000 in
theorem cw_45 : lw_tbl[242]? = some (Cond.code (mN 45) (mB 45) (mL 45) (mR 45)) := rfl
set_option maxRecDepth 100000 in
theorem cw_46 : lw_tbl[251]? = some (Cond.code (mN 46) (mB 46) (mL 46) (mR 46)) := rfl
set_option maxRecDepth 100000 in
theorem cw_47 : lw_tbl[264]? = some (Cond.code (mN 47) (mB 47) (mL 47) (mR 47)) := rfl
set_option maxRecDepth 100000 in
theorem cw_48 : lw_tbl[269]? = some (Cond.code (mN 48) (mB 48) (mL 48) (mR 48)) := rfl
set_option maxRecDepth 100000 in
theorem cw_49 : lw_tbl[295]? = some (Cond.code (mN 49) (mB 49) (mL 49) (mR 49)) := rfl
set_option maxRecDepth 100000 in
theorem cw_50 : lw_tbl[299]? = some (Cond.code (mN 50) (mB 50) (mL 50) (mR 50)) := rfl
set_option maxRecDepth 100000 in
theorem cw_51 : lw_tbl[331]? = some (Cond.code (mN 51) (mB 51) (mL 51) (mR 51)) := rfl
set_option maxRecDepth 100000 in
theorem cw_52 : lw_tbl[344]? = some (Cond.code (mN 52) (mB 52) (mL 52) (mR 52)) := rfl
set_option maxRecDepth 100000 in
theorem cw_53 : lw_tbl[356]? = some (Cond.code (mN 53) (mB 53) (mL 53) (mR 53)) := rfl
set_option maxRecDepth 100000 in
theorem cw_54 : lw_tbl[360]? = some (Cond.code (mN 54) (mB 54) (mL 54) (mR 54)) := rfl
set_option maxRecDepth 100000 in
theorem cw_55 : lw_tbl[372]? = some (Cond.code (mN 55) (mB 55) (mL 55) (mR 55)) := rfl
set_option maxRecDepth 100000 in
theorem cw_56 : lw_tbl[412]? = some (Cond.code (mN 56) (mB 56) (mL 56) (mR 56)) := rfl
set_option maxRecDepth 100000 in
theorem cw_57 : lw_tbl[416]? = some (Cond.code (mN 57) (mB 57) (mL 57) (mR 57)) := rfl
set_option maxRecDepth 100000 in
theorem cw_58 : lw_tbl[426]? = some (Cond.code (mN 58) (mB 58) (mL 58) (mR 58)) := rfl
set_option maxRecDepth 100000 in
theorem cw_59 : lw_tbl[430]? = some (Cond.code (mN 59) (mB 59) (mL 59) (mR 59)) := rfl
set_option maxRecDepth 100000 in
theorem cw_60 : lw_tbl[461]? = some (Cond.code (mN 60) (mB 60) (mL 60) (mR 60)) := rfl
set_option maxRecDepth 100000 in
theorem cw_61 : lw_tbl[474]? = some (Cond.code (mN 61) (mB 61) (mL 61) (mR 61)) := rfl
set_option maxRecDepth 100000 in
theorem cw_62 : lw_tbl[485]? = some (Cond.code (mN 62) (mB 62) (mL 62) (mR 62)) := rfl
set_option maxRecDepth 100000 in
theorem cw_63 : lw_tbl[493]? = some (Cond.code (mN 63) (mB 63) (mL 63) (mR 63)) := rfl
set_option maxRecDepth 100000 in
theorem cw_64 : lw_tbl[502]? = some (Cond.code (mN 64) (mB 64) (mL 64) (mR 64)) := rfl
set_option maxRecDepth 100000 in
theorem cw_65 : lw_tbl[510]? = some (Cond.code (mN 65) (mB 65) (mL 65) (mR 65)) := rfl
set_option maxRecDepth 100000 in
theorem cw_66 : lw_tbl[514]? = some (Cond.code (mN 66) (mB 66) (mL 66) (mR 66)) := rfl
set_option maxRecDepth 100000 in
theorem cw_67 : lw_tbl[522]? = some (Cond.code (mN 67) (mB 67) (mL 67) (mR 67)) := rfl
set_option maxRecDepth 100000 in
theorem cw_68 : lw_tbl[530]? = some (Cond.code (mN 68) (mB 68) (mL 68) (mR 68)) := rfl
set_option maxRecDepth 100000 in
theorem cw_69 : lw_tbl[569]? = some (Cond.code (mN 69) (mB 69) (mL 69) (mR 69)) := rfl
set_option maxRecDepth 100000 in
theorem cw_70 : lw_tbl[573]? = some (Cond.code (mN 70) (mB 70) (mL 70) (mR 70)) := rfl
set_option maxRecDepth 100000 in
theorem cw_71 : lw_tbl[581]? = some (Cond.code (mN 71) (mB 71) (mL 71) (mR 71)) := rfl
set_option maxRecDepth 100000 in
theorem cw_72 : lw_tbl[203]? = some (Cond.code (mN 72) (mB 72) (mL 72) (mR 72)) := rfl
set_option maxRecDepth 100000 in
theorem cw_73 : lw_tbl[334]? = some (Cond.code (mN 73) (mB 73) (mL 73) (mR 73)) := rfl
set_option maxRecDepth 100000 in
theorem cw_74 : lw_tbl[419]? = some (Cond.code (mN 74) (mB 74) (mL 74) (mR 74)) := rfl
set_option maxRecDepth 100000 in
theorem cw_75 : lw_tbl[422]? = some (Cond.code (mN 75) (mB 75) (mL 75) (mR 75)) := rfl
set_option maxRecDepth 100000 in
theorem cw_76 : lw_tbl[433]? = some (Cond.code (mN 76) (mB 76) (mL 76) (mR 76)) := rfl
set_option maxRecDepth 100000 in
theorem cw_77 : lw_tbl[577]? = some (Cond.code (mN 77) (mB 77) (mL 77) (mR 77)) := rfl
set_option maxRecDepth 100000 in
theorem cw_78 : lw_tbl[286]? = some (Cond.code (mN 78) (mB 78) (mL 78) (mR 78)) := rfl
set_option maxRecDepth 100000 in
theorem cw_79 : lw_tbl[290]? = some (Cond.code (mN 79) (mB 79) (mL 79) (mR 79)) := rfl
set_option maxRecDepth 100000 in
theorem cw_80 : lw_tbl[324]? = some (Cond.code (mN 80) (mB 80) (mL 80) (mR 80)) := rfl
set_option maxRecDepth 100000 in
theorem cw_81 : lw_tbl[352]? = some (Cond.code (mN 81) (mB 81) (mL 81) (mR 81)) := rfl
set_option maxRecDepth 100000 in
theorem cw_82 : lw_tbl[404]? = some (Cond.code (mN 82) (mB 82) (mL 82) (mR 82)) := rfl
set_option maxRecDepth 100000 in
theorem cw_83 : lw_tbl[438]? = some (Cond.code (mN 83) (mB 83) (mL 83) (mR 83)) := rfl
set_option maxRecDepth 100000 in
theorem cw_84 : lw_tbl[441]? = some (Cond.code (mN 84) (mB 84) (mL 84) (mR 84)) := rfl
set_option maxRecDepth 100000 in
theorem cw_85 : lw_tbl[445]? = some (Cond.code (mN 85) (mB 85) (mL 85) (mR 85)) := rfl
set_option maxRecDepth 100000 in
theorem cw_86 : lw_tbl[470]? = some (Cond.code (mN 86) (mB 86) (mL 86) (mR 86)) := rfl
set_option maxRecDepth 100000 in
theorem cw_87 : lw_tbl[497]? = some (Cond.code (mN 87) (mB 87) (mL 87) (mR 87)) := rfl
set_option maxRecDepth 100000 in
theorem cw_88 : lw_tbl[505]? = some (Cond.code (mN 88) (mB 88) (mL 88) (mR 88)) := rfl
set_option maxRecDepth 100000 in
theorem cw_89 : lw_tbl[673]? = some (Cond.code (mN 89) (mB 89) (mL 89) (mR 89)) := rfl
set_option maxRecDepth 100000 in
theorem cw_90 : lw_tbl[661]? = some (Cond.code (mN 90) (mB 90) (mL 90) (mR 90)) := rfl
set_option maxRecDepth 100000 in
theorem cw_91 : lw_tbl[681]? = some (Cond.code (mN 91) (mB 91) (mL 91) (mR 91)) := rfl
set_option maxRecDepth 100000 in
theorem cw_92 : lw_tbl[693]? = some (Cond.code (mN 92) (mB 92) (mL 92) (mR 92)) := rfl
set_option maxRecDepth 100000 in
theorem cw_93 : lw_tbl[666]? = some (Cond.code (mN 93) (mB 93) (mL 93) (mR 93)) := rfl
set_option maxRecDepth 100000 in
theorem cw_94 : lw_tbl[654]? = some (Cond.code (mN 94) (mB 94) (mL 94) (mR 94)) := rfl
set_option maxRecDepth 100000 in
theorem cw_95 : lw_tbl[701]? = some (Cond.code (mN 95) (mB 95) (mL 95) (mR 95)) := rfl
set_option maxRecDepth 100000 in
theorem cw_96 : lw_tbl[651]? = some (Cond.code (mN 96) (mB 96) (mL 96) (mR 96)) := rfl
set_option maxRecDepth 100000 in
theorem cw_97 : lw_tbl[670]? = some (Cond.code (mN 97) (mB 97) (mL 97) (mR 97)) := rfl
set_option maxRecDepth 100000 in
theorem cw_98 : lw_tbl[677]? = some (Cond.code (mN 98) (mB 98) (mL 98) (mR 98)) := rfl
set_option maxRecDepth 100000 in
theorem cw_99 : lw_tbl[685]? = some (Cond.code (mN 99) (mB 99) (mL 99) (mR 99)) := rfl
set_option maxRecDepth 100000 in
theorem cw_100 : lw_tbl[705]? = some (Cond.code (mN 100) (mB 100) (mL 100) (mR 100)) := rfl
set_option maxRecDepth 100000 in
theorem cw_101 : lw_tbl[698]? = some (Cond.code (mN 101) (mB 101) (mL 101) (mR 101)) := rfl
set_option maxRecDepth 100000 in
theorem cw_102 : lw_tbl[689]? = some (Cond.code (mN 102) (mB 102) (mL 102) (mR 102)) := rfl
set_option maxRecDepth 100000 in
theorem cw_103 : lw_tbl[710]? = some (Cond.code (mN 103) (mB 103) (mL 103) (mR 103)) := rfl
set_option maxRecDepth 100000 in
theorem cw_104 : lw_tbl[716]? = some (Cond.code (mN 104) (mB 104) (mL 104) (mR 104)) := rfl
set_option maxRecDepth 100000 in
theorem cw_105 : lw_tbl[748]? = some (Cond.code (mN 105) (mB 105) (mL 105) (mR 105)) := rfl
set_option maxRecDepth 100000 in
theorem cw_106 : lw_tbl[744]? = some (Cond.code (mN 106) (mB 106) (mL 106) (mR 106)) := rfl
set_option maxRecDepth 100000 in
theorem cw_107 : lw_tbl[740]? = some (Cond.code (mN 107) (mB 107) (mL 107) (mR 107)) := rfl
set_option maxRecDepth 100000 in
theorem cw_108 : lw_tbl[756]? = some (Cond.code (mN 108) (mB 108) (mL 108) (mR 108)) := rfl
set_option maxRecDepth 100000 in
theorem cw_109 : lw_tbl[760]? = some (Cond.code (mN 109) (mB 109) (mL 109) (mR 109)) := rfl
set_option maxRecDepth 100000 in
theorem cw_110 : lw_tbl[752]? = some (Cond.code (mN 110) (mB 110) (mL 110) (mR 110)) := rfl
set_option maxRecDepth 100000 in
theorem cw_111 : lw_tbl[764]? = some (Cond.code (mN 111) (mB 111) (mL 111) (mR 111)) := rfl
set_option maxRecDepth 100000 in
theorem cw_112 : lw_tbl[768]? = some (Cond.code (mN 112) (mB 112) (mL 112) (mR 112)) := rfl
set_option maxRecDepth 100000 in
theorem cw_113 : lw_tbl[784]? = some (Cond.code (mN 113) (mB 113) (mL 113) (mR 113)) := rfl
set_option maxRecDepth 100000 in
theorem cw_114 : lw_tbl[776]? = some (Cond.code (mN 114) (mB 114) (mL 114) (mR 114)) := rfl
set_option maxRecDepth 100000 in
theorem cw_115 : lw_tbl[780]? = some (Cond.code (mN 115) (mB 115) (mL 115) (mR 115)) := rfl
set_option maxRecDepth 100000 in
theorem cw_116 : lw_tbl[788]? = some (Cond.code (mN 116) (mB 116) (mL 116) (mR 116)) := rfl
set_option maxRecDepth 100000 in
theorem cw_117 : lw_tbl[772]? = some (Cond.code (mN 117) (mB 117) (mL 117) (mR 117)) := rfl
set_option maxRecDepth 100000 in
theorem cw_118 : lw_tbl[792]? = some (Cond.code (mN 118) (mB 118) (mL 118) (mR 118)) := rfl
set_option maxRecDepth 100000 in
theorem cw_119 : lw_tbl[724]? = some (Cond.code (mN 119) (mB 119) (mL 119) (mR 119)) := rfl
set_option maxRecDepth 100000 in
theorem cw_120 : lw_tbl[728]? = some (Cond.code (mN 120) (mB 120) (mL 120) (mR 120)) := rfl
set_option maxRecDepth 100000 in
theorem cw_121 : lw_tbl[736]? = some (Cond.code (mN 121) (mB 121) (mL 121) (mR 121)) := rfl
set_option maxRecDepth 100000 in
theorem cw_122 : lw_tbl[732]? = some (Cond.code (mN 122) (mB 122) (mL 122) (mR 122)) := rfl
set_option maxRecDepth 100000 in
theorem cw_123 : lw_tbl[799]? = some (Cond.code (mN 123) (mB 123) (mL 123) (mR 123)) := rfl
set_option maxRecDepth 100000 in
theorem cw_124 : lw_tbl[796]? = some (Cond.code (mN 124) (mB 124) (mL 124) (mR 124)) := rfl
set_option maxRecDepth 100000 in
theorem cw_125 : lw_tbl[720]? = some (Cond.code (mN 125) (mB 125) (mL 125) (mR 125)) := rfl
set_option maxRecDepth 100000 in
theorem cw_126 : lw_tbl[803]? = some (Cond.code (mN 126) (mB 126) (mL 126) (mR 126)) := rfl
set_option maxRecDepth 100000 in
theorem cw_127 : lw_tbl[820]? = some (Cond.code (mN 127) (mB 127) (mL 127) (mR 127)) := rfl
set_option maxRecDepth 100000 in
theorem cw_128 : lw_tbl[815]? = some (Cond.code (mN 128) (mB 128) (mL 128) (mR 128)) := rfl
set_option maxRecDepth 100000 in
theorem cw_129 : lw_tbl[810]? = some (Cond.code (mN 129) (mB 129) (mL 129) (mR 129)) := rfl
set_option maxRecDepth 100000 in
theorem cw_130 : lw_tbl[807]? = some (Cond.code (mN 130) (mB 130) (mL 130) (mR 130)) := rfl
set_option maxRecDepth 100000 in
theorem cw_131 : lw_tbl[825]? = some (Cond.code (mN 131) (mB 131) (mL 131) (mR 131)) := rfl
set_option maxRecDepth 100000 in
theorem cw_132 : lw_tbl[838]? = some (Cond.code (mN 132) (mB 132) (mL 132) (mR 132)) := rfl
set_option maxRecDepth 100000 in
theorem cw_133 : lw_tbl[835]? = some (Cond.code (mN 133) (mB 133) (mL 133) (mR 133)) := rfl
set_option maxRecDepth 100000 in
theorem cw_134 : lw_tbl[831]? = some (Cond.code (mN 134) (mB 134) (mL 134) (mR 134)) := rfl
set_option maxRecDepth 100000 in
theorem cw_135 : lw_tbl[842]? = some (Cond.code (mN 135) (mB 135) (mL 135) (mR 135)) := rfl
set_option maxRecDepth 100000 in
theorem cw_136 : lw_tbl[850]? = some (Cond.code (mN 136) (mB 136) (mL 136) (mR 136)) := rfl
set_option maxRecDepth 100000 in
theorem cw_137 : lw_tbl[846]? = some (Cond.code (mN 137) (mB 137) (mL 137) (mR 137)) := rfl
set_option maxRecDepth 100000 in
theorem cw_138 : lw_tbl[855]? = some (Cond.code (mN 138) (mB 138) (mL 138) (mR 138)) := rfl
set_option maxRecDepth 100000 in
theorem cw_139 : lw_tbl[859]? = some (Cond.code (mN 139) (mB 139) (mL 139) (mR 139)) := rfl
set_option maxRecDepth 100000 in
theorem cw_140 : lw_tbl[863]? = some (Cond.code (mN 140) (mB 140) (mL 140) (mR 140)) := rfl
set_option maxRecDepth 100000 in
theorem cw_141 : lw_tbl[867]? = some (Cond.code (mN 141) (mB 141) (mL 141) (mR 141)) := rfl
set_option maxRecDepth 100000 in
theorem cw_142 : lw_tbl[891]? = some (Cond.code (mN 142) (mB 142) (mL 142) (mR 142)) := rfl
set_option maxRecDepth 100000 in
theorem cw_143 : lw_tbl[887]? = some (Cond.code (mN 143) (mB 143) (mL 143) (mR 143)) := rfl
set_option maxRecDepth 100000 in
theorem cw_144 : lw_tbl[879]? = some (Cond.code (mN 144) (mB 144) (mL 144) (mR 144)) := rfl
set_option maxRecDepth 100000 in
theorem cw_145 : lw_tbl[883]? = some (Cond.code (mN 145) (mB 145) (mL 145) (mR 145)) := rfl
set_option maxRecDepth 100000 in
theorem cw_146 : lw_tbl[875]? = some (Cond.code (mN 146) (mB 146) (mL 146) (mR 146)) := rfl
set_option maxRecDepth 100000 in
theorem cw_147 : lw_tbl[871]? = some (Cond.code (mN 147) (mB 147) (mL 147) (mR 147)) := rfl
set_option maxRecDepth 100000 in
theorem cw_148 : lw_tbl[895]? = some (Cond.code (mN 148) (mB 148) (mL 148) (mR 148)) := rfl
set_option maxRecDepth 100000 in
theorem cw_149 : lw_tbl[902]? = some (Cond.code (mN 149) (mB 149) (mL 149) (mR 149)) := rfl
set_option maxRecDepth 100000 in
theorem cw_150 : lw_tbl[899]? = some (Cond.code (mN 150) (mB 150) (mL 150) (mR 150)) := rfl
set_option maxRecDepth 100000 in
theorem cw_151 : lw_tbl[906]? = some (Cond.code (mN 151) (mB 151) (mL 151) (mR 151)) := rfl
set_option maxRecDepth 100000 in
theorem cw_152 : lw_tbl[481]? = some (Cond.code (mN 152) (mB 152) (mL 152) (mR 152)) := rfl
set_option maxRecDepth 100000 in
theorem cw_153 : lw_tbl[282]? = some (Cond.code (mN 153) (mB 153) (mL 153) (mR 153)) := rfl
set_option maxRecDepth 100000 in
theorem cw_154 : lw_tbl[387]? = some (Cond.code (mN 154) (mB 154) (mL 154) (mR 154)) := rfl
theorem cw_all : ∀ y, y < 155 → Cond.code (mN y) (mB y) (mL y) (mR y) ∈ lw_tbl := by
  intro y h
  match y, h with
  | 0, _ => exact List.mem_of_getElem? cw_0
  | 1, _ => exact List.mem_of_getElem? cw_1
  | 2, _ => exact List.mem_of_getElem? cw_2
  | 3, _ => exact List.mem_of_getElem? cw_3
  | 4, _ => exact List.mem_of_getElem? cw_4
  | 5, _ => exact List.mem_of_getElem? cw_5
  | 6, _ => exact List.mem_of_getElem? cw_6
  | 7, _ => exact List.mem_of_getElem? cw_7
  | 8, _ => exact List.mem_of_getElem? cw_8
  | 9, _ => exact List.mem_of_getElem? cw_9
  | 10, _ => exact List.mem_of_getElem? cw_10
  | 11, _ => exact List.mem_of_getElem? cw_11
  | 12, _ => exact List.mem_of_getElem? cw_12
  | 13, _ => exact List.mem_of_getElem? cw_13
  | 14, _ => exact List.mem_of_getElem? cw_14
  | 15, _ => exact List.mem_of_getElem? cw_15
  | 16, _ => exact List.mem_of_getElem? cw_16
  | 17, _ => exact List.mem_of_getElem? cw_17
  | 18, _ => exact List.mem_of_getElem? cw_18
  | 19, _ => exact List.mem_of_getElem? cw_19
  | 20, _ => exact List.mem_of_getElem? cw_20
  | 21, _ => exact List.mem_of_getElem? cw_21
  | 22, _ => exact List.mem_of_getElem? cw_22
  | 23, _ => exact List.mem_of_getElem? cw_23
  | 24, _ => exact List.mem_of_getElem? cw_24
  | 25, _ => exact List.mem_of_getElem? cw_25
  | 26, _ => exact List.mem_of_getElem? cw_26
  | 27, _ => exact List.mem_of_getElem? cw_27
  | 28, _ => exact List.mem_of_getElem? cw_28
  | 29, _ => exact List.mem_of_getElem? cw_29
  | 30, _ => exact List.mem_of_getElem? cw_30
  | 31, _ => exact List.mem_of_getElem? cw_31
  | 32, _ => exact List.mem_of_getElem? cw_32
  | 33, _ => exact List.mem_of_getElem? cw_33
  | 34, _ => exact List.mem_of_getElem? cw_34
  | 35, _ => exact List.mem_of_getElem? cw_35
  | 36, _ => exact List.mem_of_getElem? cw_36
  | 37, _ => exact List.mem_of_getElem? cw_37
  | 38, _ => exact List.mem_of_getElem? cw_38
  | 39, _ => exact List.mem_of_getElem? cw_39
  | 40, _ => exact List.mem_of_getElem? cw_40
  | 41, _ => exact List.mem_of_getElem? cw_41
  | 42, _ => exact List.mem_of_getElem? cw_42
  | 43, _ => exact List.mem_of_getElem? cw_43
  | 44, _ => exact List.mem_of_getElem? cw_44
  | 45, _ => exact List.mem_of_getElem? cw_45
  | 46, _ => exact List.mem_of_getElem? cw_46
  | 47, _ => exact List.mem_of_getElem? cw_47
  | 48, _ => exact List.mem_of_getElem? cw_48
  | 49, _ => exact List.mem_of_getElem? cw_49
  | 50, _ => exact List.mem_of_getElem? cw_50
  | 51, _ => exact List.mem_of_getElem? cw_51
  | 52, _ => exact List.mem_of_getElem? cw_52
  | 53, _ => exact List.mem_of_getElem? cw_53
  | 54, _ => exact List.mem_of_getElem? cw_54
  | 55, _ => exact List.mem_of_getElem? cw_55
  | 56, _ => exact List.mem_of_getElem? cw_56
  | 57, _ => exact List.mem_of_getElem? cw_57
  | 58, _ => exact List.mem_of_getElem? cw_58
  | 59, _ => exact List.mem_of_getElem? cw_59
  | 60, _ => exact List.mem_of_getElem? cw_60
  | 61, _ => exact List.mem_of_getElem? cw_61
  | 62, _ => exact List.mem_of_getElem? cw_62
  | 63, _ => exact List.mem_of_getElem? cw_63
  | 64, _ => exact List.mem_of_getElem? cw_64
  | 65, _ => exact List.mem_of_getElem? cw_65
  | 66, _ => exact List.mem_of_getElem? cw_66
  | 67, _ => exact List.mem_of_getElem? cw_67
  | 68, _ => exact List.mem_of_getElem? cw_68
  | 69, _ => exact List.mem_of_getElem? cw_69
  | 70, _ => exact List.mem_of_getElem? cw_70
  | 71, _ => exact List.mem_of_getElem? cw_71
  | 72, _ => exact List.mem_of_getElem? cw_72
  | 73, _ => exact List.mem_of_getElem? cw_73
  | 74, _ => exact List.mem_of_getElem? cw_74
  | 75, _ => exact List.mem_of_getElem? cw_75
  | 76, _ => exact List.mem_of_getElem? cw_76
  | 77, _ => exact List.mem_of_getElem? cw_77
  | 78, _ => exact List.mem_of_getElem? cw_78
  | 79, _ => exact List.mem_of_getElem? cw_79
  | 80, _ => exact List.mem_of_getElem? cw_80
  | 81, _ => exact List.mem_of_getElem? cw_81
  | 82, _ => exact List.mem_of_getElem? cw_82
  | 83, _ => exact List.mem_of_getElem? cw_83
  | 84, _ => exact List.mem_of_getElem? cw_84
  | 85, _ => exact List.mem_of_getElem? cw_85
  | 86, _ => exact List.mem_of_getElem? cw_86
  | 87, _ => exact List.mem_of_getElem? cw_87
  | 88, _ => exact List.mem_of_getElem? cw_88
  | 89, _ => exact List.mem_of_getElem? cw_89
  | 90, _ => exact List.mem_of_getElem? cw_90
  | 91, _ => exact List.mem_of_getElem? cw_91
  | 92, _ => exact List.mem_of_getElem? cw_92
  | 93, _ => exact List.mem_of_getElem? cw_93
  | 94, _ => exact List.mem_of_getElem? cw_94
  | 95, _ => exact List.mem_of_getElem? cw_95
  | 96, _ => exact List.mem_of_getElem? cw_96
  | 97, _ => exact List.mem_of_getElem? cw_97
  | 98, _ => exact List.mem_of_getElem? cw_98
  | 99, _ => exact List.mem_of_getElem? cw_99
  | 100, _ => exact List.mem_of_getElem? cw_100
  | 101, _ => exact List.mem_of_getElem? cw_101
  | 102, _ => exact List.mem_of_getElem? cw_102
  | 103, _ => exact List.mem_of_getElem? cw_103
  | 104, _ => exact List.mem_of_getElem? cw_104
  | 105, _ => exact List.mem_of_getElem? cw_105
  | 106, _ => exact List.mem_of_getElem? cw_106
  | 107, _ => exact List.mem_of_getElem? cw_107
  | 108, _ => exact List.mem_of_getElem? cw_108
  | 109, _ => exact List.mem_of_getElem? cw_109
  | 110, _ => exact List.mem_of_getElem? cw_110
  | 111, _ => exact List.mem_of_getElem? cw_111
  | 112, _ => exact List.mem_of_getElem? cw_112
  | 113, _ => exact List.mem_of_getElem? cw_113
  | 114, _ => exact List.mem_of_getElem? cw_114
  | 115, _ => exact List.mem_of_getElem? cw_115
  | 116, _ => exact List.mem_of_getElem? cw_116
  | 117, _ => exact List.mem_of_getElem? cw_117
  | 118, _ => exact List.mem_of_getElem? cw_118
  | 119, _ => exact List.mem_of_getElem? cw_119
  | 120, _ => exact List.mem_of_getElem? cw_120
  | 121, _ => exact List.mem_of_getElem? cw_121
  | 122, _ => exact List.mem_of_getElem? cw_122
  | 123, _ => exact List.mem_of_getElem? cw_123
  | 124, _ => exact List.mem_of_getElem? cw_124
  | 125, _ => exact List.mem_of_getElem? cw_125
  | 126, _ => exact List.mem_of_getElem? cw_126
  | 127, _ => exact List.mem_of_getElem? cw_127
  | 128, _ => exact List.mem_of_getElem? cw_128
  | 129, _ => exact List.mem_of_getElem? cw_129
  | 130, _ => exact List.mem_of_getElem? cw_130
  | 131, _ => exact List.mem_of_getElem? cw_131
  | 132, _ => exact List.mem_of_getElem? cw_132
  | 133, _ => exact List.mem_of_getElem? cw_133
  | 134, _ => exact List.mem_of_getElem? cw_134
  | 135, _ => exact List.mem_of_getElem? cw_135
  | 136, _ => exact List.mem_of_getElem? cw_136
  | 137, _ => exact List.mem_of_getElem? cw_137
  | 138, _ => exact List.mem_of_getElem? cw_138
  | 139, _ => exact List.mem_of_getElem? cw_139
  | 140, _ => exact List.mem_of_getElem? cw_140
  | 141, _ => exact List.mem_of_getElem? cw_141
  | 142, _ => exact List.mem_of_getElem? cw_142
  | 143, _ => exact List.mem_of_getElem? cw_143
  | 144, _ => exact List.mem_of_getElem? cw_144
  | 145, _ => exact List.mem_of_getElem? cw_145
  | 146, _ => exact List.mem_of_getElem? cw_146
  | 147, _ => exact List.mem_of_getElem? cw_147
  | 148, _ => exact List.mem_of_getElem? cw_148
  | 149, _ => exact List.mem_of_getElem? cw_149
  | 150, _ => exact List.mem_of_getElem? cw_150
  | 151, _ => exact List.mem_of_getElem? cw_151
  | 152, _ => exact List.mem_of_getElem? cw_152
  | 153, _ => exact List.mem_of_getElem? cw_153
  | 154, _ => exact List.mem_of_getElem? cw_154
  | n + 155, h => exact absurd h (by omega)
end
section
/-! the abstract machine stands for the machine: the judgement, and its rows -/
def qA (ad : Nat → Nat) : Nat → Prop := fun q => ∃ k, k < 44 ∧ q = ad k
def qTy (aC : Nat → ClassId) : List (ClassId × FieldType) := [(aC 0, .int), (aC 1, .long), (aC 2, .boolean), (aC 3, .object RX4), (aC 4, .object RX2)]
def qSt (dC : Nat → ClassId) (dI : Nat → Nat → Nat) (aC : Nat → ClassId) (b Ls : Nat) (xs : Nat → Int32) (U : State) : Prop :=
  va_K (dC, dI) vwCl (qTy aC) U ∧ va_X b Ls xs U U.heap ∧ b < U.heap.size ∧ ∀ t ∈ qNst, va_Nw (qNw t) U
def qCx (dC : Nat → ClassId) (dI : Nat → Nat → Nat) (aC : Nat → ClassId) (b Ls : Nat) (xs : Nat → Int32) (y : Nat) (p : Program) (R : Room) (s : State) (m : MethodId) (args : Array Value) (c : Code) (cells slots : Nat) : Prop :=
  p.tables.exec = Jvm.exec ∧ c.code = mB y ∧ c.maxLocals = mL y ∧ s.vm.findClass (mO y) = some m.cls ∧ (∀ w ∈ qT, w.before args s = true) ∧ mF y ≤ R.frames ∧ mW y ≤ R.locals ∧ cells ≤ R.cells ∧ slots ≤ R.slots ∧ qSt dC dI aC b Ls xs s
def qAd (ad : Nat → Nat) (b : Nat) : Prop := (∀ i j, i < 44 → j < 44 → ad i = ad j → i = j) ∧ (∀ k, k < 44 → ad k ≠ b) ∧ ad 1000 = b
def qRet (y : Nat) (pc : Nat) (v : Option Value) : Prop := match v with
  | none => decode (mB y) pc = .ok (.return_, 1) ∧ mR y = none
  | some (.int x) => decode (mB y) pc = .ok (.ireturn, 1) ∧ ∃ ty, mR y = some ty ∧ narrow ty (.int x) = .int x
  | some (.long _) => decode (mB y) pc = .ok (.lreturn, 1) ∧ mR y = some .long
  | some (.ref _) => decode (mB y) pc = .ok (.areturn, 1) ∧ ∃ n, mR y = some (.object n)
  | some .null => decode (mB y) pc = .ok (.areturn, 1) ∧ ∃ n, mR y = some (.object n)
  | _ => False
def PM (l : Launch) (ad : Nat → Nat) (dC : Nat → ClassId) (dI : Nat → Nat → Nat) (aC : Nat → ClassId) (b Ls : Nat) (xs : Nat → Int32) : qSem := fun y i L stk M Q =>
  ∀ (p : Program) (e : Env) (R : Room) (s : State) (m : MethodId) (args : Array Value) (below : List Frame) (meth : Method) (c : Code) (H : Heap) (locs : List Loc) (cells slots : Nat) (ls : Array Slot) (G : State → Prop),
    qCx dC dI aC b Ls xs y p R s m args c cells slots → va_P (dC, dI) vwCl (wl ad aC M) H → va_S (qA ad) s.heap H locs → lv_has ls (mL y) (trL ad L) →
    (∀ (v : Option Value) (M' : qMem) (H' : Heap) (locs' : List Loc) (ls' : Array Slot) (pc' : Nat), qRet y pc' v → Q v M' → va_P (dC, dI) vwCl (wl ad aC M') H' → va_S (qA ad) s.heap H' locs' → W p l e R s m args below meth c H' locs' cells slots G (F0 m pc' ls' (trS ad v.toList))) →
    W p l e R s m args below meth c H locs cells slots G (F0 m (pcA y i) ls (trS ad stk))
theorem wl_D {ad : Nat → Nat} {b : Nat} (hA : qAd ad b) (aC : Nat → ClassId) (M : qMem) : va_D (qA ad) (wl ad aC M) := by
  have g : ∀ (k : Nat) (q : Nat × va_E), (wl ad aC M)[k]? = some q → k < 44 ∧ q.1 = ad k := by
    intro k q h
    have hlen : (wl ad aC M).length = 44 := by simp [wl]
    have hk : k < 44 := by
      have := (List.getElem?_eq_some_iff.mp h).1
      omega
    rw [wl_get hk] at h
    cases h
    exact ⟨hk, rfl⟩
  refine ⟨fun i j p q hp hq e => ?_, fun k q h => ⟨k, g k q h⟩⟩
  obtain ⟨h1, h2⟩ := g i p hp
  obtain ⟨h3, h4⟩ := g j q hq
  exact hA.1 i j h1 h3 (by rw [← h2, ← h4, e])
section QS
variable {l : Launch} {ad : Nat → Nat} {dC : Nat → ClassId} {dI : Nat → Nat → Nat} {aC : Nat → ClassId} {b Ls : Nat} {xs : Nat → Int32}
variable {y i len : Nat} {o : qOp} {L : qLc} {stk : List Value} {M : qMem} {Q : qPost}
theorem sd_iconst {n : Int} (hdg : decode (mB y) (pcA y i) = .ok (.iconst n, len)) (ho : chkO y i (pcA y i) (.iconst n) len o = true) (h : qStep Ls xs (PM l ad dC dI aC b Ls xs) y i o L stk M Q) : PM l ad dC dI aC b Ls xs y i L stk M Q := by
  obtain ⟨c0, a0, b0, d0, v0, l0⟩ := o
  simp only [chkO, Bool.and_eq_true] at ho
  obtain ⟨⟨⟨g1, g2⟩, g3⟩, g4⟩ := ho
  have z0 := q_bq g1
  try dsimp only at z0
  subst z0
  have z3 : v0 = .int (Int32.ofInt n) := of_decide_eq_true g2
  subst z3
  have z1 := q_bq g3
  subst z1
  have z2 := q_bq g4
  replace h : qx_0 (PM l ad dC dI aC b Ls xs) y i _ L stk M Q := q_g1 h rfl
  dsimp only [qx_0] at h
  intro p e R s m args below meth c H locs cells slots ls G C hP hS hl hr
  obtain ⟨hx, hb, hml, hown, hts, -⟩ := id C
  refine lv_iconst hx hb hdg rfl ?_
  rw [← z2]
  exact h p e R s m args below meth c H locs cells slots ls G C hP hS hl hr
theorem sd_bipush {n : Int} (hdg : decode (mB y) (pcA y i) = .ok (.bipush n, len)) (ho : chkO y i (pcA y i) (.bipush n) len o = true) (h : qStep Ls xs (PM l ad dC dI aC b Ls xs) y i o L stk M Q) : PM l ad dC dI aC b Ls xs y i L stk M Q := by
  obtain ⟨c0, a0, b0, d0, v0, l0⟩ := o
  simp only [chkO, Bool.and_eq_true] at ho
  obtain ⟨⟨⟨g1, g2⟩, g3⟩, g4⟩ := ho
  have z0 := q_bq g1
  try dsimp only at z0
  subst z0
  have z3 : v0 = .int (Int8.ofInt n).toInt32 := of_decide_eq_true g2
  subst z3
  have z1 := q_bq g3
  subst z1
  have z2 := q_bq g4
  replace h : qx_0 (PM l ad dC dI aC b Ls xs) y i _ L stk M Q := q_g1 h rfl
  dsimp only [qx_0] at h
  intro p e R s m args below meth c H locs cells slots ls G C hP hS hl hr
  obtain ⟨hx, hb, hml, hown, hts, -⟩ := id C
  refine lv_bipush hx hb hdg rfl ?_
  rw [← z2]
  exact h p e R s m args below meth c H locs cells slots ls G C hP hS hl hr
theorem sd_sipush {n : Int} (hdg : decode (mB y) (pcA y i) = .ok (.sipush n, len)) (ho : chkO y i (pcA y i) (.sipush n) len o = true) (h : qStep Ls xs (PM l ad dC dI aC b Ls xs) y i o L stk M Q) : PM l ad dC dI aC b Ls xs y i L stk M Q := by
  obtain ⟨c0, a0, b0, d0, v0, l0⟩ := o
  simp only [chkO, Bool.and_eq_true] at ho
  obtain ⟨⟨⟨g1, g2⟩, g3⟩, g4⟩ := ho
  have z0 := q_bq g1
  try dsimp only at z0
  subst z0
  have z3 : v0 = .int (Int16.ofInt n).toInt32 := of_decide_eq_true g2
  subst z3
  have z1 := q_bq g3
  subst z1
  have z2 := q_bq g4
  replace h : qx_0 (PM l ad dC dI aC b Ls xs) y i _ L stk M Q := q_g1 h rfl
  dsimp only [qx_0] at h
  intro p e R s m args below meth c H locs cells slots ls G C hP hS hl hr
  obtain ⟨hx, hb, hml, hown, hts, -⟩ := id C
  refine lv_sipush hx hb hdg rfl ?_
  rw [← z2]
  exact h p e R s m args below meth c H locs cells slots ls G C hP hS hl hr
theorem sd_lconst {n : Fin 2} (hdg : decode (mB y) (pcA y i) = .ok (.lconst n, len)) (ho : chkO y i (pcA y i) (.lconst n) len o = true) (h : qStep Ls xs (PM l ad dC dI aC b Ls xs) y i o L stk M Q) : PM l ad dC dI aC b Ls xs y i L stk M Q := by
  obtain ⟨c0, a0, b0, d0, v0, l0⟩ := o
  simp only [chkO, Bool.and_eq_true] at ho
  obtain ⟨⟨⟨g1, g2⟩, g3⟩, g4⟩ := ho
  have z0 := q_bq g1
  try dsimp only at z0
  subst z0
  have z3 : v0 = .long (Int64.ofNat n.val) := of_decide_eq_true g2
  subst z3
  have z1 := q_bq g3
  subst z1
  have z2 := q_bq g4
  replace h : qx_0 (PM l ad dC dI aC b Ls xs) y i _ L stk M Q := q_g1 h rfl
  dsimp only [qx_0] at h
  intro p e R s m args below meth c H locs cells slots ls G C hP hS hl hr
  obtain ⟨hx, hb, hml, hown, hts, -⟩ := id C
  refine lv_lconst hx hb hdg rfl ?_
  rw [← z2]
  exact h p e R s m args below meth c H locs cells slots ls G C hP hS hl hr
theorem sd_null (hdg : decode (mB y) (pcA y i) = .ok (.aconst_null, len)) (ho : chkO y i (pcA y i) (.aconst_null) len o = true) (h : qStep Ls xs (PM l ad dC dI aC b Ls xs) y i o L stk M Q) : PM l ad dC dI aC b Ls xs y i L stk M Q := by
  obtain ⟨c0, a0, b0, d0, v0, l0⟩ := o
  simp only [chkO, Bool.and_eq_true] at ho
  obtain ⟨⟨⟨g1, g2⟩, g3⟩, g4⟩ := ho
  have z0 := q_bq g1
  try dsimp only at z0
  subst z0
  have z3 : v0 = .null := of_decide_eq_true g2
  subst z3
  have z1 := q_bq g3
  subst z1
  have z2 := q_bq g4
  replace h : qx_0 (PM l ad dC dI aC b Ls xs) y i _ L stk M Q := q_g1 h rfl
  dsimp only [qx_0] at h
  intro p e R s m args below meth c H locs cells slots ls G C hP hS hl hr
  obtain ⟨hx, hb, hml, hown, hts, -⟩ := id C
  refine lv_null hx hb hdg ?_
  rw [← z2]
  exact h p e R s m args below meth c H locs cells slots ls G C hP hS hl hr
theorem sd_ldc {idx : Nat} (hdg : decode (mB y) (pcA y i) = .ok (.ldc idx, len)) (ho : chkO y i (pcA y i) (.ldc idx) len o = true) (h : qStep Ls xs (PM l ad dC dI aC b Ls xs) y i o L stk M Q) : PM l ad dC dI aC b Ls xs y i L stk M Q := by
  obtain ⟨c0, a0, b0, d0, v0, l0⟩ := o
  cases v0 with
  | int x =>
    simp only [chkO, Bool.and_eq_true] at ho
    obtain ⟨⟨⟨g1, g2⟩, g3⟩, g4⟩ := ho
    have z0 := q_bq g1
    try dsimp only at z0
    subst z0
    have z1 := q_bq g3
    subst z1
    have z2 := q_bq g4
    replace h : qx_0 (PM l ad dC dI aC b Ls xs) y i _ L stk M Q := q_g1 h rfl
    dsimp only [qx_0] at h
    intro p e R s m args below meth c H locs cells slots ls G C hP hS hl hr
    obtain ⟨hx, hb, hml, hown, hts, -⟩ := id C
    refine lv_ldc hx hb hown (hts _ (tbw_T g2 rfl)) hdg ?_
    rw [← z2]
    exact h p e R s m args below meth c H locs cells slots ls G C hP hS hl hr
  | _ => simp [chkO] at ho
theorem sd_ldc2 {idx : Nat} (hdg : decode (mB y) (pcA y i) = .ok (.ldc2_w idx, len)) (ho : chkO y i (pcA y i) (.ldc2_w idx) len o = true) (h : qStep Ls xs (PM l ad dC dI aC b Ls xs) y i o L stk M Q) : PM l ad dC dI aC b Ls xs y i L stk M Q := by
  obtain ⟨c0, a0, b0, d0, v0, l0⟩ := o
  cases v0 with
  | long x =>
    simp only [chkO, Bool.and_eq_true] at ho
    obtain ⟨⟨⟨g1, g2⟩, g3⟩, g4⟩ := ho
    have z0 := q_bq g1
    try dsimp only at z0
    subst z0
    have z1 := q_bq g3
    subst z1
    have z2 := q_bq g4
    replace h : qx_0 (PM l ad dC dI aC b Ls xs) y i _ L stk M Q := q_g1 h rfl
    dsimp only [qx_0] at h
    intro p e R s m args below meth c H locs cells slots ls G C hP hS hl hr
    obtain ⟨hx, hb, hml, hown, hts, -⟩ := id C
    refine lv_ldc2 hx hb hown (hts _ (tbw_T g2 rfl)) hdg ?_
    rw [← z2]
    exact h p e R s m args below meth c H locs cells slots ls G C hP hS hl hr
  | _ => simp [chkO] at ho
theorem sd_iload {k : Nat} (hdg : decode (mB y) (pcA y i) = .ok (.iload k, len)) (ho : chkO y i (pcA y i) (.iload k) len o = true) (h : qStep Ls xs (PM l ad dC dI aC b Ls xs) y i o L stk M Q) : PM l ad dC dI aC b Ls xs y i L stk M Q := by
  obtain ⟨c0, a0, b0, d0, v0, l0⟩ := o
  simp only [chkO, Bool.and_eq_true] at ho
  obtain ⟨⟨⟨g1, g2⟩, g3⟩, g4⟩ := ho
  have z0 := q_bq g1
  try dsimp only at z0
  subst z0
  have z3 := q_bq g2
  try dsimp only at z3
  subst z3
  have z1 := q_bq g3
  subst z1
  have z2 := q_bq g4
  replace h : qx_1 (PM l ad dC dI aC b Ls xs) y i _ L stk M Q := q_g1 h rfl
  dsimp only [qx_1] at h
  split at h
  · rename_i x hg
    intro p e R s m args below meth c H locs cells slots ls G C hP hS hl hr
    obtain ⟨hx, hb, hml, hown, hts, -⟩ := id C
    refine lv_iload hx hb hdg (lcG_at hl hg (fun q => by cases q)) ?_
    rw [← z2]
    exact h p e R s m args below meth c H locs cells slots ls G C hP hS hl hr
  · exact h.elim
theorem sd_iload_n {k : Fin 4} (hdg : decode (mB y) (pcA y i) = .ok (.iload_n k, len)) (ho : chkO y i (pcA y i) (.iload_n k) len o = true) (h : qStep Ls xs (PM l ad dC dI aC b Ls xs) y i o L stk M Q) : PM l ad dC dI aC b Ls xs y i L stk M Q := by
  obtain ⟨c0, a0, b0, d0, v0, l0⟩ := o
  simp only [chkO, Bool.and_eq_true] at ho
  obtain ⟨⟨⟨g1, g2⟩, g3⟩, g4⟩ := ho
  have z0 := q_bq g1
  try dsimp only at z0
  subst z0
  have z3 := q_bq g2
  try dsimp only at z3
  subst z3
  have z1 := q_bq g3
  subst z1
  have z2 := q_bq g4
  replace h : qx_1 (PM l ad dC dI aC b Ls xs) y i _ L stk M Q := q_g1 h rfl
  dsimp only [qx_1] at h
  split at h
  · rename_i x hg
    intro p e R s m args below meth c H locs cells slots ls G C hP hS hl hr
    obtain ⟨hx, hb, hml, hown, hts, -⟩ := id C
    refine lv_iload_n hx hb hdg rfl (lcG_at hl hg (fun q => by cases q)) ?_
    rw [← z2]
    exact h p e R s m args below meth c H locs cells slots ls G C hP hS hl hr
  · exact h.elim
theorem sd_lload {k : Nat} (hdg : decode (mB y) (pcA y i) = .ok (.lload k, len)) (ho : chkO y i (pcA y i) (.lload k) len o = true) (h : qStep Ls xs (PM l ad dC dI aC b Ls xs) y i o L stk M Q) : PM l ad dC dI aC b Ls xs y i L stk M Q := by
  obtain ⟨c0, a0, b0, d0, v0, l0⟩ := o
  simp only [chkO, Bool.and_eq_true] at ho
  obtain ⟨⟨⟨g1, g2⟩, g3⟩, g4⟩ := ho
  have z0 := q_bq g1
  try dsimp only at z0
  subst z0
  have z3 := q_bq g2
  try dsimp only at z3
  subst z3
  have z1 := q_bq g3
  subst z1
  have z2 := q_bq g4
  replace h : qx_2 (PM l ad dC dI aC b Ls xs) y i _ L stk M Q := q_g1 h rfl
  dsimp only [qx_2] at h
  split at h
  · rename_i x hg
    intro p e R s m args below meth c H locs cells slots ls G C hP hS hl hr
    obtain ⟨hx, hb, hml, hown, hts, -⟩ := id C
    refine lv_lload hx hb hdg (lcG_at hl hg (fun q => by cases q)) ?_
    rw [← z2]
    exact h p e R s m args below meth c H locs cells slots ls G C hP hS hl hr
  · exact h.elim
theorem sd_lload_n {k : Fin 4} (hdg : decode (mB y) (pcA y i) = .ok (.lload_n k, len)) (ho : chkO y i (pcA y i) (.lload_n k) len o = true) (h : qStep Ls xs (PM l ad dC dI aC b Ls xs) y i o L stk M Q) : PM l ad dC dI aC b Ls xs y i L stk M Q := by
  obtain ⟨c0, a0, b0, d0, v0, l0⟩ := o
  simp only [chkO, Bool.and_eq_true] at ho
  obtain ⟨⟨⟨g1, g2⟩, g3⟩, g4⟩ := ho
  have z0 := q_bq g1
  try dsimp only at z0
  subst z0
  have z3 := q_bq g2
  try dsimp only at z3
  subst z3
  have z1 := q_bq g3
  subst z1
  have z2 := q_bq g4
  replace h : qx_2 (PM l ad dC dI aC b Ls xs) y i _ L stk M Q := q_g1 h rfl
  dsimp only [qx_2] at h
  split at h
  · rename_i x hg
    intro p e R s m args below meth c H locs cells slots ls G C hP hS hl hr
    obtain ⟨hx, hb, hml, hown, hts, -⟩ := id C
    refine lv_lload_n hx hb hdg rfl (lcG_at hl hg (fun q => by cases q)) ?_
    rw [← z2]
    exact h p e R s m args below meth c H locs cells slots ls G C hP hS hl hr
  · exact h.elim
theorem sd_aload {k : Nat} (hdg : decode (mB y) (pcA y i) = .ok (.aload k, len)) (ho : chkO y i (pcA y i) (.aload k) len o = true) (h : qStep Ls xs (PM l ad dC dI aC b Ls xs) y i o L stk M Q) : PM l ad dC dI aC b Ls xs y i L stk M Q := by
  obtain ⟨c0, a0, b0, d0, v0, l0⟩ := o
  simp only [chkO, Bool.and_eq_true] at ho
  obtain ⟨⟨⟨g1, g2⟩, g3⟩, g4⟩ := ho
  have z0 := q_bq g1
  try dsimp only at z0
  subst z0
  have z3 := q_bq g2
  try dsimp only at z3
  subst z3
  have z1 := q_bq g3
  subst z1
  have z2 := q_bq g4
  replace h : qx_3 (PM l ad dC dI aC b Ls xs) y i _ L stk M Q := q_g1 h rfl
  dsimp only [qx_3] at h
  split at h
  · rename_i x hg
    intro p e R s m args below meth c H locs cells slots ls G C hP hS hl hr
    obtain ⟨hx, hb, hml, hown, hts, -⟩ := id C
    refine lv_aload hx hb hdg (lcG_at hl hg (fun q => by cases q)) ?_
    rw [← z2]
    exact h p e R s m args below meth c H locs cells slots ls G C hP hS hl hr
  · rename_i hg
    intro p e R s m args below meth c H locs cells slots ls G C hP hS hl hr
    obtain ⟨hx, hb, hml, hown, hts, -⟩ := id C
    refine lv_aloadN hx hb hdg (lcG_at hl hg (fun q => by cases q)) ?_
    rw [← z2]
    exact h p e R s m args below meth c H locs cells slots ls G C hP hS hl hr
  · exact h.elim
theorem sd_aload_n {k : Fin 4} (hdg : decode (mB y) (pcA y i) = .ok (.aload_n k, len)) (ho : chkO y i (pcA y i) (.aload_n k) len o = true) (h : qStep Ls xs (PM l ad dC dI aC b Ls xs) y i o L stk M Q) : PM l ad dC dI aC b Ls xs y i L stk M Q := by
  obtain ⟨c0, a0, b0, d0, v0, l0⟩ := o
  simp only [chkO, Bool.and_eq_true] at ho
  obtain ⟨⟨⟨g1, g2⟩, g3⟩, g4⟩ := ho
  have z0 := q_bq g1
  try dsimp only at z0
  subst z0
  have z3 := q_bq g2
  try dsimp only at z3
  subst z3
  have z1 := q_bq g3
  subst z1
  have z2 := q_bq g4
  replace h : qx_3 (PM l ad dC dI aC b Ls xs) y i _ L stk M Q := q_g1 h rfl
  dsimp only [qx_3] at h
  split at h
  · rename_i x hg
    intro p e R s m args below meth c H locs cells slots ls G C hP hS hl hr
    obtain ⟨hx, hb, hml, hown, hts, -⟩ := id C
    refine lv_aload_n hx hb hdg rfl (lcG_at hl hg (fun q => by cases q)) ?_
    rw [← z2]
    exact h p e R s m args below meth c H locs cells slots ls G C hP hS hl hr
  · rename_i hg
    intro p e R s m args below meth c H locs cells slots ls G C hP hS hl hr
    obtain ⟨hx, hb, hml, hown, hts, -⟩ := id C
    refine lv_aload_nN hx hb hdg rfl (lcG_at hl hg (fun q => by cases q)) ?_
    rw [← z2]
    exact h p e R s m args below meth c H locs cells slots ls G C hP hS hl hr
  · exact h.elim
theorem sd_istore {k : Nat} (hdg : decode (mB y) (pcA y i) = .ok (.istore k, len)) (ho : chkO y i (pcA y i) (.istore k) len o = true) (h : qStep Ls xs (PM l ad dC dI aC b Ls xs) y i o L stk M Q) : PM l ad dC dI aC b Ls xs y i L stk M Q := by
  obtain ⟨c0, a0, b0, d0, v0, l0⟩ := o
  simp only [chkO, Bool.and_eq_true] at ho
  obtain ⟨⟨⟨⟨g1, g2⟩, g3⟩, g4⟩, g5⟩ := ho
  have z0 := q_bq g1
  try dsimp only at z0
  subst z0
  have z3 := q_bq g2
  try dsimp only at z3
  subst z3
  have z1 := q_bq g4
  subst z1
  have z2 := q_bq g5
  replace h : qx_4 (PM l ad dC dI aC b Ls xs) y i _ L stk M Q := q_g1 h rfl
  dsimp only [qx_4] at h
  have z4 := Nat.le_of_ble_eq_true g3
  split at h
  · rename_i x st
    intro p e R s m args below meth c H locs cells slots ls G C hP hS hl hr
    obtain ⟨hx, hb, hml, hown, hts, -⟩ := id C
    refine lv_istore hx hb hdg hl z4 (trL_S1 ad L _ (.int x)) (fun ls hl => ?_)
    rw [← z2]
    exact h p e R s m args below meth c H locs cells slots ls G C hP hS hl hr
  · exact h.elim
theorem sd_istore_n {k : Fin 4} (hdg : decode (mB y) (pcA y i) = .ok (.istore_n k, len)) (ho : chkO y i (pcA y i) (.istore_n k) len o = true) (h : qStep Ls xs (PM l ad dC dI aC b Ls xs) y i o L stk M Q) : PM l ad dC dI aC b Ls xs y i L stk M Q := by
  obtain ⟨c0, a0, b0, d0, v0, l0⟩ := o
  simp only [chkO, Bool.and_eq_true] at ho
  obtain ⟨⟨⟨⟨g1, g2⟩, g3⟩, g4⟩, g5⟩ := ho
  have z0 := q_bq g1
  try dsimp only at z0
  subst z0
  have z3 := q_bq g2
  try dsimp only at z3
  subst z3
  have z1 := q_bq g4
  subst z1
  have z2 := q_bq g5
  replace h : qx_4 (PM l ad dC dI aC b Ls xs) y i _ L stk M Q := q_g1 h rfl
  dsimp only [qx_4] at h
  have z4 := Nat.le_of_ble_eq_true g3
  split at h
  · rename_i x st
    intro p e R s m args below meth c H locs cells slots ls G C hP hS hl hr
    obtain ⟨hx, hb, hml, hown, hts, -⟩ := id C
    refine lv_istore_n hx hb hdg rfl hl z4 (trL_S1 ad L _ (.int x)) (fun ls hl => ?_)
    rw [← z2]
    exact h p e R s m args below meth c H locs cells slots ls G C hP hS hl hr
  · exact h.elim
theorem sd_lstore {k : Nat} (hdg : decode (mB y) (pcA y i) = .ok (.lstore k, len)) (ho : chkO y i (pcA y i) (.lstore k) len o = true) (h : qStep Ls xs (PM l ad dC dI aC b Ls xs) y i o L stk M Q) : PM l ad dC dI aC b Ls xs y i L stk M Q := by
  obtain ⟨c0, a0, b0, d0, v0, l0⟩ := o
  simp only [chkO, Bool.and_eq_true] at ho
  obtain ⟨⟨⟨⟨g1, g2⟩, g3⟩, g4⟩, g5⟩ := ho
  have z0 := q_bq g1
  try dsimp only at z0
  subst z0
  have z3 := q_bq g2
  try dsimp only at z3
  subst z3
  have z1 := q_bq g4
  subst z1
  have z2 := q_bq g5
  replace h : qx_5 (PM l ad dC dI aC b Ls xs) y i _ L stk M Q := q_g1 h rfl
  dsimp only [qx_5] at h
  have z4 := Nat.le_of_ble_eq_true g3
  split at h
  · rename_i x st
    intro p e R s m args below meth c H locs cells slots ls G C hP hS hl hr
    obtain ⟨hx, hb, hml, hown, hts, -⟩ := id C
    refine lv_lstore hx hb hdg hl z4 (trL_S2 ad L _ (.long x)) (fun ls hl => ?_)
    rw [← z2]
    exact h p e R s m args below meth c H locs cells slots ls G C hP hS hl hr
  · exact h.elim
theorem sd_lstore_n {k : Fin 4} (hdg : decode (mB y) (pcA y i) = .ok (.lstore_n k, len)) (ho : chkO y i (pcA y i) (.lstore_n k) len o = true) (h : qStep Ls xs (PM l ad dC dI aC b Ls xs) y i o L stk M Q) : PM l ad dC dI aC b Ls xs y i L stk M Q := by
  obtain ⟨c0, a0, b0, d0, v0, l0⟩ := o
  simp only [chkO, Bool.and_eq_true] at ho
  obtain ⟨⟨⟨⟨g1, g2⟩, g3⟩, g4⟩, g5⟩ := ho
  have z0 := q_bq g1
  try dsimp only at z0
  subst z0
  have z3 := q_bq g2
  try dsimp only at z3
  subst z3
  have z1 := q_bq g4
  subst z1
  have z2 := q_bq g5
  replace h : qx_5 (PM l ad dC dI aC b Ls xs) y i _ L stk M Q := q_g1 h rfl
  dsimp only [qx_5] at h
  have z4 := Nat.le_of_ble_eq_true g3
  split at h
  · rename_i x st
    intro p e R s m args below meth c H locs cells slots ls G C hP hS hl hr
    obtain ⟨hx, hb, hml, hown, hts, -⟩ := id C
    refine lv_lstore_n hx hb hdg rfl hl z4 (trL_S2 ad L _ (.long x)) (fun ls hl => ?_)
    rw [← z2]
    exact h p e R s m args below meth c H locs cells slots ls G C hP hS hl hr
  · exact h.elim
theorem sd_astore {k : Nat} (hdg : decode (mB y) (pcA y i) = .ok (.astore k, len)) (ho : chkO y i (pcA y i) (.astore k) len o = true) (h : qStep Ls xs (PM l ad dC dI aC b Ls xs) y i o L stk M Q) : PM l ad dC dI aC b Ls xs y i L stk M Q := by
  obtain ⟨c0, a0, b0, d0, v0, l0⟩ := o
  simp only [chkO, Bool.and_eq_true] at ho
  obtain ⟨⟨⟨⟨g1, g2⟩, g3⟩, g4⟩, g5⟩ := ho
  have z0 := q_bq g1
  try dsimp only at z0
  subst z0
  have z3 := q_bq g2
  try dsimp only at z3
  subst z3
  have z1 := q_bq g4
  subst z1
  have z2 := q_bq g5
  replace h : qx_6 (PM l ad dC dI aC b Ls xs) y i _ L stk M Q := q_g1 h rfl
  dsimp only [qx_6] at h
  have z4 := Nat.le_of_ble_eq_true g3
  split at h
  · rename_i x st
    intro p e R s m args below meth c H locs cells slots ls G C hP hS hl hr
    obtain ⟨hx, hb, hml, hown, hts, -⟩ := id C
    refine lv_astore hx hb hdg hl z4 (trL_S1 ad L _ (.ref x)) (fun ls hl => ?_)
    rw [← z2]
    exact h p e R s m args below meth c H locs cells slots ls G C hP hS hl hr
  · rename_i st
    intro p e R s m args below meth c H locs cells slots ls G C hP hS hl hr
    obtain ⟨hx, hb, hml, hown, hts, -⟩ := id C
    refine lv_astoreN hx hb hdg hl z4 (trL_S1 ad L _ (.null)) (fun ls hl => ?_)
    rw [← z2]
    exact h p e R s m args below meth c H locs cells slots ls G C hP hS hl hr
  · exact h.elim
theorem sd_astore_n {k : Fin 4} (hdg : decode (mB y) (pcA y i) = .ok (.astore_n k, len)) (ho : chkO y i (pcA y i) (.astore_n k) len o = true) (h : qStep Ls xs (PM l ad dC dI aC b Ls xs) y i o L stk M Q) : PM l ad dC dI aC b Ls xs y i L stk M Q := by
  obtain ⟨c0, a0, b0, d0, v0, l0⟩ := o
  simp only [chkO, Bool.and_eq_true] at ho
  obtain ⟨⟨⟨⟨g1, g2⟩, g3⟩, g4⟩, g5⟩ := ho
  have z0 := q_bq g1
  try dsimp only at z0
  subst z0
  have z3 := q_bq g2
  try dsimp only at z3
  subst z3
  have z1 := q_bq g4
  subst z1
  have z2 := q_bq g5
  replace h : qx_6 (PM l ad dC dI aC b Ls xs) y i _ L stk M Q := q_g1 h rfl
  dsimp only [qx_6] at h
  have z4 := Nat.le_of_ble_eq_true g3
  split at h
  · rename_i x st
    intro p e R s m args below meth c H locs cells slots ls G C hP hS hl hr
    obtain ⟨hx, hb, hml, hown, hts, -⟩ := id C
    refine lv_astore_n hx hb hdg rfl hl z4 (trL_S1 ad L _ (.ref x)) (fun ls hl => ?_)
    rw [← z2]
    exact h p e R s m args below meth c H locs cells slots ls G C hP hS hl hr
  · rename_i st
    intro p e R s m args below meth c H locs cells slots ls G C hP hS hl hr
    obtain ⟨hx, hb, hml, hown, hts, -⟩ := id C
    refine lv_astore_nN hx hb hdg rfl hl z4 (trL_S1 ad L _ (.null)) (fun ls hl => ?_)
    rw [← z2]
    exact h p e R s m args below meth c H locs cells slots ls G C hP hS hl hr
  · exact h.elim
theorem sd_iinc {k : Nat} {n : Int} (hdg : decode (mB y) (pcA y i) = .ok (.iinc k n, len)) (ho : chkO y i (pcA y i) (.iinc k n) len o = true) (h : qStep Ls xs (PM l ad dC dI aC b Ls xs) y i o L stk M Q) : PM l ad dC dI aC b Ls xs y i L stk M Q := by
  obtain ⟨c0, a0, b0, d0, v0, l0⟩ := o
  simp only [chkO, Bool.and_eq_true] at ho
  obtain ⟨⟨⟨⟨⟨g1, g2⟩, g3⟩, g4⟩, g5⟩, g6⟩ := ho
  have z0 := q_bq g1
  try dsimp only at z0
  subst z0
  have z3 := q_bq g2
  try dsimp only at z3
  subst z3
  have z5 : v0 = .int (Int32.ofInt n) := of_decide_eq_true g3
  subst z5
  have z1 := q_bq g5
  subst z1
  have z2 := q_bq g6
  replace h : qx_7 (PM l ad dC dI aC b Ls xs) y i _ L stk M Q := q_g1 h rfl
  dsimp only [qx_7] at h
  have z4 := Nat.le_of_ble_eq_true g4
  split at h
  · rename_i x d hg hd
    cases hd
    intro p e R s m args below meth c H locs cells slots ls G C hP hS hl hr
    obtain ⟨hx, hb, hml, hown, hts, -⟩ := id C
    obtain ⟨kk, hk⟩ := lcG_k (ad := ad) hg (fun q => by cases q)
    refine lv_iinc hx hb hdg hl hk rfl z4 (trL_S1 ad L _ (.int (x + Int32.ofInt n))) (fun ls hl => ?_)
    rw [← z2]
    exact h p e R s m args below meth c H locs cells slots ls G C hP hS hl hr
  · exact h.elim
theorem sd_iadd (hdg : decode (mB y) (pcA y i) = .ok (.iadd, len)) (ho : chkO y i (pcA y i) (.iadd) len o = true) (h : qStep Ls xs (PM l ad dC dI aC b Ls xs) y i o L stk M Q) : PM l ad dC dI aC b Ls xs y i L stk M Q := by
  obtain ⟨c0, a0, b0, d0, v0, l0⟩ := o
  simp only [chkO, Bool.and_eq_true] at ho
  obtain ⟨⟨g1, g2⟩, g3⟩ := ho
  have z0 := q_bq g1
  try dsimp only at z0
  subst z0
  have z1 := q_bq g2
  subst z1
  have z2 := q_bq g3
  replace h : qx_8 (PM l ad dC dI aC b Ls xs) y i qHalt L stk M Q := q_g2 h rfl rfl
  dsimp only [qx_8] at h
  split at h
  · intro p e R s m args below meth c H locs cells slots ls G C hP hS hl hr
    obtain ⟨hx, hb, hml, hown, hts, -⟩ := id C
    refine lv_iadd hx hb hdg ?_
    rw [← z2]
    exact h p e R s m args below meth c H locs cells slots ls G C hP hS hl hr
  · exact h.elim
theorem sd_isub (hdg : decode (mB y) (pcA y i) = .ok (.isub, len)) (ho : chkO y i (pcA y i) (.isub) len o = true) (h : qStep Ls xs (PM l ad dC dI aC b Ls xs) y i o L stk M Q) : PM l ad dC dI aC b Ls xs y i L stk M Q := by
  obtain ⟨c0, a0, b0, d0, v0, l0⟩ := o
  simp only [chkO, Bool.and_eq_true] at ho
  obtain ⟨⟨g1, g2⟩, g3⟩ := ho
  have z0 := q_bq g1
  try dsimp only at z0
  subst z0
  have z1 := q_bq g2
  subst z1
  have z2 := q_bq g3
  replace h : qx_9 (PM l ad dC dI aC b Ls xs) y i qHalt L stk M Q := q_g2 h rfl rfl
  dsimp only [qx_9] at h
  split at h
  · intro p e R s m args below meth c H locs cells slots ls G C hP hS hl hr
    obtain ⟨hx, hb, hml, hown, hts, -⟩ := id C
    refine lv_isub hx hb hdg ?_
    rw [← z2]
    exact h p e R s m args below meth c H locs cells slots ls G C hP hS hl hr
  · exact h.elim
theorem sd_imul (hdg : decode (mB y) (pcA y i) = .ok (.imul, len)) (ho : chkO y i (pcA y i) (.imul) len o = true) (h : qStep Ls xs (PM l ad dC dI aC b Ls xs) y i o L stk M Q) : PM l ad dC dI aC b Ls xs y i L stk M Q := by
  obtain ⟨c0, a0, b0, d0, v0, l0⟩ := o
  simp only [chkO, Bool.and_eq_true] at ho
  obtain ⟨⟨g1, g2⟩, g3⟩ := ho
  have z0 := q_bq g1
  try dsimp only at z0
  subst z0
  have z1 := q_bq g2
  subst z1
  have z2 := q_bq g3
  replace h : qx_10 (PM l ad dC dI aC b Ls xs) y i qHalt L stk M Q := q_g2 h rfl rfl
  dsimp only [qx_10] at h
  split at h
  · intro p e R s m args below meth c H locs cells slots ls G C hP hS hl hr
    obtain ⟨hx, hb, hml, hown, hts, -⟩ := id C
    refine lv_imul hx hb hdg ?_
    rw [← z2]
    exact h p e R s m args below meth c H locs cells slots ls G C hP hS hl hr
  · exact h.elim
theorem sd_iand (hdg : decode (mB y) (pcA y i) = .ok (.iand, len)) (ho : chkO y i (pcA y i) (.iand) len o = true) (h : qStep Ls xs (PM l ad dC dI aC b Ls xs) y i o L stk M Q) : PM l ad dC dI aC b Ls xs y i L stk M Q := by
  obtain ⟨c0, a0, b0, d0, v0, l0⟩ := o
  simp only [chkO, Bool.and_eq_true] at ho
  obtain ⟨⟨g1, g2⟩, g3⟩ := ho
  have z0 := q_bq g1
  try dsimp only at z0
  subst z0
  have z1 := q_bq g2
  subst z1
  have z2 := q_bq g3
  replace h : qx_11 (PM l ad dC dI aC b Ls xs) y i qHalt L stk M Q := q_g2 h rfl rfl
  dsimp only [qx_11] at h
  split at h
  · intro p e R s m args below meth c H locs cells slots ls G C hP hS hl hr
    obtain ⟨hx, hb, hml, hown, hts, -⟩ := id C
    refine lv_iand hx hb hdg ?_
    rw [← z2]
    exact h p e R s m args below meth c H locs cells slots ls G C hP hS hl hr
  · exact h.elim
theorem sd_ior (hdg : decode (mB y) (pcA y i) = .ok (.ior, len)) (ho : chkO y i (pcA y i) (.ior) len o = true) (h : qStep Ls xs (PM l ad dC dI aC b Ls xs) y i o L stk M Q) : PM l ad dC dI aC b Ls xs y i L stk M Q := by
  obtain ⟨c0, a0, b0, d0, v0, l0⟩ := o
  simp only [chkO, Bool.and_eq_true] at ho
  obtain ⟨⟨g1, g2⟩, g3⟩ := ho
  have z0 := q_bq g1
  try dsimp only at z0
  subst z0
  have z1 := q_bq g2
  subst z1
  have z2 := q_bq g3
  replace h : qx_12 (PM l ad dC dI aC b Ls xs) y i qHalt L stk M Q := q_g2 h rfl rfl
  dsimp only [qx_12] at h
  split at h
  · intro p e R s m args below meth c H locs cells slots ls G C hP hS hl hr
    obtain ⟨hx, hb, hml, hown, hts, -⟩ := id C
    refine lv_ior hx hb hdg ?_
    rw [← z2]
    exact h p e R s m args below meth c H locs cells slots ls G C hP hS hl hr
  · exact h.elim
theorem sd_ishl (hdg : decode (mB y) (pcA y i) = .ok (.ishl, len)) (ho : chkO y i (pcA y i) (.ishl) len o = true) (h : qStep Ls xs (PM l ad dC dI aC b Ls xs) y i o L stk M Q) : PM l ad dC dI aC b Ls xs y i L stk M Q := by
  obtain ⟨c0, a0, b0, d0, v0, l0⟩ := o
  simp only [chkO, Bool.and_eq_true] at ho
  obtain ⟨⟨g1, g2⟩, g3⟩ := ho
  have z0 := q_bq g1
  try dsimp only at z0
  subst z0
  have z1 := q_bq g2
  subst z1
  have z2 := q_bq g3
  replace h : qx_13 (PM l ad dC dI aC b Ls xs) y i qHalt L stk M Q := q_g2 h rfl rfl
  dsimp only [qx_13] at h
  split at h
  · intro p e R s m args below meth c H locs cells slots ls G C hP hS hl hr
    obtain ⟨hx, hb, hml, hown, hts, -⟩ := id C
    refine lv_ishl hx hb hdg ?_
    rw [← z2]
    exact h p e R s m args below meth c H locs cells slots ls G C hP hS hl hr
  · exact h.elim
theorem sd_ishr (hdg : decode (mB y) (pcA y i) = .ok (.ishr, len)) (ho : chkO y i (pcA y i) (.ishr) len o = true) (h : qStep Ls xs (PM l ad dC dI aC b Ls xs) y i o L stk M Q) : PM l ad dC dI aC b Ls xs y i L stk M Q := by
  obtain ⟨c0, a0, b0, d0, v0, l0⟩ := o
  simp only [chkO, Bool.and_eq_true] at ho
  obtain ⟨⟨g1, g2⟩, g3⟩ := ho
  have z0 := q_bq g1
  try dsimp only at z0
  subst z0
  have z1 := q_bq g2
  subst z1
  have z2 := q_bq g3
  replace h : qx_14 (PM l ad dC dI aC b Ls xs) y i qHalt L stk M Q := q_g2 h rfl rfl
  dsimp only [qx_14] at h
  split at h
  · intro p e R s m args below meth c H locs cells slots ls G C hP hS hl hr
    obtain ⟨hx, hb, hml, hown, hts, -⟩ := id C
    refine lv_ishr hx hb hdg ?_
    rw [← z2]
    exact h p e R s m args below meth c H locs cells slots ls G C hP hS hl hr
  · exact h.elim
theorem sd_idiv (hdg : decode (mB y) (pcA y i) = .ok (.idiv, len)) (ho : chkO y i (pcA y i) (.idiv) len o = true) (h : qStep Ls xs (PM l ad dC dI aC b Ls xs) y i o L stk M Q) : PM l ad dC dI aC b Ls xs y i L stk M Q := by
  obtain ⟨c0, a0, b0, d0, v0, l0⟩ := o
  simp only [chkO, Bool.and_eq_true] at ho
  obtain ⟨⟨g1, g2⟩, g3⟩ := ho
  have z0 := q_bq g1
  try dsimp only at z0
  subst z0
  have z1 := q_bq g2
  subst z1
  have z2 := q_bq g3
  replace h : qx_15 (PM l ad dC dI aC b Ls xs) y i qHalt L stk M Q := q_g2 h rfl rfl
  dsimp only [qx_15] at h
  split at h
  · intro p e R s m args below meth c H locs cells slots ls G C hP hS hl hr
    obtain ⟨hx, hb, hml, hown, hts, -⟩ := id C
    obtain ⟨hne, h⟩ := h
    refine lv_idiv hx hb hdg hne ?_
    rw [← z2]
    exact h p e R s m args below meth c H locs cells slots ls G C hP hS hl hr
  · exact h.elim
theorem sd_irem (hdg : decode (mB y) (pcA y i) = .ok (.irem, len)) (ho : chkO y i (pcA y i) (.irem) len o = true) (h : qStep Ls xs (PM l ad dC dI aC b Ls xs) y i o L stk M Q) : PM l ad dC dI aC b Ls xs y i L stk M Q := by
  obtain ⟨c0, a0, b0, d0, v0, l0⟩ := o
  simp only [chkO, Bool.and_eq_true] at ho
  obtain ⟨⟨g1, g2⟩, g3⟩ := ho
  have z0 := q_bq g1
  try dsimp only at z0
  subst z0
  have z1 := q_bq g2
  subst z1
  have z2 := q_bq g3
  replace h : qx_16 (PM l ad dC dI aC b Ls xs) y i qHalt L stk M Q := q_g2 h rfl rfl
  dsimp only [qx_16] at h
  split at h
  · intro p e R s m args below meth c H locs cells slots ls G C hP hS hl hr
    obtain ⟨hx, hb, hml, hown, hts, -⟩ := id C
    obtain ⟨hne, h⟩ := h
    refine lv_irem hx hb hdg hne ?_
    rw [← z2]
    exact h p e R s m args below meth c H locs cells slots ls G C hP hS hl hr
  · exact h.elim
theorem sd_ineg (hdg : decode (mB y) (pcA y i) = .ok (.ineg, len)) (ho : chkO y i (pcA y i) (.ineg) len o = true) (h : qStep Ls xs (PM l ad dC dI aC b Ls xs) y i o L stk M Q) : PM l ad dC dI aC b Ls xs y i L stk M Q := by
  obtain ⟨c0, a0, b0, d0, v0, l0⟩ := o
  simp only [chkO, Bool.and_eq_true] at ho
  obtain ⟨⟨g1, g2⟩, g3⟩ := ho
  have z0 := q_bq g1
  try dsimp only at z0
  subst z0
  have z1 := q_bq g2
  subst z1
  have z2 := q_bq g3
  replace h : qx_17 (PM l ad dC dI aC b Ls xs) y i qHalt L stk M Q := q_g2 h rfl rfl
  dsimp only [qx_17] at h
  split at h
  · intro p e R s m args below meth c H locs cells slots ls G C hP hS hl hr
    obtain ⟨hx, hb, hml, hown, hts, -⟩ := id C
    refine lv_ineg hx hb hdg ?_
    rw [← z2]
    exact h p e R s m args below meth c H locs cells slots ls G C hP hS hl hr
  · exact h.elim
theorem sd_ladd (hdg : decode (mB y) (pcA y i) = .ok (.ladd, len)) (ho : chkO y i (pcA y i) (.ladd) len o = true) (h : qStep Ls xs (PM l ad dC dI aC b Ls xs) y i o L stk M Q) : PM l ad dC dI aC b Ls xs y i L stk M Q := by
  obtain ⟨c0, a0, b0, d0, v0, l0⟩ := o
  simp only [chkO, Bool.and_eq_true] at ho
  obtain ⟨⟨g1, g2⟩, g3⟩ := ho
  have z0 := q_bq g1
  try dsimp only at z0
  subst z0
  have z1 := q_bq g2
  subst z1
  have z2 := q_bq g3
  replace h : qx_18 (PM l ad dC dI aC b Ls xs) y i qHalt L stk M Q := q_g2 h rfl rfl
  dsimp only [qx_18] at h
  split at h
  · intro p e R s m args below meth c H locs cells slots ls G C hP hS hl hr
    obtain ⟨hx, hb, hml, hown, hts, -⟩ := id C
    refine lv_ladd hx hb hdg ?_
    rw [← z2]
    exact h p e R s m args below meth c H locs cells slots ls G C hP hS hl hr
  · exact h.elim
theorem sd_lsub (hdg : decode (mB y) (pcA y i) = .ok (.lsub, len)) (ho : chkO y i (pcA y i) (.lsub) len o = true) (h : qStep Ls xs (PM l ad dC dI aC b Ls xs) y i o L stk M Q) : PM l ad dC dI aC b Ls xs y i L stk M Q := by
  obtain ⟨c0, a0, b0, d0, v0, l0⟩ := o
  simp only [chkO, Bool.and_eq_true] at ho
  obtain ⟨⟨g1, g2⟩, g3⟩ := ho
  have z0 := q_bq g1
  try dsimp only at z0
  subst z0
  have z1 := q_bq g2
  subst z1
  have z2 := q_bq g3
  replace h : qx_19 (PM l ad dC dI aC b Ls xs) y i qHalt L stk M Q := q_g2 h rfl rfl
  dsimp only [qx_19] at h
  split at h
  · intro p e R s m args below meth c H locs cells slots ls G C hP hS hl hr
    obtain ⟨hx, hb, hml, hown, hts, -⟩ := id C
    refine lv_lsub hx hb hdg ?_
    rw [← z2]
    exact h p e R s m args below meth c H locs cells slots ls G C hP hS hl hr
  · exact h.elim
theorem sd_lmul (hdg : decode (mB y) (pcA y i) = .ok (.lmul, len)) (ho : chkO y i (pcA y i) (.lmul) len o = true) (h : qStep Ls xs (PM l ad dC dI aC b Ls xs) y i o L stk M Q) : PM l ad dC dI aC b Ls xs y i L stk M Q := by
  obtain ⟨c0, a0, b0, d0, v0, l0⟩ := o
  simp only [chkO, Bool.and_eq_true] at ho
  obtain ⟨⟨g1, g2⟩, g3⟩ := ho
  have z0 := q_bq g1
  try dsimp only at z0
  subst z0
  have z1 := q_bq g2
  subst z1
  have z2 := q_bq g3
  replace h : qx_20 (PM l ad dC dI aC b Ls xs) y i qHalt L stk M Q := q_g2 h rfl rfl
  dsimp only [qx_20] at h
  split at h
  · intro p e R s m args below meth c H locs cells slots ls G C hP hS hl hr
    obtain ⟨hx, hb, hml, hown, hts, -⟩ := id C
    refine lv_lmul hx hb hdg ?_
    rw [← z2]
    exact h p e R s m args below meth c H locs cells slots ls G C hP hS hl hr
  · exact h.elim
theorem sd_ldiv (hdg : decode (mB y) (pcA y i) = .ok (.ldiv, len)) (ho : chkO y i (pcA y i) (.ldiv) len o = true) (h : qStep Ls xs (PM l ad dC dI aC b Ls xs) y i o L stk M Q) : PM l ad dC dI aC b Ls xs y i L stk M Q := by
  obtain ⟨c0, a0, b0, d0, v0, l0⟩ := o
  simp only [chkO, Bool.and_eq_true] at ho
  obtain ⟨⟨g1, g2⟩, g3⟩ := ho
  have z0 := q_bq g1
  try dsimp only at z0
  subst z0
  have z1 := q_bq g2
  subst z1
  have z2 := q_bq g3
  replace h : qx_21 (PM l ad dC dI aC b Ls xs) y i qHalt L stk M Q := q_g2 h rfl rfl
  dsimp only [qx_21] at h
  split at h
  · intro p e R s m args below meth c H locs cells slots ls G C hP hS hl hr
    obtain ⟨hx, hb, hml, hown, hts, -⟩ := id C
    obtain ⟨hne, h⟩ := h
    refine lv_ldiv hx hb hdg hne ?_
    rw [← z2]
    exact h p e R s m args below meth c H locs cells slots ls G C hP hS hl hr
  · exact h.elim
theorem sd_lrem (hdg : decode (mB y) (pcA y i) = .ok (.lrem, len)) (ho : chkO y i (pcA y i) (.lrem) len o = true) (h : qStep Ls xs (PM l ad dC dI aC b Ls xs) y i o L stk M Q) : PM l ad dC dI aC b Ls xs y i L stk M Q := by
  obtain ⟨c0, a0, b0, d0, v0, l0⟩ := o
  simp only [chkO, Bool.and_eq_true] at ho
  obtain ⟨⟨g1, g2⟩, g3⟩ := ho
  have z0 := q_bq g1
  try dsimp only at z0
  subst z0
  have z1 := q_bq g2
  subst z1
  have z2 := q_bq g3
  replace h : qx_22 (PM l ad dC dI aC b Ls xs) y i qHalt L stk M Q := q_g2 h rfl rfl
  dsimp only [qx_22] at h
  split at h
  · intro p e R s m args below meth c H locs cells slots ls G C hP hS hl hr
    obtain ⟨hx, hb, hml, hown, hts, -⟩ := id C
    obtain ⟨hne, h⟩ := h
    refine lv_lrem hx hb hdg hne ?_
    rw [← z2]
    exact h p e R s m args below meth c H locs cells slots ls G C hP hS hl hr
  · exact h.elim
theorem sd_lneg (hdg : decode (mB y) (pcA y i) = .ok (.lneg, len)) (ho : chkO y i (pcA y i) (.lneg) len o = true) (h : qStep Ls xs (PM l ad dC dI aC b Ls xs) y i o L stk M Q) : PM l ad dC dI aC b Ls xs y i L stk M Q := by
  obtain ⟨c0, a0, b0, d0, v0, l0⟩ := o
  simp only [chkO, Bool.and_eq_true] at ho
  obtain ⟨⟨g1, g2⟩, g3⟩ := ho
  have z0 := q_bq g1
  try dsimp only at z0
  subst z0
  have z1 := q_bq g2
  subst z1
  have z2 := q_bq g3
  replace h : qx_23 (PM l ad dC dI aC b Ls xs) y i qHalt L stk M Q := q_g2 h rfl rfl
  dsimp only [qx_23] at h
  split at h
  · intro p e R s m args below meth c H locs cells slots ls G C hP hS hl hr
    obtain ⟨hx, hb, hml, hown, hts, -⟩ := id C
    refine lv_lneg hx hb hdg ?_
    rw [← z2]
    exact h p e R s m args below meth c H locs cells slots ls G C hP hS hl hr
  · exact h.elim
theorem sd_lshl (hdg : decode (mB y) (pcA y i) = .ok (.lshl, len)) (ho : chkO y i (pcA y i) (.lshl) len o = true) (h : qStep Ls xs (PM l ad dC dI aC b Ls xs) y i o L stk M Q) : PM l ad dC dI aC b Ls xs y i L stk M Q := by
  obtain ⟨c0, a0, b0, d0, v0, l0⟩ := o
  simp only [chkO, Bool.and_eq_true] at ho
  obtain ⟨⟨g1, g2⟩, g3⟩ := ho
  have z0 := q_bq g1
  try dsimp only at z0
  subst z0
  have z1 := q_bq g2
  subst z1
  have z2 := q_bq g3
  replace h : qx_24 (PM l ad dC dI aC b Ls xs) y i qHalt L stk M Q := q_g2 h rfl rfl
  dsimp only [qx_24] at h
  split at h
  · intro p e R s m args below meth c H locs cells slots ls G C hP hS hl hr
    obtain ⟨hx, hb, hml, hown, hts, -⟩ := id C
    refine lv_lshl hx hb hdg rfl ?_
    rw [← z2]
    exact h p e R s m args below meth c H locs cells slots ls G C hP hS hl hr
  · exact h.elim
theorem sd_lcmp (hdg : decode (mB y) (pcA y i) = .ok (.lcmp, len)) (ho : chkO y i (pcA y i) (.lcmp) len o = true) (h : qStep Ls xs (PM l ad dC dI aC b Ls xs) y i o L stk M Q) : PM l ad dC dI aC b Ls xs y i L stk M Q := by
  obtain ⟨c0, a0, b0, d0, v0, l0⟩ := o
  simp only [chkO, Bool.and_eq_true] at ho
  obtain ⟨⟨g1, g2⟩, g3⟩ := ho
  have z0 := q_bq g1
  try dsimp only at z0
  subst z0
  have z1 := q_bq g2
  subst z1
  have z2 := q_bq g3
  replace h : qx_25 (PM l ad dC dI aC b Ls xs) y i qHalt L stk M Q := q_g2 h rfl rfl
  dsimp only [qx_25] at h
  split at h
  · intro p e R s m args below meth c H locs cells slots ls G C hP hS hl hr
    obtain ⟨hx, hb, hml, hown, hts, -⟩ := id C
    refine W.lcmp hx hb hdg ?_
    rw [← z2]
    exact h p e R s m args below meth c H locs cells slots ls G C hP hS hl hr
  · exact h.elim
theorem sd_i2l (hdg : decode (mB y) (pcA y i) = .ok (.i2l, len)) (ho : chkO y i (pcA y i) (.i2l) len o = true) (h : qStep Ls xs (PM l ad dC dI aC b Ls xs) y i o L stk M Q) : PM l ad dC dI aC b Ls xs y i L stk M Q := by
  obtain ⟨c0, a0, b0, d0, v0, l0⟩ := o
  simp only [chkO, Bool.and_eq_true] at ho
  obtain ⟨⟨g1, g2⟩, g3⟩ := ho
  have z0 := q_bq g1
  try dsimp only at z0
  subst z0
  have z1 := q_bq g2
  subst z1
  have z2 := q_bq g3
  replace h : qx_26 (PM l ad dC dI aC b Ls xs) y i qHalt L stk M Q := q_g2 h rfl rfl
  dsimp only [qx_26] at h
  split at h
  · intro p e R s m args below meth c H locs cells slots ls G C hP hS hl hr
    obtain ⟨hx, hb, hml, hown, hts, -⟩ := id C
    refine lv_i2l hx hb hdg rfl ?_
    rw [← z2]
    exact h p e R s m args below meth c H locs cells slots ls G C hP hS hl hr
  · exact h.elim
theorem sd_l2i (hdg : decode (mB y) (pcA y i) = .ok (.l2i, len)) (ho : chkO y i (pcA y i) (.l2i) len o = true) (h : qStep Ls xs (PM l ad dC dI aC b Ls xs) y i o L stk M Q) : PM l ad dC dI aC b Ls xs y i L stk M Q := by
  obtain ⟨c0, a0, b0, d0, v0, l0⟩ := o
  simp only [chkO, Bool.and_eq_true] at ho
  obtain ⟨⟨g1, g2⟩, g3⟩ := ho
  have z0 := q_bq g1
  try dsimp only at z0
  subst z0
  have z1 := q_bq g2
  subst z1
  have z2 := q_bq g3
  replace h : qx_27 (PM l ad dC dI aC b Ls xs) y i qHalt L stk M Q := q_g2 h rfl rfl
  dsimp only [qx_27] at h
  split at h
  · intro p e R s m args below meth c H locs cells slots ls G C hP hS hl hr
    obtain ⟨hx, hb, hml, hown, hts, -⟩ := id C
    refine lv_l2i hx hb hdg rfl ?_
    rw [← z2]
    exact h p e R s m args below meth c H locs cells slots ls G C hP hS hl hr
  · exact h.elim
theorem sd_lxor (hdg : decode (mB y) (pcA y i) = .ok (.lxor, len)) (ho : chkO y i (pcA y i) (.lxor) len o = true) (h : qStep Ls xs (PM l ad dC dI aC b Ls xs) y i o L stk M Q) : PM l ad dC dI aC b Ls xs y i L stk M Q := by
  obtain ⟨c0, a0, b0, d0, v0, l0⟩ := o
  simp only [chkO, Bool.and_eq_true] at ho
  obtain ⟨⟨g1, g2⟩, g3⟩ := ho
  have z0 := q_bq g1
  try dsimp only at z0
  subst z0
  have z1 := q_bq g2
  subst z1
  have z2 := q_bq g3
  replace h : qx_57 Ls xs (PM l ad dC dI aC b Ls xs) y i qHalt L stk M Q := q_g6 h rfl rfl rfl rfl rfl rfl
  dsimp only [qx_57] at h
  split at h
  · intro p e R s m args below meth c H locs cells slots ls G C hP hS hl hr
    obtain ⟨hx, hb, hml, hown, hts, -⟩ := id C
    refine lv_lxor hx hb hdg ?_
    rw [← z2]
    exact h p e R s m args below meth c H locs cells slots ls G C hP hS hl hr
  · exact h.elim
theorem sd_ifCond {cc : ClassFile.Cond} {off : Int} (hdg : decode (mB y) (pcA y i) = .ok (.ifCond cc off, len)) (ho : chkO y i (pcA y i) (.ifCond cc off) len o = true) (h : qStep Ls xs (PM l ad dC dI aC b Ls xs) y i o L stk M Q) : PM l ad dC dI aC b Ls xs y i L stk M Q := by
  obtain ⟨c0, a0, b0, d0, v0, l0⟩ := o
  simp only [chkO, Bool.and_eq_true] at ho
  obtain ⟨⟨⟨⟨g1, g2⟩, g3⟩, g4⟩, g5⟩ := ho
  have z0 := q_bq g1
  try dsimp only at z0
  subst z0
  have z3 := q_bq g2
  try dsimp only at z3
  subst z3
  have z4 : (pcA y i : Int) + off = (pcA y b0 : Int) := of_decide_eq_true g3
  have z1 := q_bq g4
  subst z1
  have z2 := q_bq g5
  replace h : qx_28 (PM l ad dC dI aC b Ls xs) y i _ L stk M Q := q_g3 h rfl rfl rfl
  dsimp only [qx_28] at h
  split at h
  · intro p e R s m args below meth c H locs cells slots ls G C hP hS hl hr
    obtain ⟨hx, hb, hml, hown, hts, -⟩ := id C
    obtain ⟨h1, h2⟩ := h
    cases cc
    · refine lv_if_eq hx hb hdg z4 (fun hc => ?_) (fun hc => ?_)
      · exact h1 hc p e R s m args below meth c H locs cells slots ls G C hP hS hl hr
      · rw [← z2]
        exact h2 hc p e R s m args below meth c H locs cells slots ls G C hP hS hl hr
    · refine lv_if_ne hx hb hdg z4 (fun hc => ?_) (fun hc => ?_)
      · exact h1 hc p e R s m args below meth c H locs cells slots ls G C hP hS hl hr
      · rw [← z2]
        exact h2 (fun z => z hc) p e R s m args below meth c H locs cells slots ls G C hP hS hl hr
    · refine lv_if_lt hx hb hdg z4 (fun hc => ?_) (fun hc => ?_)
      · exact h1 hc p e R s m args below meth c H locs cells slots ls G C hP hS hl hr
      · rw [← z2]
        exact h2 hc p e R s m args below meth c H locs cells slots ls G C hP hS hl hr
    · refine lv_if_ge hx hb hdg z4 (fun hc => ?_) (fun hc => ?_)
      · exact h1 hc p e R s m args below meth c H locs cells slots ls G C hP hS hl hr
      · rw [← z2]
        exact h2 hc p e R s m args below meth c H locs cells slots ls G C hP hS hl hr
    · refine lv_if_gt hx hb hdg z4 (fun hc => ?_) (fun hc => ?_)
      · exact h1 hc p e R s m args below meth c H locs cells slots ls G C hP hS hl hr
      · rw [← z2]
        exact h2 hc p e R s m args below meth c H locs cells slots ls G C hP hS hl hr
    · refine lv_if_le hx hb hdg z4 (fun hc => ?_) (fun hc => ?_)
      · exact h1 hc p e R s m args below meth c H locs cells slots ls G C hP hS hl hr
      · rw [← z2]
        exact h2 hc p e R s m args below meth c H locs cells slots ls G C hP hS hl hr
  · exact h.elim
theorem sd_if_icmp {cc : ClassFile.Cond} {off : Int} (hdg : decode (mB y) (pcA y i) = .ok (.if_icmp cc off, len)) (ho : chkO y i (pcA y i) (.if_icmp cc off) len o = true) (h : qStep Ls xs (PM l ad dC dI aC b Ls xs) y i o L stk M Q) : PM l ad dC dI aC b Ls xs y i L stk M Q := by
  obtain ⟨c0, a0, b0, d0, v0, l0⟩ := o
  simp only [chkO, Bool.and_eq_true] at ho
  obtain ⟨⟨⟨⟨g1, g2⟩, g3⟩, g4⟩, g5⟩ := ho
  have z0 := q_bq g1
  try dsimp only at z0
  subst z0
  have z3 := q_bq g2
  try dsimp only at z3
  subst z3
  have z4 : (pcA y i : Int) + off = (pcA y b0 : Int) := of_decide_eq_true g3
  have z1 := q_bq g4
  subst z1
  have z2 := q_bq g5
  replace h : qx_29 (PM l ad dC dI aC b Ls xs) y i _ L stk M Q := q_g3 h rfl rfl rfl
  dsimp only [qx_29] at h
  split at h
  · intro p e R s m args below meth c H locs cells slots ls G C hP hS hl hr
    obtain ⟨hx, hb, hml, hown, hts, -⟩ := id C
    obtain ⟨h1, h2⟩ := h
    cases cc
    · refine lv_icmp_eq hx hb hdg z4 (fun hc => ?_) (fun hc => ?_)
      · exact h1 hc p e R s m args below meth c H locs cells slots ls G C hP hS hl hr
      · rw [← z2]
        exact h2 hc p e R s m args below meth c H locs cells slots ls G C hP hS hl hr
    · refine lv_icmp_ne hx hb hdg z4 (fun hc => ?_) (fun hc => ?_)
      · exact h1 hc p e R s m args below meth c H locs cells slots ls G C hP hS hl hr
      · rw [← z2]
        exact h2 (fun z => z hc) p e R s m args below meth c H locs cells slots ls G C hP hS hl hr
    · refine lv_icmp_lt hx hb hdg z4 (fun hc => ?_) (fun hc => ?_)
      · exact h1 hc p e R s m args below meth c H locs cells slots ls G C hP hS hl hr
      · rw [← z2]
        exact h2 hc p e R s m args below meth c H locs cells slots ls G C hP hS hl hr
    · refine lv_icmp_ge hx hb hdg z4 (fun hc => ?_) (fun hc => ?_)
      · exact h1 hc p e R s m args below meth c H locs cells slots ls G C hP hS hl hr
      · rw [← z2]
        exact h2 hc p e R s m args below meth c H locs cells slots ls G C hP hS hl hr
    · refine lv_icmp_gt hx hb hdg z4 (fun hc => ?_) (fun hc => ?_)
      · exact h1 hc p e R s m args below meth c H locs cells slots ls G C hP hS hl hr
      · rw [← z2]
        exact h2 hc p e R s m args below meth c H locs cells slots ls G C hP hS hl hr
    · refine lv_icmp_le hx hb hdg z4 (fun hc => ?_) (fun hc => ?_)
      · exact h1 hc p e R s m args below meth c H locs cells slots ls G C hP hS hl hr
      · rw [← z2]
        exact h2 hc p e R s m args below meth c H locs cells slots ls G C hP hS hl hr
  · exact h.elim
theorem sd_ifnull {off : Int} (hdg : decode (mB y) (pcA y i) = .ok (.ifnull off, len)) (ho : chkO y i (pcA y i) (.ifnull off) len o = true) (h : qStep Ls xs (PM l ad dC dI aC b Ls xs) y i o L stk M Q) : PM l ad dC dI aC b Ls xs y i L stk M Q := by
  obtain ⟨c0, a0, b0, d0, v0, l0⟩ := o
  simp only [chkO, Bool.and_eq_true] at ho
  obtain ⟨⟨⟨g1, g2⟩, g3⟩, g4⟩ := ho
  have z0 := q_bq g1
  try dsimp only at z0
  subst z0
  have z4 : (pcA y i : Int) + off = (pcA y b0 : Int) := of_decide_eq_true g2
  have z1 := q_bq g3
  subst z1
  have z2 := q_bq g4
  replace h : qx_30 (PM l ad dC dI aC b Ls xs) y i _ L stk M Q := q_g3 h rfl rfl rfl
  dsimp only [qx_30] at h
  split at h
  · intro p e R s m args below meth c H locs cells slots ls G C hP hS hl hr
    obtain ⟨hx, hb, hml, hown, hts, -⟩ := id C
    refine lv_ifnullN hx hb hdg z4 ?_
    exact h p e R s m args below meth c H locs cells slots ls G C hP hS hl hr
  · intro p e R s m args below meth c H locs cells slots ls G C hP hS hl hr
    obtain ⟨hx, hb, hml, hown, hts, -⟩ := id C
    refine lv_ifnull hx hb hdg ?_
    rw [← z2]
    exact h p e R s m args below meth c H locs cells slots ls G C hP hS hl hr
  · exact h.elim
theorem sd_ifnonnull {off : Int} (hdg : decode (mB y) (pcA y i) = .ok (.ifnonnull off, len)) (ho : chkO y i (pcA y i) (.ifnonnull off) len o = true) (h : qStep Ls xs (PM l ad dC dI aC b Ls xs) y i o L stk M Q) : PM l ad dC dI aC b Ls xs y i L stk M Q := by
  obtain ⟨c0, a0, b0, d0, v0, l0⟩ := o
  simp only [chkO, Bool.and_eq_true] at ho
  obtain ⟨⟨⟨g1, g2⟩, g3⟩, g4⟩ := ho
  have z0 := q_bq g1
  try dsimp only at z0
  subst z0
  have z4 : (pcA y i : Int) + off = (pcA y b0 : Int) := of_decide_eq_true g2
  have z1 := q_bq g3
  subst z1
  have z2 := q_bq g4
  replace h : qx_31 (PM l ad dC dI aC b Ls xs) y i _ L stk M Q := q_g3 h rfl rfl rfl
  dsimp only [qx_31] at h
  split at h
  · intro p e R s m args below meth c H locs cells slots ls G C hP hS hl hr
    obtain ⟨hx, hb, hml, hown, hts, -⟩ := id C
    refine lv_ifnonnullN hx hb hdg ?_
    rw [← z2]
    exact h p e R s m args below meth c H locs cells slots ls G C hP hS hl hr
  · intro p e R s m args below meth c H locs cells slots ls G C hP hS hl hr
    obtain ⟨hx, hb, hml, hown, hts, -⟩ := id C
    refine lv_ifnonnull hx hb hdg z4 ?_
    exact h p e R s m args below meth c H locs cells slots ls G C hP hS hl hr
  · exact h.elim
theorem sd_goto {off : Int} (hdg : decode (mB y) (pcA y i) = .ok (.goto off, len)) (ho : chkO y i (pcA y i) (.goto off) len o = true) (h : qStep Ls xs (PM l ad dC dI aC b Ls xs) y i o L stk M Q) : PM l ad dC dI aC b Ls xs y i L stk M Q := by
  obtain ⟨c0, a0, b0, d0, v0, l0⟩ := o
  simp only [chkO, Bool.and_eq_true] at ho
  obtain ⟨⟨g1, g2⟩, g3⟩ := ho
  have z0 := q_bq g1
  try dsimp only at z0
  subst z0
  have z4 : (pcA y i : Int) + off = (pcA y b0 : Int) := of_decide_eq_true g2
  have z1 := q_bq g3
  subst z1
  replace h : qx_32 (PM l ad dC dI aC b Ls xs) y i _ L stk M Q := q_g3 h rfl rfl rfl
  dsimp only [qx_32] at h
  intro p e R s m args below meth c H locs cells slots ls G C hP hS hl hr
  obtain ⟨hx, hb, hml, hown, hts, -⟩ := id C
  refine lv_goto hx hb hdg z4 ?_
  exact h p e R s m args below meth c H locs cells slots ls G C hP hS hl hr
theorem sd_dup (hdg : decode (mB y) (pcA y i) = .ok (.dup, len)) (ho : chkO y i (pcA y i) (.dup) len o = true) (h : qStep Ls xs (PM l ad dC dI aC b Ls xs) y i o L stk M Q) : PM l ad dC dI aC b Ls xs y i L stk M Q := by
  obtain ⟨c0, a0, b0, d0, v0, l0⟩ := o
  simp only [chkO, Bool.and_eq_true] at ho
  obtain ⟨⟨g1, g2⟩, g3⟩ := ho
  have z0 := q_bq g1
  try dsimp only at z0
  subst z0
  have z1 := q_bq g2
  subst z1
  have z2 := q_bq g3
  replace h : qx_55 Ls xs (PM l ad dC dI aC b Ls xs) y i qHalt L stk M Q := q_g6 h rfl rfl rfl rfl rfl rfl
  dsimp only [qx_55] at h
  split at h
  · intro p e R s m args below meth c H locs cells slots ls G C hP hS hl hr
    obtain ⟨hx, hb, hml, hown, hts, -⟩ := id C
    refine lv_dup hx hb hdg rfl ?_
    rw [← z2]
    exact h p e R s m args below meth c H locs cells slots ls G C hP hS hl hr
  · intro p e R s m args below meth c H locs cells slots ls G C hP hS hl hr
    obtain ⟨hx, hb, hml, hown, hts, -⟩ := id C
    refine lv_dup hx hb hdg rfl ?_
    rw [← z2]
    exact h p e R s m args below meth c H locs cells slots ls G C hP hS hl hr
  · exact h.elim
theorem sd_dup2 (hdg : decode (mB y) (pcA y i) = .ok (.dup2, len)) (ho : chkO y i (pcA y i) (.dup2) len o = true) (h : qStep Ls xs (PM l ad dC dI aC b Ls xs) y i o L stk M Q) : PM l ad dC dI aC b Ls xs y i L stk M Q := by
  obtain ⟨c0, a0, b0, d0, v0, l0⟩ := o
  simp only [chkO, Bool.and_eq_true] at ho
  obtain ⟨⟨g1, g2⟩, g3⟩ := ho
  have z0 := q_bq g1
  try dsimp only at z0
  subst z0
  have z1 := q_bq g2
  subst z1
  have z2 := q_bq g3
  replace h : qx_56 Ls xs (PM l ad dC dI aC b Ls xs) y i qHalt L stk M Q := q_g6 h rfl rfl rfl rfl rfl rfl
  dsimp only [qx_56] at h
  split at h
  · intro p e R s m args below meth c H locs cells slots ls G C hP hS hl hr
    obtain ⟨hx, hb, hml, hown, hts, -⟩ := id C
    refine lv_dup2_11 hx hb hdg rfl rfl ?_
    rw [← z2]
    exact h p e R s m args below meth c H locs cells slots ls G C hP hS hl hr
  · exact h.elim
theorem sd_ireturn (hdg : decode (mB y) (pcA y i) = .ok (.ireturn, len)) (ho : chkO y i (pcA y i) (.ireturn) len o = true) (h : qStep Ls xs (PM l ad dC dI aC b Ls xs) y i o L stk M Q) : PM l ad dC dI aC b Ls xs y i L stk M Q := by
  obtain ⟨c0, a0, b0, d0, v0, l0⟩ := o
  simp only [chkO, Bool.and_eq_true, Bool.or_eq_true] at ho
  obtain ⟨g, g3⟩ := ho
  have z1 := q_bq g3
  subst z1
  rcases g with ⟨g1, g2⟩ | ⟨g1, g2⟩
  · have z0 := q_bq g1
    try dsimp only at z0
    subst z0
    replace h : qx_50 Ls xs (PM l ad dC dI aC b Ls xs) y i qHalt L stk M Q := q_g6 h rfl rfl rfl rfl rfl rfl
    dsimp only [qx_50] at h
    split at h
    · intro p e R s m args below meth c H locs cells slots ls G C hP hS hl hr
      exact hr (some (.int _)) M H locs ls (pcA y i) ⟨hdg, .int, of_decide_eq_true g2, rfl⟩ h hP hS
    · exact h.elim
  · have z0 := q_bq g1
    try dsimp only at z0
    subst z0
    replace h : qx_51 Ls xs (PM l ad dC dI aC b Ls xs) y i qHalt L stk M Q := q_g6 h rfl rfl rfl rfl rfl rfl
    dsimp only [qx_51] at h
    split at h
    · intro p e R s m args below meth c H locs cells slots ls G C hP hS hl hr
      exact hr (some (.int _)) M H locs ls (pcA y i) ⟨hdg, .boolean, of_decide_eq_true g2, h.1⟩ h.2 hP hS
    · exact h.elim
theorem sd_lreturn (hdg : decode (mB y) (pcA y i) = .ok (.lreturn, len)) (ho : chkO y i (pcA y i) (.lreturn) len o = true) (h : qStep Ls xs (PM l ad dC dI aC b Ls xs) y i o L stk M Q) : PM l ad dC dI aC b Ls xs y i L stk M Q := by
  obtain ⟨c0, a0, b0, d0, v0, l0⟩ := o
  simp only [chkO, Bool.and_eq_true] at ho
  obtain ⟨⟨g1, g2⟩, g3⟩ := ho
  have z0 := q_bq g1
  try dsimp only at z0
  subst z0
  have z1 := q_bq g3
  subst z1
  replace h : qx_52 Ls xs (PM l ad dC dI aC b Ls xs) y i qHalt L stk M Q := q_g6 h rfl rfl rfl rfl rfl rfl
  dsimp only [qx_52] at h
  split at h
  · intro p e R s m args below meth c H locs cells slots ls G C hP hS hl hr
    exact hr (some (.long _)) M H locs ls (pcA y i) ⟨hdg, of_decide_eq_true g2⟩ h hP hS
  · exact h.elim
theorem sd_areturn (hdg : decode (mB y) (pcA y i) = .ok (.areturn, len)) (ho : chkO y i (pcA y i) (.areturn) len o = true) (h : qStep Ls xs (PM l ad dC dI aC b Ls xs) y i o L stk M Q) : PM l ad dC dI aC b Ls xs y i L stk M Q := by
  obtain ⟨c0, a0, b0, d0, v0, l0⟩ := o
  simp only [chkO, Bool.and_eq_true] at ho
  obtain ⟨⟨g1, g2⟩, g3⟩ := ho
  have z0 := q_bq g1
  try dsimp only at z0
  subst z0
  have z1 := q_bq g3
  subst z1
  replace h : qx_53 Ls xs (PM l ad dC dI aC b Ls xs) y i qHalt L stk M Q := q_g6 h rfl rfl rfl rfl rfl rfl
  dsimp only [qx_53] at h
  have hR : ∃ n, mR y = some (.object n) := by
    revert g2
    cases mR y with
    | none => intro g2; cases g2
    | some t => cases t <;> intro g2 <;> first | exact ⟨_, rfl⟩ | cases g2
  split at h
  · intro p e R s m args below meth c H locs cells slots ls G C hP hS hl hr
    exact hr (some (.ref _)) M H locs ls (pcA y i) ⟨hdg, hR⟩ h hP hS
  · intro p e R s m args below meth c H locs cells slots ls G C hP hS hl hr
    exact hr (some .null) M H locs ls (pcA y i) ⟨hdg, hR⟩ h hP hS
  · exact h.elim
theorem sd_return (hdg : decode (mB y) (pcA y i) = .ok (.return_, len)) (ho : chkO y i (pcA y i) (.return_) len o = true) (h : qStep Ls xs (PM l ad dC dI aC b Ls xs) y i o L stk M Q) : PM l ad dC dI aC b Ls xs y i L stk M Q := by
  obtain ⟨c0, a0, b0, d0, v0, l0⟩ := o
  simp only [chkO, Bool.and_eq_true] at ho
  obtain ⟨⟨g1, g2⟩, g3⟩ := ho
  have z0 := q_bq g1
  try dsimp only at z0
  subst z0
  have z1 := q_bq g3
  subst z1
  replace h : qx_54 Ls xs (PM l ad dC dI aC b Ls xs) y i qHalt L stk M Q := q_g6 h rfl rfl rfl rfl rfl rfl
  dsimp only [qx_54] at h
  split at h
  · intro p e R s m args below meth c H locs cells slots ls G C hP hS hl hr
    exact hr none M H locs ls (pcA y i) ⟨hdg, of_decide_eq_true g2⟩ h hP hS
  · exact h.elim
end QS
end
section
/-! the abstract machine stands for the machine: fields, arrays, switches -/
section QS
variable {l : Launch} {ad : Nat → Nat} {dC : Nat → ClassId} {dI : Nat → Nat → Nat} {aC : Nat → ClassId} {b Ls : Nat} {xs : Nat → Int32}
variable {y i len : Nat} {o : qOp} {L : qLc} {stk : List Value} {M : qMem} {Q : qPost}
theorem sd_getfield (hA : qAd ad b) {idx : Nat} (hdg : decode (mB y) (pcA y i) = .ok (.getfield idx, len)) (ho : chkO y i (pcA y i) (.getfield idx) len o = true) (h : qStep Ls xs (PM l ad dC dI aC b Ls xs) y i o L stk M Q) : PM l ad dC dI aC b Ls xs y i L stk M Q := by
  obtain ⟨c0, a0, b0, d0, v0, l0⟩ := o
  simp only [chkO, Bool.and_eq_true, Bool.or_eq_true] at ho
  obtain ⟨⟨g1, g2⟩, g3⟩ := ho
  have z1 := q_bq g1
  subst z1
  have z2 := q_bq g2
  rcases g3 with ((((g3 | g3) | g3) | g3) | g3) | g3
  · obtain ⟨⟨g4, g5⟩, g6⟩ := g3
    have z0 := q_bq g4
    try dsimp only at z0
    subst z0
    have z6 := q_bq g6
    try dsimp only at z6
    replace h : qx_34 (PM l ad dC dI aC b Ls xs) y i _ L stk M Q := q_g4 h rfl rfl rfl rfl
    dsimp only [qx_34] at h
    split at h
    · rename_i k st
      obtain ⟨h0, h⟩ := h
      simp only [chkF, Bool.and_eq_true] at g5
      obtain ⟨⟨⟨g7, g8⟩, g9⟩, g10⟩ := g5
      have w7 : a0 < 8 := Nat.le_of_ble_eq_true g7
      have w8 : b0 < cN a0 := Nat.le_of_ble_eq_true g8
      have w10 : (cT a0 b0).1 = cC a0 := of_decide_eq_true g10
      intro p e R s m args below meth c H locs cells slots ls G C hP hS hl hr
      obtain ⟨hx, hb, hml, hown, hts, -, -, -, -, hK, hX, hbl, hN⟩ := id C
      have hk44 : k < 44 := sh_lt (by omega)
      have he := wl_get (ad := ad) (aC := aC) (M := M) hk44
      rw [ent_o h0 w7] at he
      have hv : ((List.range (cN a0)).map (fv ad M a0 k))[b0]? = some (tr ad (.int (M.1 k b0))) := by
        rw [List.getElem?_map, List.getElem?_range w8]
        show some (fv ad M a0 k b0) = _
        unfold fv
        rw [z6]
        rfl
      refine va_get (D := (dC, dI)) hx hb hts (cls_w a0 w7) hown hK hP k he (cls_c a0 w7) b0 w8 (hts _ (tbw_T g9 rfl)) (fun x hx9 => by rw [← w10]; exact hx9) hv hdg ?_
      rw [← z2]
      exact h p e R s m args below meth c H locs cells slots ls G C hP hS hl hr
    · exact h.elim
  · obtain ⟨⟨g4, g5⟩, g6⟩ := g3
    have z0 := q_bq g4
    try dsimp only at z0
    subst z0
    have z6 := q_bq g6
    try dsimp only at z6
    replace h : qx_35 (PM l ad dC dI aC b Ls xs) y i _ L stk M Q := q_g4 h rfl rfl rfl rfl
    dsimp only [qx_35] at h
    split at h
    · rename_i k st
      obtain ⟨h0, h⟩ := h
      simp only [chkF, Bool.and_eq_true] at g5
      obtain ⟨⟨⟨g7, g8⟩, g9⟩, g10⟩ := g5
      have w7 : a0 < 8 := Nat.le_of_ble_eq_true g7
      have w8 : b0 < cN a0 := Nat.le_of_ble_eq_true g8
      have w10 : (cT a0 b0).1 = cC a0 := of_decide_eq_true g10
      intro p e R s m args below meth c H locs cells slots ls G C hP hS hl hr
      obtain ⟨hx, hb, hml, hown, hts, -, -, -, -, hK, hX, hbl, hN⟩ := id C
      have hk44 : k < 44 := sh_lt (by omega)
      have he := wl_get (ad := ad) (aC := aC) (M := M) hk44
      rw [ent_o h0 w7] at he
      have hv : ((List.range (cN a0)).map (fv ad M a0 k))[b0]? = some (tr ad (.long (M.2 k b0))) := by
        rw [List.getElem?_map, List.getElem?_range w8]
        show some (fv ad M a0 k b0) = _
        unfold fv
        rw [z6]
        rfl
      refine va_get (D := (dC, dI)) hx hb hts (cls_w a0 w7) hown hK hP k he (cls_c a0 w7) b0 w8 (hts _ (tbw_T g9 rfl)) (fun x hx9 => by rw [← w10]; exact hx9) hv hdg ?_
      rw [← z2]
      exact h p e R s m args below meth c H locs cells slots ls G C hP hS hl hr
    · exact h.elim
  · obtain ⟨⟨g4, g5⟩, g6⟩ := g3
    have z0 := q_bq g4
    try dsimp only at z0
    subst z0
    have z6 := q_bq g6
    try dsimp only at z6
    replace h : qx_36 (PM l ad dC dI aC b Ls xs) y i _ L stk M Q := q_g4 h rfl rfl rfl rfl
    dsimp only [qx_36] at h
    split at h
    · rename_i k st
      obtain ⟨h0, h⟩ := h
      simp only [chkF, Bool.and_eq_true] at g5
      obtain ⟨⟨⟨g7, g8⟩, g9⟩, g10⟩ := g5
      have w7 : a0 < 8 := Nat.le_of_ble_eq_true g7
      have w8 : b0 < cN a0 := Nat.le_of_ble_eq_true g8
      have w10 : (cT a0 b0).1 = cC a0 := of_decide_eq_true g10
      intro p e R s m args below meth c H locs cells slots ls G C hP hS hl hr
      obtain ⟨hx, hb, hml, hown, hts, -, -, -, -, hK, hX, hbl, hN⟩ := id C
      have hk44 : k < 44 := sh_lt (by omega)
      have he := wl_get (ad := ad) (aC := aC) (M := M) hk44
      rw [ent_o h0 w7] at he
      have hv : ((List.range (cN a0)).map (fv ad M a0 k))[b0]? = some (tr ad (.ref (rf k b0))) := by
        rw [List.getElem?_map, List.getElem?_range w8]
        show some (fv ad M a0 k b0) = _
        unfold fv
        rw [z6]
        rfl
      refine va_get (D := (dC, dI)) hx hb hts (cls_w a0 w7) hown hK hP k he (cls_c a0 w7) b0 w8 (hts _ (tbw_T g9 rfl)) (fun x hx9 => by rw [← w10]; exact hx9) hv hdg ?_
      rw [← z2]
      exact h p e R s m args below meth c H locs cells slots ls G C hP hS hl hr
    · exact h.elim
  · obtain ⟨⟨g4, g5⟩, g6⟩ := g3
    have z0 := q_bq g4
    try dsimp only at z0
    subst z0
    have z6 := q_bq g6
    try dsimp only at z6
    replace h : qx_60 (PM l ad dC dI aC b Ls xs) y i _ L stk M Q := q_g7 h rfl rfl rfl rfl rfl rfl
    dsimp only [qx_60] at h
    split at h
    · rename_i k st
      obtain ⟨h0, h⟩ := h
      simp only [chkG, Bool.and_eq_true] at g5
      obtain ⟨⟨⟨g7, g8⟩, g9⟩, g10⟩ := g5
      have w7 : a0 < 8 := Nat.le_of_ble_eq_true g7
      have w8 : b0 < cN a0 := Nat.le_of_ble_eq_true g8
      have w10 : (cT a0 b0).1 = cC a0 := of_decide_eq_true g10
      intro p e R s m args below meth c H locs cells slots ls G C hP hS hl hr
      obtain ⟨hx, hb, hml, hown, hts, -, -, -, -, hK, hX, hbl, hN⟩ := id C
      have hk44 : k < 44 := sh_lt (by omega)
      have he := wl_get (ad := ad) (aC := aC) (M := M) hk44
      rw [ent_o h0 w7] at he
      have hv : ((List.range (cN a0)).map (fv ad M a0 k))[b0]? = some (tr ad (.int (M.1 k b0))) := by
        rw [List.getElem?_map, List.getElem?_range w8]
        show some (fv ad M a0 k b0) = _
        unfold fv
        rw [z6]
        rfl
      have hq : ∃ t, t ∈ qNst ∧ qNw t = .fieldLinkNest (mO y) idx (cC a0) (cT a0 b0).2.1 (cT a0 b0).2.2.1 "StabilityAnalyzer" := by
        have q9 := of_decide_eq_true g9
        cases hz : qNst[d0]? with
        | none => rw [hz] at q9; cases q9
        | some t => rw [hz] at q9; exact ⟨t, List.mem_of_getElem? hz, Option.some.inj q9⟩
      obtain ⟨t, ht, hqt⟩ := hq
      have hln := hN t ht
      rw [hqt] at hln
      refine va_getN (D := (dC, dI)) hx hb hts (cls_w a0 w7) hown hK hP k he (cls_c a0 w7) b0 w8 (va_Nw.use rfl hln) (fun x hx9 => by rw [← w10]; exact hx9) hv hdg ?_
      rw [← z2]
      exact h p e R s m args below meth c H locs cells slots ls G C hP hS hl hr
    · exact h.elim
  · obtain ⟨⟨g4, g5⟩, g6⟩ := g3
    have z0 := q_bq g4
    try dsimp only at z0
    subst z0
    have z6 := q_bq g6
    try dsimp only at z6
    replace h : qx_61 (PM l ad dC dI aC b Ls xs) y i _ L stk M Q := q_g7 h rfl rfl rfl rfl rfl rfl
    dsimp only [qx_61] at h
    split at h
    · rename_i k st
      obtain ⟨h0, h⟩ := h
      simp only [chkG, Bool.and_eq_true] at g5
      obtain ⟨⟨⟨g7, g8⟩, g9⟩, g10⟩ := g5
      have w7 : a0 < 8 := Nat.le_of_ble_eq_true g7
      have w8 : b0 < cN a0 := Nat.le_of_ble_eq_true g8
      have w10 : (cT a0 b0).1 = cC a0 := of_decide_eq_true g10
      intro p e R s m args below meth c H locs cells slots ls G C hP hS hl hr
      obtain ⟨hx, hb, hml, hown, hts, -, -, -, -, hK, hX, hbl, hN⟩ := id C
      have hk44 : k < 44 := sh_lt (by omega)
      have he := wl_get (ad := ad) (aC := aC) (M := M) hk44
      rw [ent_o h0 w7] at he
      have hv : ((List.range (cN a0)).map (fv ad M a0 k))[b0]? = some (tr ad (.long (M.2 k b0))) := by
        rw [List.getElem?_map, List.getElem?_range w8]
        show some (fv ad M a0 k b0) = _
        unfold fv
        rw [z6]
        rfl
      have hq : ∃ t, t ∈ qNst ∧ qNw t = .fieldLinkNest (mO y) idx (cC a0) (cT a0 b0).2.1 (cT a0 b0).2.2.1 "StabilityAnalyzer" := by
        have q9 := of_decide_eq_true g9
        cases hz : qNst[d0]? with
        | none => rw [hz] at q9; cases q9
        | some t => rw [hz] at q9; exact ⟨t, List.mem_of_getElem? hz, Option.some.inj q9⟩
      obtain ⟨t, ht, hqt⟩ := hq
      have hln := hN t ht
      rw [hqt] at hln
      refine va_getN (D := (dC, dI)) hx hb hts (cls_w a0 w7) hown hK hP k he (cls_c a0 w7) b0 w8 (va_Nw.use rfl hln) (fun x hx9 => by rw [← w10]; exact hx9) hv hdg ?_
      rw [← z2]
      exact h p e R s m args below meth c H locs cells slots ls G C hP hS hl hr
    · exact h.elim
  · obtain ⟨⟨g4, g5⟩, g6⟩ := g3
    have z0 := q_bq g4
    try dsimp only at z0
    subst z0
    have z6 := q_bq g6
    try dsimp only at z6
    replace h : qx_62 (PM l ad dC dI aC b Ls xs) y i _ L stk M Q := q_g7 h rfl rfl rfl rfl rfl rfl
    dsimp only [qx_62] at h
    split at h
    · rename_i k st
      obtain ⟨h0, h⟩ := h
      simp only [chkG, Bool.and_eq_true] at g5
      obtain ⟨⟨⟨g7, g8⟩, g9⟩, g10⟩ := g5
      have w7 : a0 < 8 := Nat.le_of_ble_eq_true g7
      have w8 : b0 < cN a0 := Nat.le_of_ble_eq_true g8
      have w10 : (cT a0 b0).1 = cC a0 := of_decide_eq_true g10
      intro p e R s m args below meth c H locs cells slots ls G C hP hS hl hr
      obtain ⟨hx, hb, hml, hown, hts, -, -, -, -, hK, hX, hbl, hN⟩ := id C
      have hk44 : k < 44 := sh_lt (by omega)
      have he := wl_get (ad := ad) (aC := aC) (M := M) hk44
      rw [ent_o h0 w7] at he
      have hv : ((List.range (cN a0)).map (fv ad M a0 k))[b0]? = some (tr ad (.ref (rf k b0))) := by
        rw [List.getElem?_map, List.getElem?_range w8]
        show some (fv ad M a0 k b0) = _
        unfold fv
        rw [z6]
        rfl
      have hq : ∃ t, t ∈ qNst ∧ qNw t = .fieldLinkNest (mO y) idx (cC a0) (cT a0 b0).2.1 (cT a0 b0).2.2.1 "StabilityAnalyzer" := by
        have q9 := of_decide_eq_true g9
        cases hz : qNst[d0]? with
        | none => rw [hz] at q9; cases q9
        | some t => rw [hz] at q9; exact ⟨t, List.mem_of_getElem? hz, Option.some.inj q9⟩
      obtain ⟨t, ht, hqt⟩ := hq
      have hln := hN t ht
      rw [hqt] at hln
      refine va_getN (D := (dC, dI)) hx hb hts (cls_w a0 w7) hown hK hP k he (cls_c a0 w7) b0 w8 (va_Nw.use rfl hln) (fun x hx9 => by rw [← w10]; exact hx9) hv hdg ?_
      rw [← z2]
      exact h p e R s m args below meth c H locs cells slots ls G C hP hS hl hr
    · exact h.elim
theorem sd_putfield (hA : qAd ad b) {idx : Nat} (hdg : decode (mB y) (pcA y i) = .ok (.putfield idx, len)) (ho : chkO y i (pcA y i) (.putfield idx) len o = true) (h : qStep Ls xs (PM l ad dC dI aC b Ls xs) y i o L stk M Q) : PM l ad dC dI aC b Ls xs y i L stk M Q := by
  obtain ⟨c0, a0, b0, d0, v0, l0⟩ := o
  simp only [chkO, Bool.and_eq_true, Bool.or_eq_true] at ho
  obtain ⟨⟨g1, g2⟩, g3⟩ := ho
  have z1 := q_bq g1
  subst z1
  have z2 := q_bq g2
  rcases g3 with ((g3 | g3) | g3) | g3
  · obtain ⟨⟨⟨g4, g5⟩, gp⟩, g6⟩ := g3
    have z0 := q_bq g4
    try dsimp only at z0
    subst z0
    have z6 := q_bq g6
    try dsimp only at z6
    replace h : qx_37 (PM l ad dC dI aC b Ls xs) y i _ L stk M Q := q_g4 h rfl rfl rfl rfl
    dsimp only [qx_37] at h
    split at h
    · rename_i x k st
      obtain ⟨h0, h⟩ := h
      simp only [chkF, Bool.and_eq_true] at g5
      simp only [chkP, Bool.and_eq_true] at gp
      obtain ⟨⟨⟨g7, g8⟩, g9⟩, g10⟩ := g5
      obtain ⟨gp1, gp2⟩ := gp
      have w7 : a0 < 8 := Nat.le_of_ble_eq_true g7
      have w8 : b0 < cN a0 := Nat.le_of_ble_eq_true g8
      have w10 : (cT a0 b0).1 = cC a0 := of_decide_eq_true g10
      intro p e R s m args below meth c H locs cells slots ls G C hP hS hl hr
      obtain ⟨hx, hb, hml, hown, hts, -, -, -, -, hK, hX, hbl, hN⟩ := id C
      have hk44 : k < 44 := sh_lt (by omega)
      have he := wl_get (ad := ad) (aC := aC) (M := M) hk44
      rw [ent_o h0 w7] at he
      have hset : (wl ad aC M).set k (ad k, .inr (a0, ((List.range (cN a0)).map (fv ad M a0 k)).set b0 (.int x))) = wl ad aC (pI M k b0 x) := wl_set hk44 (by rw [ent_o h0 w7, fv_pI z6]) (fun k' hk' => ent_pI hk')
      refine va_put (D := (dC, dI)) hx hb hts (cls_w a0 w7) (cY a0) (cls_t a0 w7) (cls_n a0 w7) hown hK hP (wl_D hA aC M) hS k he (cls_c a0 w7) b0 w8 (hts _ (tbw_T g9 rfl)) (fun x hx9 => by rw [← w10]; exact hx9) (of_decide_eq_true gp2) (ty := .int) (v := .int x) (of_decide_eq_true gp1) rfl rfl (by simpa using w8) hdg (fun H1 locs1 hP1 hD1 hS1 => ?_)
      rw [hset] at hP1
      rw [← z2]
      exact h p e R s m args below meth c H1 locs1 cells slots ls G C hP1 hS1 hl hr
    · exact h.elim
  · obtain ⟨⟨⟨g4, g5⟩, gp⟩, g6⟩ := g3
    have z0 := q_bq g4
    try dsimp only at z0
    subst z0
    have z6 := q_bq g6
    try dsimp only at z6
    replace h : qx_38 (PM l ad dC dI aC b Ls xs) y i _ L stk M Q := q_g4 h rfl rfl rfl rfl
    dsimp only [qx_38] at h
    split at h
    · rename_i x k st
      obtain ⟨h0, h⟩ := h
      simp only [chkF, Bool.and_eq_true] at g5
      simp only [chkP, Bool.and_eq_true] at gp
      obtain ⟨⟨⟨g7, g8⟩, g9⟩, g10⟩ := g5
      obtain ⟨gp1, gp2⟩ := gp
      have w7 : a0 < 8 := Nat.le_of_ble_eq_true g7
      have w8 : b0 < cN a0 := Nat.le_of_ble_eq_true g8
      have w10 : (cT a0 b0).1 = cC a0 := of_decide_eq_true g10
      intro p e R s m args below meth c H locs cells slots ls G C hP hS hl hr
      obtain ⟨hx, hb, hml, hown, hts, -, -, -, -, hK, hX, hbl, hN⟩ := id C
      have hk44 : k < 44 := sh_lt (by omega)
      have he := wl_get (ad := ad) (aC := aC) (M := M) hk44
      rw [ent_o h0 w7] at he
      have hset : (wl ad aC M).set k (ad k, .inr (a0, ((List.range (cN a0)).map (fv ad M a0 k)).set b0 (.long x))) = wl ad aC (pJ M k b0 x) := wl_set hk44 (by rw [ent_o h0 w7, fv_pJ z6]) (fun k' hk' => ent_pJ hk')
      refine va_put (D := (dC, dI)) hx hb hts (cls_w a0 w7) (cY a0) (cls_t a0 w7) (cls_n a0 w7) hown hK hP (wl_D hA aC M) hS k he (cls_c a0 w7) b0 w8 (hts _ (tbw_T g9 rfl)) (fun x hx9 => by rw [← w10]; exact hx9) (of_decide_eq_true gp2) (ty := .long) (v := .long x) (of_decide_eq_true gp1) rfl rfl (by simpa using w8) hdg (fun H1 locs1 hP1 hD1 hS1 => ?_)
      rw [hset] at hP1
      rw [← z2]
      exact h p e R s m args below meth c H1 locs1 cells slots ls G C hP1 hS1 hl hr
    · exact h.elim
  · obtain ⟨⟨⟨g4, g5⟩, gp⟩, g6⟩ := g3
    have z0 := q_bq g4
    try dsimp only at z0
    subst z0
    have z6 := q_bq g6
    try dsimp only at z6
    replace h : qx_39 (PM l ad dC dI aC b Ls xs) y i _ L stk M Q := q_g4 h rfl rfl rfl rfl
    dsimp only [qx_39] at h
    split at h
    · rename_i x k st
      obtain ⟨h0, hnar, h⟩ := h
      simp only [chkF, Bool.and_eq_true] at g5
      simp only [chkP, Bool.and_eq_true] at gp
      obtain ⟨⟨⟨g7, g8⟩, g9⟩, g10⟩ := g5
      obtain ⟨gp1, gp2⟩ := gp
      have w7 : a0 < 8 := Nat.le_of_ble_eq_true g7
      have w8 : b0 < cN a0 := Nat.le_of_ble_eq_true g8
      have w10 : (cT a0 b0).1 = cC a0 := of_decide_eq_true g10
      intro p e R s m args below meth c H locs cells slots ls G C hP hS hl hr
      obtain ⟨hx, hb, hml, hown, hts, -, -, -, -, hK, hX, hbl, hN⟩ := id C
      have hk44 : k < 44 := sh_lt (by omega)
      have he := wl_get (ad := ad) (aC := aC) (M := M) hk44
      rw [ent_o h0 w7] at he
      have hset : (wl ad aC M).set k (ad k, .inr (a0, ((List.range (cN a0)).map (fv ad M a0 k)).set b0 (.int x))) = wl ad aC (pI M k b0 x) := wl_set hk44 (by rw [ent_o h0 w7, fv_pI z6]) (fun k' hk' => ent_pI hk')
      refine va_put (D := (dC, dI)) hx hb hts (cls_w a0 w7) (cY a0) (cls_t a0 w7) (cls_n a0 w7) hown hK hP (wl_D hA aC M) hS k he (cls_c a0 w7) b0 w8 (hts _ (tbw_T g9 rfl)) (fun x hx9 => by rw [← w10]; exact hx9) (of_decide_eq_true gp2) (ty := .boolean) (v := .int x) (of_decide_eq_true gp1) hnar (q_fitZ hnar) (by simpa using w8) hdg (fun H1 locs1 hP1 hD1 hS1 => ?_)
      rw [hset] at hP1
      rw [← z2]
      exact h p e R s m args below meth c H1 locs1 cells slots ls G C hP1 hS1 hl hr
    · exact h.elim
  · obtain ⟨⟨⟨g4, g5⟩, gp⟩, g6⟩ := g3
    have z0 := q_bq g4
    try dsimp only at z0
    subst z0
    have z6 := q_bq g6
    try dsimp only at z6
    replace h : qx_65 (PM l ad dC dI aC b Ls xs) y i _ L stk M Q := q_g7 h rfl rfl rfl rfl rfl rfl
    dsimp only [qx_65] at h
    split at h
    · rename_i x k st
      obtain ⟨h0, hnar, h⟩ := h
      simp only [chkG, Bool.and_eq_true] at g5
      simp only [chkP, Bool.and_eq_true] at gp
      obtain ⟨⟨⟨g7, g8⟩, g9⟩, g10⟩ := g5
      obtain ⟨gp1, gp2⟩ := gp
      have w7 : a0 < 8 := Nat.le_of_ble_eq_true g7
      have w8 : b0 < cN a0 := Nat.le_of_ble_eq_true g8
      have w10 : (cT a0 b0).1 = cC a0 := of_decide_eq_true g10
      intro p e R s m args below meth c H locs cells slots ls G C hP hS hl hr
      obtain ⟨hx, hb, hml, hown, hts, -, -, -, -, hK, hX, hbl, hN⟩ := id C
      have hk44 : k < 44 := sh_lt (by omega)
      have he := wl_get (ad := ad) (aC := aC) (M := M) hk44
      rw [ent_o h0 w7] at he
      have hset : (wl ad aC M).set k (ad k, .inr (a0, ((List.range (cN a0)).map (fv ad M a0 k)).set b0 (.int x))) = wl ad aC (pI M k b0 x) := wl_set hk44 (by rw [ent_o h0 w7, fv_pI z6]) (fun k' hk' => ent_pI hk')
      have hq : ∃ t, t ∈ qNst ∧ qNw t = .fieldLinkNest (mO y) idx (cC a0) (cT a0 b0).2.1 (cT a0 b0).2.2.1 "StabilityAnalyzer" := by
        have q9 := of_decide_eq_true g9
        cases hz : qNst[d0]? with
        | none => rw [hz] at q9; cases q9
        | some t => rw [hz] at q9; exact ⟨t, List.mem_of_getElem? hz, Option.some.inj q9⟩
      obtain ⟨t, ht, hqt⟩ := hq
      have hln := hN t ht
      rw [hqt] at hln
      refine va_putN (D := (dC, dI)) hx hb hts (cls_w a0 w7) (cY a0) (cls_t a0 w7) (cls_n a0 w7) hown hK hP (wl_D hA aC M) hS k he (cls_c a0 w7) b0 w8 (va_Nw.use rfl hln) (fun x hx9 => by rw [← w10]; exact hx9) (of_decide_eq_true gp2) (ty := .boolean) (v := .int x) (of_decide_eq_true gp1) hnar (q_fitZ hnar) (by simpa using w8) hdg (fun H1 locs1 hP1 hD1 hS1 => ?_)
      rw [hset] at hP1
      rw [← z2]
      exact h p e R s m args below meth c H1 locs1 cells slots ls G C hP1 hS1 hl hr
    · exact h.elim
theorem sd_arraylength (hA : qAd ad b) (hdg : decode (mB y) (pcA y i) = .ok (.arraylength, len)) (ho : chkO y i (pcA y i) (.arraylength) len o = true) (h : qStep Ls xs (PM l ad dC dI aC b Ls xs) y i o L stk M Q) : PM l ad dC dI aC b Ls xs y i L stk M Q := by
  obtain ⟨c0, a0, b0, d0, v0, l0⟩ := o
  simp only [chkO, Bool.and_eq_true, Bool.or_eq_true] at ho
  obtain ⟨⟨g1, g2⟩, g3⟩ := ho
  have z1 := q_bq g2
  subst z1
  have z2 := q_bq g3
  rcases g1 with g1 | g1
  · have z0 := q_bq g1
    try dsimp only at z0
    subst z0
    replace h : qx_40 (PM l ad dC dI aC b Ls xs) y i qHalt L stk M Q := q_g5 h rfl rfl rfl rfl rfl
    dsimp only [qx_40] at h
    split at h
    · rename_i k st
      obtain ⟨h0, h1, h⟩ := h
      intro p e R s m args below meth c H locs cells slots ls G C hP hS hl hr
      obtain ⟨hx, hb, hml, hown, hts, -, -, -, -, hK, hX, hbl, hN⟩ := id C
      have hk44 : k < 44 := sh_lt h1
      have he := wl_get (ad := ad) (aC := aC) (M := M) hk44
      have ht : ∀ j : Nat, j < 5 → ∃ q, (qTy aC)[j]? = some q := fun j hj => by
        rcases (show j = 0 ∨ j = 1 ∨ j = 2 ∨ j = 3 ∨ j = 4 by omega) with rfl | rfl | rfl | rfl | rfl <;> exact ⟨_, rfl⟩
      rcases (show shT k = 100 ∨ shT k = 101 ∨ shT k = 102 ∨ shT k = 103 ∨ shT k = 104 by omega) with q | q | q | q | q
      · rw [ent_100 q] at he
        refine va_alen (D := (dC, dI)) hx hb hK hP k 0 he rfl rfl hdg ?_
        rw [← z2]
        exact h p e R s m args below meth c H locs cells slots ls G C hP hS hl hr
      · rw [ent_101 q] at he
        refine va_alen (D := (dC, dI)) hx hb hK hP k 1 he rfl rfl hdg ?_
        rw [← z2]
        exact h p e R s m args below meth c H locs cells slots ls G C hP hS hl hr
      · rw [ent_102 q] at he
        refine va_alen (D := (dC, dI)) hx hb hK hP k 2 he rfl rfl hdg ?_
        rw [← z2]
        exact h p e R s m args below meth c H locs cells slots ls G C hP hS hl hr
      · rw [ent_103 q] at he
        refine va_alen (D := (dC, dI)) hx hb hK hP k 3 he rfl rfl hdg ?_
        rw [← z2]
        exact h p e R s m args below meth c H locs cells slots ls G C hP hS hl hr
      · rw [ent_104 q] at he
        refine va_alen (D := (dC, dI)) hx hb hK hP k 4 he rfl rfl hdg ?_
        rw [← z2]
        exact h p e R s m args below meth c H locs cells slots ls G C hP hS hl hr
    · exact h.elim
  · have z0 := q_bq g1
    try dsimp only at z0
    subst z0
    replace h : qx_59 Ls xs (PM l ad dC dI aC b Ls xs) y i qHalt L stk M Q := q_g6 h rfl rfl rfl rfl rfl rfl
    dsimp only [qx_59] at h
    split at h
    · rename_i st
      intro p e R s m args below meth c H locs cells slots ls G C hP hS hl hr
      obtain ⟨hx, hb, hml, hown, hts, -, -, -, -, hK, hX, hbl, hN⟩ := id C
      have hst : trS ad (.ref 1000 :: st) = .ref b :: trS ad st := by
        show Value.ref (ad 1000) :: _ = _
        rw [hA.2.2]
        rfl
      rw [hst]
      refine va_slen hx hb hX hbl (fun q => by obtain ⟨k, hk, e⟩ := q; exact hA.2.1 k hk e.symm) hS hdg ?_
      rw [← z2]
      exact h p e R s m args below meth c H locs cells slots ls G C hP hS hl hr
    · exact h.elim
theorem sd_iaload (hA : qAd ad b) (hdg : decode (mB y) (pcA y i) = .ok (.iaload, len)) (ho : chkO y i (pcA y i) (.iaload) len o = true) (h : qStep Ls xs (PM l ad dC dI aC b Ls xs) y i o L stk M Q) : PM l ad dC dI aC b Ls xs y i L stk M Q := by
  obtain ⟨c0, a0, b0, d0, v0, l0⟩ := o
  simp only [chkO, Bool.and_eq_true, Bool.or_eq_true] at ho
  obtain ⟨⟨g1, g2⟩, g3⟩ := ho
  have z1 := q_bq g2
  subst z1
  have z2 := q_bq g3
  rcases g1 with g1 | g1
  · have z0 := q_bq g1
    try dsimp only at z0
    subst z0
    replace h : qx_41 (PM l ad dC dI aC b Ls xs) y i qHalt L stk M Q := q_g5 h rfl rfl rfl rfl rfl
    dsimp only [qx_41] at h
    split at h
    · rename_i j k st
      obtain ⟨h0, h1, h⟩ := h
      intro p e R s m args below meth c H locs cells slots ls G C hP hS hl hr
      obtain ⟨hx, hb, hml, hown, hts, -, -, -, -, hK, hX, hbl, hN⟩ := id C
      have he := wl_get (ad := ad) (aC := aC) (M := M) (k := k) (sh_lt (by omega))
      rw [ent_100 h0] at he
      refine va_iald (D := (dC, dI)) hx hb hK hP k 0 he rfl h1 hdg ?_
      rw [← z2]
      exact h p e R s m args below meth c H locs cells slots ls G C hP hS hl hr
    · exact h.elim
  · have z0 := q_bq g1
    try dsimp only at z0
    subst z0
    replace h : qx_58 Ls xs (PM l ad dC dI aC b Ls xs) y i qHalt L stk M Q := q_g6 h rfl rfl rfl rfl rfl rfl
    dsimp only [qx_58] at h
    split at h
    · rename_i j st
      obtain ⟨h1, h⟩ := h
      intro p e R s m args below meth c H locs cells slots ls G C hP hS hl hr
      obtain ⟨hx, hb, hml, hown, hts, -, -, -, -, hK, hX, hbl, hN⟩ := id C
      have hst : trS ad (.int j :: .ref 1000 :: st) = .int j :: .ref b :: trS ad st := by
        show Value.int j :: Value.ref (ad 1000) :: _ = _
        rw [hA.2.2]
        rfl
      rw [hst]
      refine va_sld hx hb hX hbl (fun q => by obtain ⟨k, hk, e⟩ := q; exact hA.2.1 k hk e.symm) hS h1 hdg ?_
      rw [← z2]
      exact h p e R s m args below meth c H locs cells slots ls G C hP hS hl hr
    · exact h.elim
theorem sd_laload (hA : qAd ad b) (hdg : decode (mB y) (pcA y i) = .ok (.laload, len)) (ho : chkO y i (pcA y i) (.laload) len o = true) (h : qStep Ls xs (PM l ad dC dI aC b Ls xs) y i o L stk M Q) : PM l ad dC dI aC b Ls xs y i L stk M Q := by
  obtain ⟨c0, a0, b0, d0, v0, l0⟩ := o
  simp only [chkO, Bool.and_eq_true] at ho
  obtain ⟨⟨g1, g2⟩, g3⟩ := ho
  have z1 := q_bq g2
  subst z1
  have z2 := q_bq g3
  have z0 := q_bq g1
  try dsimp only at z0
  subst z0
  replace h : qx_42 (PM l ad dC dI aC b Ls xs) y i qHalt L stk M Q := q_g5 h rfl rfl rfl rfl rfl
  dsimp only [qx_42] at h
  split at h
  · rename_i j k st
    obtain ⟨h0, h1, h⟩ := h
    intro p e R s m args below meth c H locs cells slots ls G C hP hS hl hr
    obtain ⟨hx, hb, hml, hown, hts, -, -, -, -, hK, hX, hbl, hN⟩ := id C
    have he := wl_get (ad := ad) (aC := aC) (M := M) (k := k) (sh_lt (by omega))
    rw [ent_101 h0] at he
    refine va_lald (D := (dC, dI)) hx hb hK hP k 1 he rfl h1 hdg ?_
    rw [← z2]
    exact h p e R s m args below meth c H locs cells slots ls G C hP hS hl hr
  · exact h.elim
theorem sd_baload (hA : qAd ad b) (hdg : decode (mB y) (pcA y i) = .ok (.baload, len)) (ho : chkO y i (pcA y i) (.baload) len o = true) (h : qStep Ls xs (PM l ad dC dI aC b Ls xs) y i o L stk M Q) : PM l ad dC dI aC b Ls xs y i L stk M Q := by
  obtain ⟨c0, a0, b0, d0, v0, l0⟩ := o
  simp only [chkO, Bool.and_eq_true] at ho
  obtain ⟨⟨g1, g2⟩, g3⟩ := ho
  have z1 := q_bq g2
  subst z1
  have z2 := q_bq g3
  have z0 := q_bq g1
  try dsimp only at z0
  subst z0
  replace h : qx_43 (PM l ad dC dI aC b Ls xs) y i qHalt L stk M Q := q_g5 h rfl rfl rfl rfl rfl
  dsimp only [qx_43] at h
  split at h
  · rename_i j k st
    obtain ⟨h0, h1, h⟩ := h
    intro p e R s m args below meth c H locs cells slots ls G C hP hS hl hr
    obtain ⟨hx, hb, hml, hown, hts, -, -, -, -, hK, hX, hbl, hN⟩ := id C
    have he := wl_get (ad := ad) (aC := aC) (M := M) (k := k) (sh_lt (by omega))
    rw [ent_102 h0] at he
    refine va_zald (D := (dC, dI)) hx hb hK hP k 2 he rfl h1 hdg ?_
    rw [← z2]
    exact h p e R s m args below meth c H locs cells slots ls G C hP hS hl hr
  · exact h.elim
theorem sd_aaload (hA : qAd ad b) (hdg : decode (mB y) (pcA y i) = .ok (.aaload, len)) (ho : chkO y i (pcA y i) (.aaload) len o = true) (h : qStep Ls xs (PM l ad dC dI aC b Ls xs) y i o L stk M Q) : PM l ad dC dI aC b Ls xs y i L stk M Q := by
  obtain ⟨c0, a0, b0, d0, v0, l0⟩ := o
  simp only [chkO, Bool.and_eq_true, Bool.or_eq_true] at ho
  obtain ⟨⟨⟨g1, gt⟩, g2⟩, g3⟩ := ho
  have z1 := q_bq g2
  subst z1
  have z2 := q_bq g3
  have z0 := q_bq g1
  try dsimp only at z0
  subst z0
  replace h : qx_44 (PM l ad dC dI aC b Ls xs) y i _ L stk M Q := q_g5 h rfl rfl rfl rfl rfl
  dsimp only [qx_44] at h
  split at h
  · rename_i j k st
    obtain ⟨h0, h1, h⟩ := h
    intro p e R s m args below meth c H locs cells slots ls G C hP hS hl hr
    obtain ⟨hx, hb, hml, hown, hts, -, -, -, -, hK, hX, hbl, hN⟩ := id C
    rcases gt with gt | gt
    · have zt : a0 = 103 := q_bq gt
      subst zt
      have he := wl_get (ad := ad) (aC := aC) (M := M) (k := k) (sh_lt (by omega))
      rw [ent_103 h0] at he
      refine va_aldq (D := (dC, dI)) hx hb hK hP k 3 he rfl h1 hdg ?_
      rw [← z2]
      exact h p e R s m args below meth c H locs cells slots ls G C hP hS hl hr
    · have zt : a0 = 104 := q_bq gt
      subst zt
      have he := wl_get (ad := ad) (aC := aC) (M := M) (k := k) (sh_lt (by omega))
      rw [ent_104 h0] at he
      refine va_aldq (D := (dC, dI)) hx hb hK hP k 4 he rfl h1 hdg ?_
      rw [← z2]
      exact h p e R s m args below meth c H locs cells slots ls G C hP hS hl hr
  · exact h.elim
theorem sd_iastore (hA : qAd ad b) (hdg : decode (mB y) (pcA y i) = .ok (.iastore, len)) (ho : chkO y i (pcA y i) (.iastore) len o = true) (h : qStep Ls xs (PM l ad dC dI aC b Ls xs) y i o L stk M Q) : PM l ad dC dI aC b Ls xs y i L stk M Q := by
  obtain ⟨c0, a0, b0, d0, v0, l0⟩ := o
  simp only [chkO, Bool.and_eq_true] at ho
  obtain ⟨⟨g1, g2⟩, g3⟩ := ho
  have z1 := q_bq g2
  subst z1
  have z2 := q_bq g3
  have z0 := q_bq g1
  try dsimp only at z0
  subst z0
  replace h : qx_45 (PM l ad dC dI aC b Ls xs) y i qHalt L stk M Q := q_g5 h rfl rfl rfl rfl rfl
  dsimp only [qx_45] at h
  split at h
  · rename_i x j k st
    obtain ⟨h0, h1, h⟩ := h
    intro p e R s m args below meth c H locs cells slots ls G C hP hS hl hr
    obtain ⟨hx, hb, hml, hown, hts, -, -, -, -, hK, hX, hbl, hN⟩ := id C
    have hk44 : k < 44 := sh_lt (by omega)
    have he := wl_get (ad := ad) (aC := aC) (M := M) hk44
    rw [ent_100 h0] at he
    refine va_iast (D := (dC, dI)) hx hb hK hP (wl_D hA aC M) hS k 0 he rfl h1 hdg (fun H1 locs1 hP1 hD1 hS1 => ?_)
    have hset := wl_set (ad := ad) (aC := aC) (M := M) (M' := pI M k j.toNatClampNeg x) hk44 (by rw [ent_100 h0, pI_s]) (fun k' hk' => ent_pI hk')
    rw [hset] at hP1
    rw [← z2]
    exact h p e R s m args below meth c H1 locs1 cells slots ls G C hP1 hS1 hl hr
  · exact h.elim
theorem sd_lastore (hA : qAd ad b) (hdg : decode (mB y) (pcA y i) = .ok (.lastore, len)) (ho : chkO y i (pcA y i) (.lastore) len o = true) (h : qStep Ls xs (PM l ad dC dI aC b Ls xs) y i o L stk M Q) : PM l ad dC dI aC b Ls xs y i L stk M Q := by
  obtain ⟨c0, a0, b0, d0, v0, l0⟩ := o
  simp only [chkO, Bool.and_eq_true] at ho
  obtain ⟨⟨g1, g2⟩, g3⟩ := ho
  have z1 := q_bq g2
  subst z1
  have z2 := q_bq g3
  have z0 := q_bq g1
  try dsimp only at z0
  subst z0
  replace h : qx_46 (PM l ad dC dI aC b Ls xs) y i qHalt L stk M Q := q_g5 h rfl rfl rfl rfl rfl
  dsimp only [qx_46] at h
  split at h
  · rename_i x j k st
    obtain ⟨h0, h1, h⟩ := h
    intro p e R s m args below meth c H locs cells slots ls G C hP hS hl hr
    obtain ⟨hx, hb, hml, hown, hts, -, -, -, -, hK, hX, hbl, hN⟩ := id C
    have hk44 : k < 44 := sh_lt (by omega)
    have he := wl_get (ad := ad) (aC := aC) (M := M) hk44
    rw [ent_101 h0] at he
    refine va_last (D := (dC, dI)) hx hb hK hP (wl_D hA aC M) hS k 1 he rfl h1 hdg (fun H1 locs1 hP1 hD1 hS1 => ?_)
    have hset := wl_set (ad := ad) (aC := aC) (M := M) (M' := pJ M k j.toNatClampNeg x) hk44 (by rw [ent_101 h0, pJ_s]) (fun k' hk' => ent_pJ hk')
    rw [hset] at hP1
    rw [← z2]
    exact h p e R s m args below meth c H1 locs1 cells slots ls G C hP1 hS1 hl hr
  · exact h.elim
theorem sd_bastore (hA : qAd ad b) (hdg : decode (mB y) (pcA y i) = .ok (.bastore, len)) (ho : chkO y i (pcA y i) (.bastore) len o = true) (h : qStep Ls xs (PM l ad dC dI aC b Ls xs) y i o L stk M Q) : PM l ad dC dI aC b Ls xs y i L stk M Q := by
  obtain ⟨c0, a0, b0, d0, v0, l0⟩ := o
  simp only [chkO, Bool.and_eq_true] at ho
  obtain ⟨⟨g1, g2⟩, g3⟩ := ho
  have z1 := q_bq g2
  subst z1
  have z2 := q_bq g3
  have z0 := q_bq g1
  try dsimp only at z0
  subst z0
  replace h : qx_47 (PM l ad dC dI aC b Ls xs) y i qHalt L stk M Q := q_g5 h rfl rfl rfl rfl rfl
  dsimp only [qx_47] at h
  split at h
  · rename_i x j k st
    obtain ⟨h0, h1, h⟩ := h
    intro p e R s m args below meth c H locs cells slots ls G C hP hS hl hr
    obtain ⟨hx, hb, hml, hown, hts, -, -, -, -, hK, hX, hbl, hN⟩ := id C
    have hk44 : k < 44 := sh_lt (by omega)
    have he := wl_get (ad := ad) (aC := aC) (M := M) hk44
    rw [ent_102 h0] at he
    refine va_zast (D := (dC, dI)) hx hb hK hP (wl_D hA aC M) hS k 2 he rfl h1 hdg (fun H1 locs1 hP1 hD1 hS1 => ?_)
    have hset := wl_set (ad := ad) (aC := aC) (M := M) (M' := pI M k j.toNatClampNeg (vp_nar .boolean x)) hk44 (by rw [ent_102 h0, pI_s]) (fun k' hk' => ent_pI hk')
    rw [hset] at hP1
    rw [← z2]
    exact h p e R s m args below meth c H1 locs1 cells slots ls G C hP1 hS1 hl hr
  · exact h.elim
theorem q_swT {y pc : Nat} {x : Int32} {f : Nat → Prop} {d : Nat} : ∀ (os : List Int) (lo : Int) (r : List (Int × Nat)), -2147483648 ≤ lo → lo + os.length ≤ 2147483648 → chkT y pc lo os r = true → swP x f r d →
    (∃ (k : Nat) (o : Int) (t : Nat), os[k]? = some o ∧ x.toInt = lo + k ∧ (pc : Int) + o = (pcA y t : Int) ∧ f t) ∨ ((x.toInt < lo ∨ lo + os.length ≤ x.toInt) ∧ f d) := by
  intro os
  induction os with
  | nil =>
    intro lo r _ _ hc h
    cases r with
    | nil => exact Or.inr ⟨by simp; omega, h⟩
    | cons q r => simp [chkT] at hc
  | cons o os ih =>
    intro lo r h1 h2 hc h
    cases r with
    | nil => simp [chkT] at hc
    | cons q r =>
      simp only [chkT, Bool.and_eq_true] at hc
      obtain ⟨⟨g1, g2⟩, g3⟩ := hc
      have e1 : q.1 = lo := of_decide_eq_true g1
      have e2 : (pc : Int) + o = (pcA y q.2 : Int) := of_decide_eq_true g2
      rw [List.length_cons] at h2
      obtain ⟨ha, hb⟩ := h
      have hlo : (Int32.ofInt lo).toInt = lo := Int32.toInt_ofInt_of_le (by omega) (by omega)
      by_cases hx : x = Int32.ofInt q.1
      · refine Or.inl ⟨0, o, q.2, rfl, ?_, e2, ha hx⟩
        rw [hx, e1, hlo]
        simp
      · have hne : x.toInt ≠ lo := fun z => hx (by rw [e1]; exact Int32.toInt_inj.mp (by rw [hlo]; exact z))
        rcases ih (lo + 1) r (by omega) (by push_cast at h2 ⊢; omega) g3 (hb hx) with ⟨k, o', t, k1, k2, k3, k4⟩ | ⟨k1, k2⟩
        · exact Or.inl ⟨k + 1, o', t, by simpa using k1, by push_cast; omega, k3, k4⟩
        · refine Or.inr ⟨?_, k2⟩
          rw [List.length_cons]
          push_cast
          omega
theorem q_swU {y pc : Nat} {x : Int32} {f : Nat → Prop} {d : Nat} {dd : Int} (hd : (pc : Int) + dd = (pcA y d : Int)) : ∀ (os : List (Int × Int)) (r : List (Int × Nat)), chkU y pc os r = true → swP x f r d →
    ∃ t : Nat, (pc : Int) + Op.lookupswitch.offset os dd x.toInt = (pcA y t : Int) ∧ f t := by
  intro os
  induction os with
  | nil =>
    intro r hc h
    cases r with
    | nil => exact ⟨d, hd, h⟩
    | cons q r => simp [chkU] at hc
  | cons o os ih =>
    intro r hc h
    cases r with
    | nil => simp [chkU] at hc
    | cons q r =>
      simp only [chkU, Bool.and_eq_true] at hc
      obtain ⟨⟨⟨g1, g0⟩, g2⟩, g3⟩ := hc
      have e1 : q.1 = o.1 := of_decide_eq_true g1
      have e0 := of_decide_eq_true g0
      have e2 : (pc : Int) + o.2 = (pcA y q.2 : Int) := of_decide_eq_true g2
      obtain ⟨a, off⟩ := o
      obtain ⟨ha, hb⟩ := h
      have hlo : (Int32.ofInt a).toInt = a := Int32.toInt_ofInt_of_le (by omega) (by omega)
      rw [Op.lookupswitch.offset_cons]
      by_cases hx : x = Int32.ofInt q.1
      · refine ⟨q.2, ?_, ha hx⟩
        rw [if_pos (by rw [hx, e1, hlo])]
        exact e2
      · rw [if_neg (fun z => hx (by rw [e1]; exact Int32.toInt_inj.mp (by rw [hlo]; exact z.symm)))]
        exact ih r g3 (hb hx)
theorem sd_tableswitch {d lo hi : Int} {offs : Array Int} (hdg : decode (mB y) (pcA y i) = .ok (.tableswitch d lo hi offs, len)) (ho : chkO y i (pcA y i) (.tableswitch d lo hi offs) len o = true) (h : qStep Ls xs (PM l ad dC dI aC b Ls xs) y i o L stk M Q) : PM l ad dC dI aC b Ls xs y i L stk M Q := by
  obtain ⟨c0, a0, b0, d0, v0, l0⟩ := o
  simp only [chkO, Bool.and_eq_true] at ho
  obtain ⟨⟨⟨g1, g2⟩, g3⟩, g4⟩ := ho
  have z0 := q_bq g1
  try dsimp only at z0
  subst z0
  have z4 : (pcA y i : Int) + d = (pcA y b0 : Int) := of_decide_eq_true g2
  have z5 := of_decide_eq_true g3
  replace h : qx_33 (PM l ad dC dI aC b Ls xs) y i _ L stk M Q := q_g3 h rfl rfl rfl
  dsimp only [qx_33] at h
  split at h
  · rename_i x st
    intro p e R s m args below meth c H locs cells slots ls G C hP hS hl hr
    obtain ⟨hx, hb, hml, hown, hts, -⟩ := id C
    have hlen : (offs.toList.length : Int) = hi - lo + 1 := by rw [Array.length_toList]; exact z5.2.2
    rcases q_swT offs.toList lo l0 z5.1 (by omega) g4 h with ⟨k, o, t, k1, k2, k3, k4⟩ | ⟨k1, k2⟩
    · have hk : k < offs.toList.length := (List.getElem?_eq_some_iff.mp k1).1
      refine lv_tableIn hx hb hdg (by omega) (by omega) (off := o) ?_ k3 ?_
      · rw [show (x.toInt - lo).toNat = k by omega, ← Array.getElem?_toList]
        exact k1
      · exact k4 p e R s m args below meth c H locs cells slots ls G C hP hS hl hr
    · refine lv_tableOut hx hb hdg (by omega) z4 ?_
      exact k2 p e R s m args below meth c H locs cells slots ls G C hP hS hl hr
  · exact h.elim
theorem sd_lookupswitch {d : Int} {ps : Array (Int × Int)} (hdg : decode (mB y) (pcA y i) = .ok (.lookupswitch d ps, len)) (ho : chkO y i (pcA y i) (.lookupswitch d ps) len o = true) (h : qStep Ls xs (PM l ad dC dI aC b Ls xs) y i o L stk M Q) : PM l ad dC dI aC b Ls xs y i L stk M Q := by
  obtain ⟨c0, a0, b0, d0, v0, l0⟩ := o
  simp only [chkO, Bool.and_eq_true] at ho
  obtain ⟨⟨⟨g1, g2⟩, g3⟩, g4⟩ := ho
  have z0 := q_bq g1
  try dsimp only at z0
  subst z0
  have z4 : (pcA y i : Int) + d = (pcA y b0 : Int) := of_decide_eq_true g2
  replace h : qx_33 (PM l ad dC dI aC b Ls xs) y i _ L stk M Q := q_g3 h rfl rfl rfl
  dsimp only [qx_33] at h
  split at h
  · rename_i x st
    intro p e R s m args below meth c H locs cells slots ls G C hP hS hl hr
    obtain ⟨hx, hb, hml, hown, hts, -⟩ := id C
    obtain ⟨t, k3, k4⟩ := q_swU z4 ps.toList l0 g4 h
    refine lv_lookup hx hb hdg g3 rfl k3 ?_
    exact k4 p e R s m args below meth c H locs cells slots ls G C hP hS hl hr
  · exact h.elim
end QS
end
section
/-! the abstract machine stands for the machine: calls, and all rows together -/
section QS
variable {l : Launch} {ad : Nat → Nat} {dC : Nat → ClassId} {dI : Nat → Nat → Nat} {aC : Nat → ClassId} {b Ls : Nat} {xs : Nat → Int32}
variable {y i len : Nat} {o : qOp} {L : qLc} {stk : List Value} {M : qMem} {Q : qPost}
def qQc (ad : Nat → Nat) (dC : Nat → ClassId) (dI : Nat → Nat → Nat) (aC : Nat → ClassId) (Q : qPost) : Array Value → State → Outcome → State → Prop := fun _ st oc t =>
  ∃ (v : Option Value) (M' : qMem), oc = .returned (v.map (tr ad)) ∧ Q v M' ∧ va_P (dC, dI) vwCl (wl ad aC M') t.heap ∧ va_F (qA ad) st t
def qRm (y : Nat) : Room := { frames := mF y, cells := 0, slots := 0, locals := mW y }
def qWs (y : Nat) : List Cond := Cond.code (mN y) (mB y) (mL y) (mR y) :: qT
def qPc (ad : Nat → Nat) (dC : Nat → ClassId) (dI : Nat → Nat → Nat) (aC : Nat → ClassId) (b Ls : Nat) (xs : Nat → Int32) (M : qMem) : State → Prop := fun U => va_P (dC, dI) vwCl (wl ad aC M) U.heap ∧ qSt dC dI aC b Ls xs U
theorem qMet (a : Nat) (ha : a < 155) (As : List Value) (hsl : csum As ≤ mL a) (h : PM l ad dC dI aC b Ls xs a 0 (lv_args 0 As) [] M Q) :
    Met l (mN a) (qWs a) (qRm a) (va_Pc (trS ad As) (qPc ad dC dI aC b Ls xs M)) (qQc ad dC dI aC Q) 0 0 (qA ad) := by
  have hmo := met_o a (by omega)
  refine va_MetF (cc := mB a) (maxL := mL a) (ret := mR a) hmo.2.2 rfl ?_
  intro p e s m args below meth c s₁ B hml hv
  obtain ⟨rfl, hP, hSt⟩ := hv
  have hx := B.exec
  have hb := B.bytes
  have hr := B.returns
  have hts0 := atoms_spec (ws := qWs a) B.pre
  have hts : ∀ w ∈ qT, w.before (trS ad As).toArray s = true := fun w hw => hts0 w (List.mem_cons_of_mem _ hw)
  have hown : s.vm.findClass (mO a) = some m.cls := by
    rw [hmo.1]
    exact findClass_of_methodNamed B.named
  have hlocks := B.notSynchronized
  have hl := lv_entry (trS ad As) (n := mL a) (by rw [lg_slN, csum_tr]; exact hsl)
  rw [trA] at hl
  rw [lg_entry_eq]
  have h2 := h p e (headSpec (qWs a) (qRm a)).room s m (trS ad As).toArray below meth c s.heap [] 0 0 _ (MQ below (qQc ad dC dI aC Q) (trS ad As).toArray s 0 0 (qA ad)) ⟨hx, hb, hml, hown, hts, Nat.le_refl _, Nat.le_refl _, Nat.le_refl _, Nat.le_refl _, hSt⟩ hP va_S.rf hl ?_
  · rw [hmo.2.1] at h2
    exact h2
  · intro v M' H' locs' ls' pc' hret hq hP' hS'
    match v, hret, hq with
    | none, hret, hq => exact W.vret hx hb (hr.trans hret.2) (fun t ht hW => ⟨none, M', rfl, hq, by rw [ht]; exact hP', hS'.F ht⟩) hS'.2.2 hret.1 hlocks
    | some (.int x), hret, hq =>
      obtain ⟨hd, ty, ht, hn⟩ := hret
      exact W.zret hx hb (hr.trans ht) hn (fun t ht hW => ⟨some (.int x), M', rfl, hq, by rw [ht]; exact hP', hS'.F ht⟩) hS'.2.2 hd hlocks
    | some (.long x), hret, hq => exact W.lret hx hb (hr.trans hret.2) (fun t ht hW => ⟨some (.long x), M', rfl, hq, by rw [ht]; exact hP', hS'.F ht⟩) hS'.2.2 hret.1 hlocks
    | some (.ref k), hret, hq =>
      obtain ⟨hd, n, hn⟩ := hret
      exact W.aret hx hb (hr.trans hn) (Or.inl ⟨n, rfl⟩) (Or.inr ⟨_, rfl⟩) (fun t ht hW => ⟨some (.ref k), M', rfl, hq, by rw [ht]; exact hP', hS'.F ht⟩) hS'.2.2 hd hlocks
    | some .null, hret, hq =>
      obtain ⟨hd, n, hn⟩ := hret
      exact W.aret hx hb (hr.trans hn) (Or.inl ⟨n, rfl⟩) (Or.inl rfl) (fun t ht hW => ⟨some .null, M', rfl, hq, by rw [ht]; exact hP', hS'.F ht⟩) hS'.2.2 hd hlocks
theorem qSt_same {U V : State} (hv : V.vm = U.vm) (hh : V.heap = U.heap) (h : qSt dC dI aC b Ls xs U) : qSt dC dI aC b Ls xs V := by
  obtain ⟨h1, h2, h3, h4⟩ := h
  have hal : U.vm.Alike V.vm := by rw [hv]; exact Vm.Alike.refl _
  refine ⟨va_K.moved hal h1, ?_, by rw [hh]; exact h3, fun t ht => va_Nw.same rfl hv.symm (h4 t ht)⟩
  rw [hh]
  exact va_X.moved hal h2
theorem qPc_blind (As : List Value) : FrameBlind (va_Pc (trS ad As) (qPc ad dC dI aC b Ls xs M)) := fun _ _ _ _ q => ⟨q.1, q.2.1, qSt_same rfl rfl q.2.2⟩
theorem qPc_at {s : State} {H : Heap} {locs : List Loc} {U : State} (hA : qAd ad b) (hP : va_P (dC, dI) vwCl (wl ad aC M) H) (hS : va_S (qA ad) s.heap H locs) (hst : qSt dC dI aC b Ls xs s) (hU : U.heap = H) (hW : s.WarmedH U.vm) : qPc ad dC dI aC b Ls xs M U := by
  obtain ⟨h1, h2, h3, h4⟩ := hst
  have hq : U.heap[b]? = s.heap[b]? := by
    rw [hU]
    exact hS.2.1 b h3 (fun q => by obtain ⟨k, hk, e⟩ := q; exact hA.2.1 k hk e.symm)
  refine ⟨by rw [hU]; exact hP, va_K.moved hW.alike h1, va_X.kept (va_X.moved hW.alike h2) hq, ?_, fun t ht => va_Nw.warmF hW (h4 t ht)⟩
  rw [hU]
  exact Nat.lt_of_lt_of_le h3 hS.1
theorem q_back {p : Program} {e : Env} {R : Room} {s : State} {m : MethodId} {args : Array Value} {below : List Frame} {meth : Method} {c : Code} {H : Heap} {locs : List Loc} {cells slots : Nat} {ls : Array Slot} {G : State → Prop} {rest : List Value} {st0 : List Value} {a : Array Value}
    (hr : va_Run p l e R s m args below meth c H locs cells slots 0 0 (F0 m (pcA y i) ls st0) (trS ad rest) (qQc ad dC dI aC (fun v M' => PM l ad dC dI aC b Ls xs y (i + 1) L (v.toList ++ rest) M' Q) a) (qA ad))
    (z2 : pcA y (i + 1) = pcA y i + 3) (C : qCx dC dI aC b Ls xs y p R s m args c cells slots) (hS : va_S (qA ad) s.heap H locs) (hl : lv_has ls (mL y) (trL ad L))
    (hrt : ∀ (v : Option Value) (M' : qMem) (H' : Heap) (locs' : List Loc) (ls' : Array Slot) (pc' : Nat), qRet y pc' v → Q v M' → va_P (dC, dI) vwCl (wl ad aC M') H' → va_S (qA ad) s.heap H' locs' → W p l e R s m args below meth c H' locs' cells slots G (F0 m pc' ls' (trS ad v.toList))) :
    W p l e R s m args below meth c H locs cells slots G (F0 m (pcA y i) ls st0) := by
  intro T hT X
  obtain ⟨v, st₀, t, T', Lx, h0, X', hL, e1, e2, ⟨v', M', hv, hq, hP', hz, hk⟩, st⟩ := hr T hT X
  have hv2 : v = v'.map (tr ad) := by
    injection hv
  subst hv2
  rw [h0] at hz hk
  have hS' : va_S (qA ad) s.heap T'.heap (locs ++ Lx) := ⟨Nat.le_trans hS.1 (by rw [e1]; exact hz), fun q h1 h2 => by rw [e1, hk q (Nat.lt_of_lt_of_le h1 hS.1) h2]; exact hS.2.1 q h1 h2, fun q hq => by
      rcases List.mem_append.mp hq with h | h
      · exact hS.2.2 q h
      · exact hL q h⟩
  have K := hq p e R s m args below meth c T'.heap (locs ++ Lx) cells slots ls G C (by rw [e1]; exact hP') hS' hl hrt
  rw [z2, trS_app] at K
  have e3 : trS ad v'.toList = (v'.map (tr ad)).toList := by cases v' <;> rfl
  rw [e3] at K
  obtain ⟨t2, a1, b1⟩ := K T' rfl X'
  exact ⟨t2, st t2 a1, b1⟩
theorem sd_invokestatic (hA : qAd ad b) {idx : Nat} (hdg : decode (mB y) (pcA y i) = .ok (.invokestatic idx, len)) (ho : chkO y i (pcA y i) (.invokestatic idx) len o = true) (h : qStep Ls xs (PM l ad dC dI aC b Ls xs) y i o L stk M Q) : PM l ad dC dI aC b Ls xs y i L stk M Q := by
  obtain ⟨c0, a0, b0, d0, v0, l0⟩ := o
  simp only [chkO, Bool.and_eq_true] at ho
  obtain ⟨⟨⟨g1, g2⟩, g3⟩, g4⟩ := ho
  have z0 := q_bq g1
  subst z0
  have z1 := q_bq g3
  subst z1
  have z2 := q_bq g4
  replace h : qx_48 Ls xs (PM l ad dC dI aC b Ls xs) y i _ L stk M Q := q_g6 h rfl rfl rfl rfl rfl rfl
  dsimp only [qx_48] at h
  cases hc : (Nat.ble b0 stk.length && (Nat.ble (csum (stk.drop b0)) 8 && Nat.ble (csum (stk.take b0)) (mL a0))) with
  | false => rw [hc] at h; exact h.elim
  | true =>
    rw [hc] at h
    replace h : PM l ad dC dI aC b Ls xs a0 0 (lv_args 0 (stk.take b0).reverse) [] M (fun v M' => PM l ad dC dI aC b Ls xs y (i + 1) L (v.toList ++ stk.drop b0) M' Q) := h
    simp only [Bool.and_eq_true] at hc
    obtain ⟨k1, k2, k3⟩ := hc
    have k1 := Nat.le_of_ble_eq_true k1
    have k2 := Nat.le_of_ble_eq_true k2
    have k3 := Nat.le_of_ble_eq_true k3
    dsimp only [chkS] at g2
    split at g2
    · rename_i w1 w2 w3
      simp only [chkM, Bool.and_eq_true] at g2
      obtain ⟨⟨⟨⟨⟨⟨⟨m1, m2⟩, m3⟩, m4⟩, n1⟩, n2⟩, n3⟩, n4⟩ := g2
      have m1 : a0 < 155 := Nat.le_of_ble_eq_true m1
      have m2 := Nat.le_of_ble_eq_true m2
      have m3 := Nat.le_of_ble_eq_true m3
      have m4 := of_decide_eq_true m4
      have n4 := of_decide_eq_true n4
      intro p e R s m args below meth c H locs cells slots ls G C hP hS hl hr
      obtain ⟨hx, hb, hml, hown, hts, hfr, hlo, hce, hsl, hst⟩ := id C
      have hsum : csum ((stk.take b0).reverse) ≤ mL a0 := by
        have e : csum ((stk.take b0).reverse) = csum (stk.take b0) := by simp [csum, List.map_reverse, List.sum_reverse]
        rw [e]
        exact k3
      have hM := qMet a0 m1 _ hsum h
      have hG : GoodIn qT (va_wsS (mO y) idx (mN a0) (qWs a0)) := by
        intro w hw
        have hin : w ∈ qT := by
          simp only [va_wsS, qWs, List.cons_append, List.nil_append, List.mem_cons] at hw
          rcases hw with rfl | rfl | rfl | rfl | hw
          · exact tbw_T n1 rfl
          · exact tbw_T n2 rfl
          · exact tbw_T n3 rfl
          · exact List.mem_filter.mpr ⟨cw_all a0 m1, rfl⟩
          · exact hw
        exact qT_good w hin
      have hlen : (trS ad (stk.take b0).reverse).length = b0 := by
        simp [trS]
        omega
      have hrun := va_runS (p := p) (l := l) (e := e) (below := below) (meth := meth) (H := H) (locs := locs) (cells := cells) (slots := slots) (g := F0 m (pcA y i) ls (trS ad stk)) (As := trS ad (stk.take b0).reverse) (rest := trS ad (stk.drop b0)) (index := idx) ⟨hx, hb, hml, hown, hts⟩ hM
        (va_cwS b0 hts hG rfl rfl rfl ⟨m4.1, m4.2, n4⟩ ⟨Nat.le_trans m2 hfr, Nat.le_trans m3 hlo⟩)
        ⟨qPc_blind _, fun U hU hW => ⟨rfl, qPc_at hA hP hS hst hU hW⟩⟩ rfl hlen hl.1
        (by show trS ad stk = _; rw [trS_rev, List.reverse_reverse, ← trS_app, List.take_append_drop])
        (lv_room (by have e := csum_tr ad (stk.drop b0); unfold csum at e k2; rw [e]; exact k2)) hdg ⟨hce, hsl⟩
      exact q_back hrun z2 C hS hl hr
    · cases g2
theorem sd_invokevirtual (hA : qAd ad b) {idx : Nat} (hdg : decode (mB y) (pcA y i) = .ok (.invokevirtual idx, len)) (ho : chkO y i (pcA y i) (.invokevirtual idx) len o = true) (h : qStep Ls xs (PM l ad dC dI aC b Ls xs) y i o L stk M Q) : PM l ad dC dI aC b Ls xs y i L stk M Q := by
  obtain ⟨c0, a0, b0, d0, v0, l0⟩ := o
  simp only [chkO, Bool.and_eq_true] at ho
  obtain ⟨⟨⟨g1, g2⟩, g3⟩, g4⟩ := ho
  have z0 := q_bq g1
  subst z0
  have z1 := q_bq g3
  subst z1
  have z2 := q_bq g4
  replace h : qx_49 Ls xs (PM l ad dC dI aC b Ls xs) y i _ L stk M Q := q_g6 h rfl rfl rfl rfl rfl rfl
  dsimp only [qx_49] at h
  split at h
  · rename_i k st hdrop
    cases hc : (Nat.ble b0 stk.length && (Nat.ble (csum st) 8 && Nat.ble (csum (stk.take b0) + 1) (mL a0))) with
    | false => rw [hc] at h; exact h.elim
    | true =>
      rw [hc] at h
      replace h : shT k = d0 ∧ PM l ad dC dI aC b Ls xs a0 0 (lv_args 0 (.ref k :: (stk.take b0).reverse)) [] M (fun v M' => PM l ad dC dI aC b Ls xs y (i + 1) L (v.toList ++ st) M' Q) := h
      obtain ⟨h0, h⟩ := h
      simp only [Bool.and_eq_true] at hc
      obtain ⟨k1, k2, k3⟩ := hc
      have k1 := Nat.le_of_ble_eq_true k1
      have k2 := Nat.le_of_ble_eq_true k2
      have k3 := Nat.le_of_ble_eq_true k3
      dsimp only [chkV] at g2
      split at g2
      · rename_i w1 w2 w3 w4
        simp only [chkM, Bool.and_eq_true] at g2
        obtain ⟨⟨⟨⟨⟨⟨⟨⟨⟨⟨m1, m2⟩, m3⟩, m4⟩, n1⟩, n2⟩, n3⟩, n4⟩, n5⟩, n6⟩, n7⟩ := g2
        have m1 : a0 < 155 := Nat.le_of_ble_eq_true m1
        have m2 := Nat.le_of_ble_eq_true m2
        have m3 := Nat.le_of_ble_eq_true m3
        have m4 := of_decide_eq_true m4
        have n5 : d0 < 8 := Nat.le_of_ble_eq_true n5
        have n6 : cC d0 = (mN a0).cls := of_decide_eq_true n6
        have n7 := of_decide_eq_true n7
        intro p e R s m args below meth c H locs cells slots ls G C hP hS hl hr
        obtain ⟨hx, hb, hml, hown, hts, hfr, hlo, hce, hsl, hst⟩ := id C
        have hsum : csum (.ref k :: (stk.take b0).reverse) ≤ mL a0 := by
          have e : csum (.ref k :: (stk.take b0).reverse) = 1 + csum (stk.take b0) := by simp [csum, List.map_reverse, List.sum_reverse, Value.category]
          rw [e]
          omega
        have hM := qMet a0 m1 _ hsum h
        have hG : GoodIn qT (wsV (mO y) idx (mN a0).cls (mN a0) (qWs a0)) := by
          intro w hw
          have hin : w ∈ qT := by
            simp only [wsV, qWs, List.cons_append, List.nil_append, List.mem_cons] at hw
            rcases hw with rfl | rfl | rfl | rfl | rfl | hw
            · exact tbw_T n1 rfl
            · exact tbw_T n2 rfl
            · exact tbw_T n3 rfl
            · exact tbw_T n4 rfl
            · exact List.mem_filter.mpr ⟨cw_all a0 m1, rfl⟩
            · exact hw
          exact qT_good w hin
        have hk44 : k < 44 := sh_lt (by omega)
        have he := wl_get (ad := ad) (aC := aC) (M := M) hk44
        rw [ent_o h0 n5] at he
        have hrecv := va_recv hst.1 hP (cls_c d0 n5) he
        have hrecv : ∃ cell : Cell, H[ad k]? = some cell ∧ cell.vm.isStatics = false ∧ s.vm.findClass (mN a0).cls = some cell.cls := by
          rw [← n6]
          exact hrecv
        have hlen : (trS ad (stk.take b0).reverse).length = b0 := by
          simp [trS]
          omega
        have hrun := va_runV (p := p) (l := l) (e := e) (below := below) (meth := meth) (H := H) (locs := locs) (cells := cells) (slots := slots) (g := F0 m (pcA y i) ls (trS ad stk)) (b := ad k) (As := trS ad (stk.take b0).reverse) (rest := trS ad st) (index := idx) (C := (mN a0).cls) ⟨hx, hb, hml, hown, hts⟩ hM
          (cwV b0 hts hG rfl rfl rfl ⟨rfl, m4.1, m4.2, n7⟩ ⟨Nat.le_trans m2 hfr, Nat.le_trans m3 hlo⟩)
          ⟨qPc_blind _, hrecv, fun U hU hW => ⟨rfl, qPc_at hA hP hS hst hU hW⟩⟩ rfl hlen hl.1
          (by
            show trS ad stk = _
            rw [trS_rev, List.reverse_reverse]
            have e : trS ad stk = trS ad (stk.take b0) ++ trS ad (stk.drop b0) := by rw [← trS_app, List.take_append_drop]
            rw [e, hdrop]
            rfl)
          (lv_room (by have e := csum_tr ad st; unfold csum at e k2; rw [e]; exact k2)) hdg ⟨hce, hsl⟩
        exact q_back hrun z2 C hS hl hr
      · cases g2
  · exact h.elim
theorem chk_in {y i : Nat} (hy : y < 156) (hi : i < (qOps.getD y []).length) : chk y i = true := by
  have g : ∀ lo n, chkAll lo n = true → lo ≤ y → y < lo + n → chk y i = true := by
    intro lo n h h1 h2
    have q := List.all_eq_true.mp h (y - lo) (by simp; omega)
    rw [show lo + (y - lo) = y by omega] at q
    exact List.all_eq_true.mp q i (by simpa using hi)
  have g2 : ∀ lo n, chkRng 155 lo n = true → y = 155 → lo ≤ i → i < lo + n → chk y i = true := by
    intro lo n h h0 h1 h2
    have q := List.all_eq_true.mp h (i - lo) (by simp; omega)
    rw [show lo + (i - lo) = i by omega] at q
    rw [h0]
    exact q
  rcases (show y < 25 ∨ (25 ≤ y ∧ y < 50) ∨ (50 ≤ y ∧ y < 75) ∨ (75 ≤ y ∧ y < 100) ∨ (100 ≤ y ∧ y < 125) ∨ (125 ≤ y ∧ y < 155) ∨ y = 155 by omega) with h | h | h | h | h | h | h
  · exact g 0 25 ck_0 (by omega) (by omega)
  · exact g 25 25 ck_1 h.1 h.2
  · exact g 50 25 ck_2 h.1 h.2
  · exact g 75 25 ck_3 h.1 h.2
  · exact g 100 25 ck_4 h.1 h.2
  · exact g 125 30 ck_5 h.1 h.2
  · have hl : (qOps.getD y []).length = 574 := by rw [h]; decide +kernel
    rw [hl] at hi
    rcases (show i < 150 ∨ (150 ≤ i ∧ i < 300) ∨ (300 ≤ i ∧ i < 450) ∨ (450 ≤ i ∧ i < 574) by omega) with q | q | q | q
    · exact g2 0 150 ck_6 h (by omega) (by omega)
    · exact g2 150 150 ck_7 h q.1 q.2
    · exact g2 300 150 ck_8 h q.1 q.2
    · exact g2 450 124 ck_9 h q.1 q.2
theorem chk_ok (y i : Nat) : chk y i = true := by
  have hout : qOp' y i = qHalt → chk y i = true := by
    intro h
    unfold chk
    rw [h]
    rfl
  rcases Nat.lt_or_ge y 156 with hy | hy
  · rcases Nat.lt_or_ge i (qOps.getD y []).length with hi | hi
    · exact chk_in hy hi
    · refine hout ?_
      unfold qOp'
      rw [List.getD_eq_getElem?_getD, List.getElem?_eq_none hi]
      rfl
  · refine hout ?_
    have e : qOps.getD y [] = [] := by
      rw [List.getD_eq_getElem?_getD, List.getElem?_eq_none (by rw [ck_len]; exact hy)]
      rfl
    unfold qOp'
    rw [e]
    rfl
set_option maxHeartbeats 4000000 in
/-- THE ABSTRACT MACHINE STANDS FOR THE MACHINE -/
theorem qSound (hA : qAd ad b) : qClosed Ls xs (PM l ad dC dI aC b Ls xs) := by
  intro y i L stk M Q h
  have hc := chk_ok y i
  unfold chk at hc
  rw [Bool.or_eq_true] at hc
  rcases hc with hc | hc
  · exfalso
    have z := q_bq hc
    generalize qOp' y i = o at h z
    have h2 := q_g7 h (by rw [z]; rfl) (by rw [z]; rfl) (by rw [z]; rfl) (by rw [z]; rfl) (by rw [z]; rfl) (by rw [z]; rfl)
    unfold qSt7 at h2
    rw [z] at h2
    exact h2
  · rw [Bool.and_eq_true] at hc
    obtain ⟨hd, ho⟩ := hc
    generalize qOp' y i = o at h ho
    have hdg : decode (mB y) (pcA y i) = .ok ((qRw y i).2.1, (qRw y i).2.2) := by
      unfold qDec at hd
      show decode (mB y) (qRw y i).1 = _
      split at hd
      · rename_i q hq
        rw [hq, of_decide_eq_true hd]
      · cases hd
    have ho : chkO y i (pcA y i) (qRw y i).2.1 (qRw y i).2.2 o = true := ho
    generalize (qRw y i).2.1 = ins at hdg ho
    generalize (qRw y i).2.2 = len at hdg ho
    cases ins with
    | iconst n => exact sd_iconst hdg ho h
    | bipush n => exact sd_bipush hdg ho h
    | sipush n => exact sd_sipush hdg ho h
    | lconst n => exact sd_lconst hdg ho h
    | aconst_null => exact sd_null hdg ho h
    | ldc n => exact sd_ldc hdg ho h
    | ldc2_w n => exact sd_ldc2 hdg ho h
    | iload n => exact sd_iload hdg ho h
    | iload_n n => exact sd_iload_n hdg ho h
    | lload n => exact sd_lload hdg ho h
    | lload_n n => exact sd_lload_n hdg ho h
    | aload n => exact sd_aload hdg ho h
    | aload_n n => exact sd_aload_n hdg ho h
    | istore n => exact sd_istore hdg ho h
    | istore_n n => exact sd_istore_n hdg ho h
    | lstore n => exact sd_lstore hdg ho h
    | lstore_n n => exact sd_lstore_n hdg ho h
    | astore n => exact sd_astore hdg ho h
    | astore_n n => exact sd_astore_n hdg ho h
    | iinc n k => exact sd_iinc hdg ho h
    | iadd => exact sd_iadd hdg ho h
    | isub => exact sd_isub hdg ho h
    | imul => exact sd_imul hdg ho h
    | iand => exact sd_iand hdg ho h
    | ior => exact sd_ior hdg ho h
    | ishl => exact sd_ishl hdg ho h
    | ishr => exact sd_ishr hdg ho h
    | idiv => exact sd_idiv hdg ho h
    | irem => exact sd_irem hdg ho h
    | ineg => exact sd_ineg hdg ho h
    | ladd => exact sd_ladd hdg ho h
    | lsub => exact sd_lsub hdg ho h
    | lmul => exact sd_lmul hdg ho h
    | ldiv => exact sd_ldiv hdg ho h
    | lrem => exact sd_lrem hdg ho h
    | lneg => exact sd_lneg hdg ho h
    | lshl => exact sd_lshl hdg ho h
    | lcmp => exact sd_lcmp hdg ho h
    | i2l => exact sd_i2l hdg ho h
    | l2i => exact sd_l2i hdg ho h
    | lxor => exact sd_lxor hdg ho h
    | ifCond cc off => exact sd_ifCond hdg ho h
    | if_icmp cc off => exact sd_if_icmp hdg ho h
    | ifnull off => exact sd_ifnull hdg ho h
    | ifnonnull off => exact sd_ifnonnull hdg ho h
    | goto off => exact sd_goto hdg ho h
    | tableswitch d lo hi offs => exact sd_tableswitch hdg ho h
    | lookupswitch d ps => exact sd_lookupswitch hdg ho h
    | getfield n => exact sd_getfield hA hdg ho h
    | putfield n => exact sd_putfield hA hdg ho h
    | arraylength => exact sd_arraylength hA hdg ho h
    | iaload => exact sd_iaload hA hdg ho h
    | laload => exact sd_laload hA hdg ho h
    | baload => exact sd_baload hA hdg ho h
    | aaload => exact sd_aaload hA hdg ho h
    | iastore => exact sd_iastore hA hdg ho h
    | lastore => exact sd_lastore hA hdg ho h
    | bastore => exact sd_bastore hA hdg ho h
    | invokestatic n => exact sd_invokestatic hA hdg ho h
    | invokevirtual n => exact sd_invokevirtual hA hdg ho h
    | ireturn => exact sd_ireturn hdg ho h
    | lreturn => exact sd_lreturn hdg ho h
    | areturn => exact sd_areturn hdg ho h
    | return_ => exact sd_return hdg ho h
    | dup => exact sd_dup hdg ho h
    | dup2 => exact sd_dup2 hdg ho h
    | _ => exact Bool.noConfusion ho
end QS
end
section
/-! the runner: many steps at once; static questions are answered by counting -/
def qWeak (P : qSem) : Prop := ∀ (y i : Nat) (L L' : qLc) (stk : List Value) (M : qMem) (Q : qPost), (∀ q ∈ L', q ∈ L) → P y i L' stk M Q → P y i L stk M Q
def qMono (P : qSem) : Prop := ∀ (y i : Nat) (L : qLc) (stk : List Value) (M : qMem) (Q Q' : qPost), (∀ v M', Q v M' → Q' v M') → P y i L stk M Q → P y i L stk M Q'
def qGood (Ls : Nat) (xs : Nat → Int32) (P : qSem) : Prop := qClosed Ls xs P ∧ qWeak P ∧ qMono P
theorem qGood_PM {l : Launch} {ad : Nat → Nat} {dC : Nat → ClassId} {dI : Nat → Nat → Nat} {aC : Nat → ClassId} {b Ls : Nat} {xs : Nat → Int32} (hA : qAd ad b) : qGood Ls xs (PM l ad dC dI aC b Ls xs) := by
  refine ⟨qSound hA, ?_, ?_⟩
  · intro y i L L' stk M Q hLL h p e R s m args below meth c H locs cells slots ls G C hP hS hl hr
    refine h p e R s m args below meth c H locs cells slots ls G C hP hS ⟨hl.1, hl.2.1, fun q hq => ?_⟩ hr
    obtain ⟨q0, h0, rfl⟩ := List.mem_map.mp hq
    exact hl.2.2 _ (List.mem_map.mpr ⟨q0, hLL q0 h0, rfl⟩)
  · intro y i L stk M Q Q' hQ h p e R s m args below meth c H locs cells slots ls G C hP hS hl hr
    exact h p e R s m args below meth c H locs cells slots ls G C hP hS hl (fun v M' H' locs' ls' pc' h1 h2 h3 h4 => hr v M' H' locs' ls' pc' h1 (hQ v M' h2) h3 h4)
def qb_34 (P : qSem) (y i : Nat) (o : qOp) (L : qLc) (stk : List Value) (M : qMem) (Q : qPost) : Prop :=
  match stk with
    | .ref k :: st => bif Nat.beq (shT k) o.2.1 then P y (i + 1) L (.int (M.1 k o.2.2.1) :: st) M Q else False
    | _ => False
def qb_35 (P : qSem) (y i : Nat) (o : qOp) (L : qLc) (stk : List Value) (M : qMem) (Q : qPost) : Prop :=
  match stk with
    | .ref k :: st => bif Nat.beq (shT k) o.2.1 then P y (i + 1) L (.long (M.2 k o.2.2.1) :: st) M Q else False
    | _ => False
def qb_36 (P : qSem) (y i : Nat) (o : qOp) (L : qLc) (stk : List Value) (M : qMem) (Q : qPost) : Prop :=
  match stk with
    | .ref k :: st => bif Nat.beq (shT k) o.2.1 then P y (i + 1) L (.ref (rf k o.2.2.1) :: st) M Q else False
    | _ => False
def qb_37 (P : qSem) (y i : Nat) (o : qOp) (L : qLc) (stk : List Value) (M : qMem) (Q : qPost) : Prop :=
  match stk with
    | .int x :: .ref k :: st => bif Nat.beq (shT k) o.2.1 then P y (i + 1) L st (pI M k o.2.2.1 x) Q else False
    | _ => False
def qb_38 (P : qSem) (y i : Nat) (o : qOp) (L : qLc) (stk : List Value) (M : qMem) (Q : qPost) : Prop :=
  match stk with
    | .long x :: .ref k :: st => bif Nat.beq (shT k) o.2.1 then P y (i + 1) L st (pJ M k o.2.2.1 x) Q else False
    | _ => False
def qb_39 (P : qSem) (y i : Nat) (o : qOp) (L : qLc) (stk : List Value) (M : qMem) (Q : qPost) : Prop :=
  match stk with
    | .int x :: .ref k :: st => bif Nat.beq (shT k) o.2.1 then narrow .boolean (.int x) = .int x ∧ P y (i + 1) L st (pI M k o.2.2.1 x) Q else False
    | _ => False
def qb_40 (P : qSem) (y i : Nat) (o : qOp) (L : qLc) (stk : List Value) (M : qMem) (Q : qPost) : Prop :=
  match stk with
    | .ref k :: st => bif Nat.ble 100 (shT k) && Nat.ble (shT k) 104 then P y (i + 1) L (.int (Int32.ofNat (shL k)) :: st) M Q else False
    | _ => False
def qb_41 (P : qSem) (y i : Nat) (o : qOp) (L : qLc) (stk : List Value) (M : qMem) (Q : qPost) : Prop :=
  match stk with
    | .int j :: .ref k :: st => bif Nat.beq (shT k) 100 then vp_in j (shL k) ∧ P y (i + 1) L (.int (M.1 k j.toNatClampNeg) :: st) M Q else False
    | _ => False
def qb_42 (P : qSem) (y i : Nat) (o : qOp) (L : qLc) (stk : List Value) (M : qMem) (Q : qPost) : Prop :=
  match stk with
    | .int j :: .ref k :: st => bif Nat.beq (shT k) 101 then vp_in j (shL k) ∧ P y (i + 1) L (.long (M.2 k j.toNatClampNeg) :: st) M Q else False
    | _ => False
def qb_43 (P : qSem) (y i : Nat) (o : qOp) (L : qLc) (stk : List Value) (M : qMem) (Q : qPost) : Prop :=
  match stk with
    | .int j :: .ref k :: st => bif Nat.beq (shT k) 102 then vp_in j (shL k) ∧ P y (i + 1) L (.int (M.1 k j.toNatClampNeg) :: st) M Q else False
    | _ => False
def qb_44 (P : qSem) (y i : Nat) (o : qOp) (L : qLc) (stk : List Value) (M : qMem) (Q : qPost) : Prop :=
  match stk with
    | .int j :: .ref k :: st => bif Nat.beq (shT k) o.2.1 then vp_in j (shL k) ∧ P y (i + 1) L (.ref (rf k j.toNatClampNeg) :: st) M Q else False
    | _ => False
def qb_45 (P : qSem) (y i : Nat) (o : qOp) (L : qLc) (stk : List Value) (M : qMem) (Q : qPost) : Prop :=
  match stk with
    | .int x :: .int j :: .ref k :: st => bif Nat.beq (shT k) 100 then vp_in j (shL k) ∧ P y (i + 1) L st (pI M k j.toNatClampNeg x) Q else False
    | _ => False
def qb_46 (P : qSem) (y i : Nat) (o : qOp) (L : qLc) (stk : List Value) (M : qMem) (Q : qPost) : Prop :=
  match stk with
    | .long x :: .int j :: .ref k :: st => bif Nat.beq (shT k) 101 then vp_in j (shL k) ∧ P y (i + 1) L st (pJ M k j.toNatClampNeg x) Q else False
    | _ => False
def qb_47 (P : qSem) (y i : Nat) (o : qOp) (L : qLc) (stk : List Value) (M : qMem) (Q : qPost) : Prop :=
  match stk with
    | .int x :: .int j :: .ref k :: st => bif Nat.beq (shT k) 102 then vp_in j (shL k) ∧ P y (i + 1) L st (pI M k j.toNatClampNeg (vp_nar .boolean x)) Q else False
    | _ => False
def qb_49 (Ls : Nat) (xs : Nat → Int32) (P : qSem) (y i : Nat) (o : qOp) (L : qLc) (stk : List Value) (M : qMem) (Q : qPost) : Prop :=
  match stk.drop o.2.2.1 with
    | .ref k :: st => bif Nat.ble o.2.2.1 stk.length && (Nat.ble (csum st) 8 && Nat.ble (csum (stk.take o.2.2.1) + 1) (mL o.2.1)) then (bif Nat.beq (shT k) o.2.2.2.1 then P o.2.1 0 (lv_args 0 (.ref k :: (stk.take o.2.2.1).reverse)) [] M (fun v M' => P y (i + 1) L (v.toList ++ st) M' Q) else False) else False
    | _ => False
def qb_60 (P : qSem) (y i : Nat) (o : qOp) (L : qLc) (stk : List Value) (M : qMem) (Q : qPost) : Prop :=
  match stk with
    | .ref k :: st => bif Nat.beq (shT k) o.2.1 then P y (i + 1) L (.int (M.1 k o.2.2.1) :: st) M Q else False
    | _ => False
def qb_61 (P : qSem) (y i : Nat) (o : qOp) (L : qLc) (stk : List Value) (M : qMem) (Q : qPost) : Prop :=
  match stk with
    | .ref k :: st => bif Nat.beq (shT k) o.2.1 then P y (i + 1) L (.long (M.2 k o.2.2.1) :: st) M Q else False
    | _ => False
def qb_62 (P : qSem) (y i : Nat) (o : qOp) (L : qLc) (stk : List Value) (M : qMem) (Q : qPost) : Prop :=
  match stk with
    | .ref k :: st => bif Nat.beq (shT k) o.2.1 then P y (i + 1) L (.ref (rf k o.2.2.1) :: st) M Q else False
    | _ => False
def qb_65 (P : qSem) (y i : Nat) (o : qOp) (L : qLc) (stk : List Value) (M : qMem) (Q : qPost) : Prop :=
  match stk with
    | .int x :: .ref k :: st => bif Nat.beq (shT k) o.2.1 then narrow .boolean (.int x) = .int x ∧ P y (i + 1) L st (pI M k o.2.2.1 x) Q else False
    | _ => False
def qBt1 (P : qSem) (y i : Nat) (o : qOp) (L : qLc) (stk : List Value) (M : qMem) (Q : qPost) : Prop :=
  match o.1 with
  | 0 => qx_0 P y i o L stk M Q
  | 1 => qx_1 P y i o L stk M Q
  | 2 => qx_2 P y i o L stk M Q
  | 3 => qx_3 P y i o L stk M Q
  | 4 => qx_4 P y i o L stk M Q
  | 5 => qx_5 P y i o L stk M Q
  | 6 => qx_6 P y i o L stk M Q
  | _ => qx_7 P y i o L stk M Q
def qBt2 (P : qSem) (y i : Nat) (o : qOp) (L : qLc) (stk : List Value) (M : qMem) (Q : qPost) : Prop :=
  match o.1 with
  | 8 => qx_8 P y i o L stk M Q
  | 9 => qx_9 P y i o L stk M Q
  | 10 => qx_10 P y i o L stk M Q
  | 11 => qx_11 P y i o L stk M Q
  | 12 => qx_12 P y i o L stk M Q
  | 13 => qx_13 P y i o L stk M Q
  | 14 => qx_14 P y i o L stk M Q
  | 15 => qx_15 P y i o L stk M Q
  | 16 => qx_16 P y i o L stk M Q
  | 17 => qx_17 P y i o L stk M Q
  | 18 => qx_18 P y i o L stk M Q
  | 19 => qx_19 P y i o L stk M Q
  | 20 => qx_20 P y i o L stk M Q
  | 21 => qx_21 P y i o L stk M Q
  | 22 => qx_22 P y i o L stk M Q
  | 23 => qx_23 P y i o L stk M Q
  | 24 => qx_24 P y i o L stk M Q
  | 25 => qx_25 P y i o L stk M Q
  | 26 => qx_26 P y i o L stk M Q
  | _ => qx_27 P y i o L stk M Q
def qBt3 (P : qSem) (y i : Nat) (o : qOp) (L : qLc) (stk : List Value) (M : qMem) (Q : qPost) : Prop :=
  match o.1 with
  | 28 => qx_28 P y i o L stk M Q
  | 29 => qx_29 P y i o L stk M Q
  | 30 => qx_30 P y i o L stk M Q
  | 31 => qx_31 P y i o L stk M Q
  | 32 => qx_32 P y i o L stk M Q
  | _ => qx_33 P y i o L stk M Q
def qBt4 (P : qSem) (y i : Nat) (o : qOp) (L : qLc) (stk : List Value) (M : qMem) (Q : qPost) : Prop :=
  match o.1 with
  | 34 => qb_34 P y i o L stk M Q
  | 35 => qb_35 P y i o L stk M Q
  | 36 => qb_36 P y i o L stk M Q
  | 37 => qb_37 P y i o L stk M Q
  | 38 => qb_38 P y i o L stk M Q
  | _ => qb_39 P y i o L stk M Q
def qBt5 (P : qSem) (y i : Nat) (o : qOp) (L : qLc) (stk : List Value) (M : qMem) (Q : qPost) : Prop :=
  match o.1 with
  | 40 => qb_40 P y i o L stk M Q
  | 41 => qb_41 P y i o L stk M Q
  | 42 => qb_42 P y i o L stk M Q
  | 43 => qb_43 P y i o L stk M Q
  | 44 => qb_44 P y i o L stk M Q
  | 45 => qb_45 P y i o L stk M Q
  | 46 => qb_46 P y i o L stk M Q
  | _ => qb_47 P y i o L stk M Q
def qBt6 (Ls : Nat) (xs : Nat → Int32) (P : qSem) (y i : Nat) (o : qOp) (L : qLc) (stk : List Value) (M : qMem) (Q : qPost) : Prop :=
  match o.1 with
  | 48 => qx_48 Ls xs P y i o L stk M Q
  | 49 => qb_49 Ls xs P y i o L stk M Q
  | 50 => qx_50 Ls xs P y i o L stk M Q
  | 51 => qx_51 Ls xs P y i o L stk M Q
  | 52 => qx_52 Ls xs P y i o L stk M Q
  | 53 => qx_53 Ls xs P y i o L stk M Q
  | 54 => qx_54 Ls xs P y i o L stk M Q
  | 55 => qx_55 Ls xs P y i o L stk M Q
  | 56 => qx_56 Ls xs P y i o L stk M Q
  | 57 => qx_57 Ls xs P y i o L stk M Q
  | 58 => qx_58 Ls xs P y i o L stk M Q
  | _ => qx_59 Ls xs P y i o L stk M Q
def qBt7 (P : qSem) (y i : Nat) (o : qOp) (L : qLc) (stk : List Value) (M : qMem) (Q : qPost) : Prop :=
  match o.1 with
  | 60 => qb_60 P y i o L stk M Q
  | 61 => qb_61 P y i o L stk M Q
  | 62 => qb_62 P y i o L stk M Q
  | 65 => qb_65 P y i o L stk M Q
  | _ => False
def qStepB (Ls : Nat) (xs : Nat → Int32) (P : qSem) (y i : Nat) (o : qOp) (L : qLc) (stk : List Value) (M : qMem) (Q : qPost) : Prop :=
  bif Nat.ble o.1 7 then qBt1 P y i o L stk M Q
  else bif Nat.ble o.1 27 then qBt2 P y i o L stk M Q
  else bif Nat.ble o.1 33 then qBt3 P y i o L stk M Q
  else bif Nat.ble o.1 39 then qBt4 P y i o L stk M Q
  else bif Nat.ble o.1 47 then qBt5 P y i o L stk M Q
  else bif Nat.ble o.1 59 then qBt6 Ls xs P y i o L stk M Q
  else qBt7 P y i o L stk M Q
section QM
variable {Ls : Nat} {xs : Nat → Int32} {R P : qSem} {y i : Nat} {o : qOp} {L : qLc} {stk : List Value} {M : qMem} {Q : qPost}
def qLe (R P : qSem) : Prop := ∀ (y i : Nat) (L : qLc) (stk : List Value) (M : qMem) (Q : qPost), R y i L stk M Q → P y i L stk M Q
theorem q_swM {x : Int32} {f g : Nat → Prop} (hfg : ∀ t, f t → g t) : ∀ (r : List (Int × Nat)) (d : Nat), swP x f r d → swP x g r d := by
  intro r
  induction r with
  | nil => intro d h; exact hfg d h
  | cons q r ih => intro d h; exact ⟨fun e => hfg _ (h.1 e), fun e => ih d (h.2 e)⟩
theorem q_bif {c : Bool} {A B : Prop} (h : bif c then A else False) (hAB : c = true → A → B) : B := by
  cases c with
  | true => exact hAB rfl h
  | false => exact h.elim
theorem q_bif2 {c : Bool} {A B : Prop} (h : bif c then A else False) (hAB : A → B) : bif c then B else False := by
  cases c with
  | true => exact hAB h
  | false => exact h.elim
theorem qm_0 (hRP : qLe R P) (hm : qMono P) (h : qx_0 R y i o L stk M Q) : qx_0 P y i o L stk M Q := by
  unfold qx_0 at h
  unfold qx_0
  exact hRP _ _ _ _ _ _ h
theorem qm_1 (hRP : qLe R P) (hm : qMono P) (h : qx_1 R y i o L stk M Q) : qx_1 P y i o L stk M Q := by
  unfold qx_1 at h
  unfold qx_1
  split at h
  · exact hRP _ _ _ _ _ _ h
  · exact h.elim
theorem qm_2 (hRP : qLe R P) (hm : qMono P) (h : qx_2 R y i o L stk M Q) : qx_2 P y i o L stk M Q := by
  unfold qx_2 at h
  unfold qx_2
  split at h
  · exact hRP _ _ _ _ _ _ h
  · exact h.elim
theorem qm_3 (hRP : qLe R P) (hm : qMono P) (h : qx_3 R y i o L stk M Q) : qx_3 P y i o L stk M Q := by
  unfold qx_3 at h
  unfold qx_3
  split at h
  · exact hRP _ _ _ _ _ _ h
  · exact hRP _ _ _ _ _ _ h
  · exact h.elim
theorem qm_4 (hRP : qLe R P) (hm : qMono P) (h : qx_4 R y i o L stk M Q) : qx_4 P y i o L stk M Q := by
  unfold qx_4 at h
  unfold qx_4
  split at h
  · exact hRP _ _ _ _ _ _ h
  · exact h.elim
theorem qm_5 (hRP : qLe R P) (hm : qMono P) (h : qx_5 R y i o L stk M Q) : qx_5 P y i o L stk M Q := by
  unfold qx_5 at h
  unfold qx_5
  split at h
  · exact hRP _ _ _ _ _ _ h
  · exact h.elim
theorem qm_6 (hRP : qLe R P) (hm : qMono P) (h : qx_6 R y i o L stk M Q) : qx_6 P y i o L stk M Q := by
  unfold qx_6 at h
  unfold qx_6
  split at h
  · exact hRP _ _ _ _ _ _ h
  · exact hRP _ _ _ _ _ _ h
  · exact h.elim
theorem qm_7 (hRP : qLe R P) (hm : qMono P) (h : qx_7 R y i o L stk M Q) : qx_7 P y i o L stk M Q := by
  unfold qx_7 at h
  unfold qx_7
  split at h
  · exact hRP _ _ _ _ _ _ h
  · exact h.elim
theorem qm_8 (hRP : qLe R P) (hm : qMono P) (h : qx_8 R y i o L stk M Q) : qx_8 P y i o L stk M Q := by
  unfold qx_8 at h
  unfold qx_8
  split at h
  · exact hRP _ _ _ _ _ _ h
  · exact h.elim
theorem qm_9 (hRP : qLe R P) (hm : qMono P) (h : qx_9 R y i o L stk M Q) : qx_9 P y i o L stk M Q := by
  unfold qx_9 at h
  unfold qx_9
  split at h
  · exact hRP _ _ _ _ _ _ h
  · exact h.elim
theorem qm_10 (hRP : qLe R P) (hm : qMono P) (h : qx_10 R y i o L stk M Q) : qx_10 P y i o L stk M Q := by
  unfold qx_10 at h
  unfold qx_10
  split at h
  · exact hRP _ _ _ _ _ _ h
  · exact h.elim
theorem qm_11 (hRP : qLe R P) (hm : qMono P) (h : qx_11 R y i o L stk M Q) : qx_11 P y i o L stk M Q := by
  unfold qx_11 at h
  unfold qx_11
  split at h
  · exact hRP _ _ _ _ _ _ h
  · exact h.elim
theorem qm_12 (hRP : qLe R P) (hm : qMono P) (h : qx_12 R y i o L stk M Q) : qx_12 P y i o L stk M Q := by
  unfold qx_12 at h
  unfold qx_12
  split at h
  · exact hRP _ _ _ _ _ _ h
  · exact h.elim
theorem qm_13 (hRP : qLe R P) (hm : qMono P) (h : qx_13 R y i o L stk M Q) : qx_13 P y i o L stk M Q := by
  unfold qx_13 at h
  unfold qx_13
  split at h
  · exact hRP _ _ _ _ _ _ h
  · exact h.elim
theorem qm_14 (hRP : qLe R P) (hm : qMono P) (h : qx_14 R y i o L stk M Q) : qx_14 P y i o L stk M Q := by
  unfold qx_14 at h
  unfold qx_14
  split at h
  · exact hRP _ _ _ _ _ _ h
  · exact h.elim
theorem qm_15 (hRP : qLe R P) (hm : qMono P) (h : qx_15 R y i o L stk M Q) : qx_15 P y i o L stk M Q := by
  unfold qx_15 at h
  unfold qx_15
  split at h
  · exact ⟨h.1, hRP _ _ _ _ _ _ h.2⟩
  · exact h.elim
theorem qm_16 (hRP : qLe R P) (hm : qMono P) (h : qx_16 R y i o L stk M Q) : qx_16 P y i o L stk M Q := by
  unfold qx_16 at h
  unfold qx_16
  split at h
  · exact ⟨h.1, hRP _ _ _ _ _ _ h.2⟩
  · exact h.elim
theorem qm_17 (hRP : qLe R P) (hm : qMono P) (h : qx_17 R y i o L stk M Q) : qx_17 P y i o L stk M Q := by
  unfold qx_17 at h
  unfold qx_17
  split at h
  · exact hRP _ _ _ _ _ _ h
  · exact h.elim
theorem qm_18 (hRP : qLe R P) (hm : qMono P) (h : qx_18 R y i o L stk M Q) : qx_18 P y i o L stk M Q := by
  unfold qx_18 at h
  unfold qx_18
  split at h
  · exact hRP _ _ _ _ _ _ h
  · exact h.elim
theorem qm_19 (hRP : qLe R P) (hm : qMono P) (h : qx_19 R y i o L stk M Q) : qx_19 P y i o L stk M Q := by
  unfold qx_19 at h
  unfold qx_19
  split at h
  · exact hRP _ _ _ _ _ _ h
  · exact h.elim
theorem qm_20 (hRP : qLe R P) (hm : qMono P) (h : qx_20 R y i o L stk M Q) : qx_20 P y i o L stk M Q := by
  unfold qx_20 at h
  unfold qx_20
  split at h
  · exact hRP _ _ _ _ _ _ h
  · exact h.elim
theorem qm_21 (hRP : qLe R P) (hm : qMono P) (h : qx_21 R y i o L stk M Q) : qx_21 P y i o L stk M Q := by
  unfold qx_21 at h
  unfold qx_21
  split at h
  · exact ⟨h.1, hRP _ _ _ _ _ _ h.2⟩
  · exact h.elim
theorem qm_22 (hRP : qLe R P) (hm : qMono P) (h : qx_22 R y i o L stk M Q) : qx_22 P y i o L stk M Q := by
  unfold qx_22 at h
  unfold qx_22
  split at h
  · exact ⟨h.1, hRP _ _ _ _ _ _ h.2⟩
  · exact h.elim
theorem qm_23 (hRP : qLe R P) (hm : qMono P) (h : qx_23 R y i o L stk M Q) : qx_23 P y i o L stk M Q := by
  unfold qx_23 at h
  unfold qx_23
  split at h
  · exact hRP _ _ _ _ _ _ h
  · exact h.elim
theorem qm_24 (hRP : qLe R P) (hm : qMono P) (h : qx_24 R y i o L stk M Q) : qx_24 P y i o L stk M Q := by
  unfold qx_24 at h
  unfold qx_24
  split at h
  · exact hRP _ _ _ _ _ _ h
  · exact h.elim
theorem qm_25 (hRP : qLe R P) (hm : qMono P) (h : qx_25 R y i o L stk M Q) : qx_25 P y i o L stk M Q := by
  unfold qx_25 at h
  unfold qx_25
  split at h
  · exact hRP _ _ _ _ _ _ h
  · exact h.elim
theorem qm_26 (hRP : qLe R P) (hm : qMono P) (h : qx_26 R y i o L stk M Q) : qx_26 P y i o L stk M Q := by
  unfold qx_26 at h
  unfold qx_26
  split at h
  · exact hRP _ _ _ _ _ _ h
  · exact h.elim
theorem qm_27 (hRP : qLe R P) (hm : qMono P) (h : qx_27 R y i o L stk M Q) : qx_27 P y i o L stk M Q := by
  unfold qx_27 at h
  unfold qx_27
  split at h
  · exact hRP _ _ _ _ _ _ h
  · exact h.elim
theorem qm_28 (hRP : qLe R P) (hm : qMono P) (h : qx_28 R y i o L stk M Q) : qx_28 P y i o L stk M Q := by
  unfold qx_28 at h
  unfold qx_28
  split at h
  · exact ⟨fun c => hRP _ _ _ _ _ _ (h.1 c), fun c => hRP _ _ _ _ _ _ (h.2 c)⟩
  · exact h.elim
theorem qm_29 (hRP : qLe R P) (hm : qMono P) (h : qx_29 R y i o L stk M Q) : qx_29 P y i o L stk M Q := by
  unfold qx_29 at h
  unfold qx_29
  split at h
  · exact ⟨fun c => hRP _ _ _ _ _ _ (h.1 c), fun c => hRP _ _ _ _ _ _ (h.2 c)⟩
  · exact h.elim
theorem qm_30 (hRP : qLe R P) (hm : qMono P) (h : qx_30 R y i o L stk M Q) : qx_30 P y i o L stk M Q := by
  unfold qx_30 at h
  unfold qx_30
  split at h
  · exact hRP _ _ _ _ _ _ h
  · exact hRP _ _ _ _ _ _ h
  · exact h.elim
theorem qm_31 (hRP : qLe R P) (hm : qMono P) (h : qx_31 R y i o L stk M Q) : qx_31 P y i o L stk M Q := by
  unfold qx_31 at h
  unfold qx_31
  split at h
  · exact hRP _ _ _ _ _ _ h
  · exact hRP _ _ _ _ _ _ h
  · exact h.elim
theorem qm_32 (hRP : qLe R P) (hm : qMono P) (h : qx_32 R y i o L stk M Q) : qx_32 P y i o L stk M Q := by
  unfold qx_32 at h
  unfold qx_32
  exact hRP _ _ _ _ _ _ h
theorem qm_33 (hRP : qLe R P) (hm : qMono P) (h : qx_33 R y i o L stk M Q) : qx_33 P y i o L stk M Q := by
  unfold qx_33 at h
  unfold qx_33
  split at h
  · exact q_swM (fun t ht => hRP _ _ _ _ _ _ ht) _ _ h
  · exact h.elim
theorem qm_34 (hRP : qLe R P) (hm : qMono P) (h : qb_34 R y i o L stk M Q) : qx_34 P y i o L stk M Q := by
  unfold qb_34 at h
  unfold qx_34
  split at h
  · exact q_bif h (fun e h => ⟨q_bq e, hRP _ _ _ _ _ _ h⟩)
  · exact h.elim
theorem qm_35 (hRP : qLe R P) (hm : qMono P) (h : qb_35 R y i o L stk M Q) : qx_35 P y i o L stk M Q := by
  unfold qb_35 at h
  unfold qx_35
  split at h
  · exact q_bif h (fun e h => ⟨q_bq e, hRP _ _ _ _ _ _ h⟩)
  · exact h.elim
theorem qm_36 (hRP : qLe R P) (hm : qMono P) (h : qb_36 R y i o L stk M Q) : qx_36 P y i o L stk M Q := by
  unfold qb_36 at h
  unfold qx_36
  split at h
  · exact q_bif h (fun e h => ⟨q_bq e, hRP _ _ _ _ _ _ h⟩)
  · exact h.elim
theorem qm_37 (hRP : qLe R P) (hm : qMono P) (h : qb_37 R y i o L stk M Q) : qx_37 P y i o L stk M Q := by
  unfold qb_37 at h
  unfold qx_37
  split at h
  · exact q_bif h (fun e h => ⟨q_bq e, hRP _ _ _ _ _ _ h⟩)
  · exact h.elim
theorem qm_38 (hRP : qLe R P) (hm : qMono P) (h : qb_38 R y i o L stk M Q) : qx_38 P y i o L stk M Q := by
  unfold qb_38 at h
  unfold qx_38
  split at h
  · exact q_bif h (fun e h => ⟨q_bq e, hRP _ _ _ _ _ _ h⟩)
  · exact h.elim
theorem qm_39 (hRP : qLe R P) (hm : qMono P) (h : qb_39 R y i o L stk M Q) : qx_39 P y i o L stk M Q := by
  unfold qb_39 at h
  unfold qx_39
  split at h
  · exact q_bif h (fun e h => ⟨q_bq e, h.1, hRP _ _ _ _ _ _ h.2⟩)
  · exact h.elim
theorem qm_40 (hRP : qLe R P) (hm : qMono P) (h : qb_40 R y i o L stk M Q) : qx_40 P y i o L stk M Q := by
  unfold qb_40 at h
  unfold qx_40
  split at h
  · refine q_bif h (fun e h => ?_)
    rw [Bool.and_eq_true] at e
    exact ⟨Nat.le_of_ble_eq_true e.1, Nat.le_of_ble_eq_true e.2, hRP _ _ _ _ _ _ h⟩
  · exact h.elim
theorem qm_41 (hRP : qLe R P) (hm : qMono P) (h : qb_41 R y i o L stk M Q) : qx_41 P y i o L stk M Q := by
  unfold qb_41 at h
  unfold qx_41
  split at h
  · exact q_bif h (fun e h => ⟨q_bq e, h.1, hRP _ _ _ _ _ _ h.2⟩)
  · exact h.elim
theorem qm_42 (hRP : qLe R P) (hm : qMono P) (h : qb_42 R y i o L stk M Q) : qx_42 P y i o L stk M Q := by
  unfold qb_42 at h
  unfold qx_42
  split at h
  · exact q_bif h (fun e h => ⟨q_bq e, h.1, hRP _ _ _ _ _ _ h.2⟩)
  · exact h.elim
theorem qm_43 (hRP : qLe R P) (hm : qMono P) (h : qb_43 R y i o L stk M Q) : qx_43 P y i o L stk M Q := by
  unfold qb_43 at h
  unfold qx_43
  split at h
  · exact q_bif h (fun e h => ⟨q_bq e, h.1, hRP _ _ _ _ _ _ h.2⟩)
  · exact h.elim
theorem qm_44 (hRP : qLe R P) (hm : qMono P) (h : qb_44 R y i o L stk M Q) : qx_44 P y i o L stk M Q := by
  unfold qb_44 at h
  unfold qx_44
  split at h
  · exact q_bif h (fun e h => ⟨q_bq e, h.1, hRP _ _ _ _ _ _ h.2⟩)
  · exact h.elim
theorem qm_45 (hRP : qLe R P) (hm : qMono P) (h : qb_45 R y i o L stk M Q) : qx_45 P y i o L stk M Q := by
  unfold qb_45 at h
  unfold qx_45
  split at h
  · exact q_bif h (fun e h => ⟨q_bq e, h.1, hRP _ _ _ _ _ _ h.2⟩)
  · exact h.elim
theorem qm_46 (hRP : qLe R P) (hm : qMono P) (h : qb_46 R y i o L stk M Q) : qx_46 P y i o L stk M Q := by
  unfold qb_46 at h
  unfold qx_46
  split at h
  · exact q_bif h (fun e h => ⟨q_bq e, h.1, hRP _ _ _ _ _ _ h.2⟩)
  · exact h.elim
theorem qm_47 (hRP : qLe R P) (hm : qMono P) (h : qb_47 R y i o L stk M Q) : qx_47 P y i o L stk M Q := by
  unfold qb_47 at h
  unfold qx_47
  split at h
  · exact q_bif h (fun e h => ⟨q_bq e, h.1, hRP _ _ _ _ _ _ h.2⟩)
  · exact h.elim
theorem qm_48 (hRP : qLe R P) (hm : qMono P) (h : qx_48 Ls xs R y i o L stk M Q) : qx_48 Ls xs P y i o L stk M Q := by
  unfold qx_48 at h
  unfold qx_48
  exact q_bif2 h (fun h => hm _ _ _ _ _ _ _ (fun v M' q => hRP _ _ _ _ _ _ q) (hRP _ _ _ _ _ _ h))
theorem qm_49 (hRP : qLe R P) (hm : qMono P) (h : qb_49 Ls xs R y i o L stk M Q) : qx_49 Ls xs P y i o L stk M Q := by
  unfold qb_49 at h
  unfold qx_49
  split at h
  · rename_i k st heq
    rw [heq]
    exact q_bif2 h (fun h => q_bif h (fun e h => ⟨q_bq e, hm _ _ _ _ _ _ _ (fun v M' q => hRP _ _ _ _ _ _ q) (hRP _ _ _ _ _ _ h)⟩))
  · exact h.elim
theorem qm_50 (hRP : qLe R P) (hm : qMono P) (h : qx_50 Ls xs R y i o L stk M Q) : qx_50 Ls xs P y i o L stk M Q := by
  unfold qx_50 at h
  unfold qx_50
  exact h
theorem qm_51 (hRP : qLe R P) (hm : qMono P) (h : qx_51 Ls xs R y i o L stk M Q) : qx_51 Ls xs P y i o L stk M Q := by
  unfold qx_51 at h
  unfold qx_51
  exact h
theorem qm_52 (hRP : qLe R P) (hm : qMono P) (h : qx_52 Ls xs R y i o L stk M Q) : qx_52 Ls xs P y i o L stk M Q := by
  unfold qx_52 at h
  unfold qx_52
  exact h
theorem qm_53 (hRP : qLe R P) (hm : qMono P) (h : qx_53 Ls xs R y i o L stk M Q) : qx_53 Ls xs P y i o L stk M Q := by
  unfold qx_53 at h
  unfold qx_53
  exact h
theorem qm_54 (hRP : qLe R P) (hm : qMono P) (h : qx_54 Ls xs R y i o L stk M Q) : qx_54 Ls xs P y i o L stk M Q := by
  unfold qx_54 at h
  unfold qx_54
  exact h
theorem qm_55 (hRP : qLe R P) (hm : qMono P) (h : qx_55 Ls xs R y i o L stk M Q) : qx_55 Ls xs P y i o L stk M Q := by
  unfold qx_55 at h
  unfold qx_55
  split at h
  · exact hRP _ _ _ _ _ _ h
  · exact hRP _ _ _ _ _ _ h
  · exact h.elim
theorem qm_56 (hRP : qLe R P) (hm : qMono P) (h : qx_56 Ls xs R y i o L stk M Q) : qx_56 Ls xs P y i o L stk M Q := by
  unfold qx_56 at h
  unfold qx_56
  split at h
  · exact hRP _ _ _ _ _ _ h
  · exact h.elim
theorem qm_57 (hRP : qLe R P) (hm : qMono P) (h : qx_57 Ls xs R y i o L stk M Q) : qx_57 Ls xs P y i o L stk M Q := by
  unfold qx_57 at h
  unfold qx_57
  split at h
  · exact hRP _ _ _ _ _ _ h
  · exact h.elim
theorem qm_58 (hRP : qLe R P) (hm : qMono P) (h : qx_58 Ls xs R y i o L stk M Q) : qx_58 Ls xs P y i o L stk M Q := by
  unfold qx_58 at h
  unfold qx_58
  split at h
  · exact ⟨h.1, hRP _ _ _ _ _ _ h.2⟩
  · exact h.elim
theorem qm_59 (hRP : qLe R P) (hm : qMono P) (h : qx_59 Ls xs R y i o L stk M Q) : qx_59 Ls xs P y i o L stk M Q := by
  unfold qx_59 at h
  unfold qx_59
  split at h
  · exact hRP _ _ _ _ _ _ h
  · exact h.elim
theorem qm_60 (hRP : qLe R P) (hm : qMono P) (h : qb_60 R y i o L stk M Q) : qx_60 P y i o L stk M Q := by
  unfold qb_60 at h
  unfold qx_60
  split at h
  · exact q_bif h (fun e h => ⟨q_bq e, hRP _ _ _ _ _ _ h⟩)
  · exact h.elim
theorem qm_61 (hRP : qLe R P) (hm : qMono P) (h : qb_61 R y i o L stk M Q) : qx_61 P y i o L stk M Q := by
  unfold qb_61 at h
  unfold qx_61
  split at h
  · exact q_bif h (fun e h => ⟨q_bq e, hRP _ _ _ _ _ _ h⟩)
  · exact h.elim
theorem qm_62 (hRP : qLe R P) (hm : qMono P) (h : qb_62 R y i o L stk M Q) : qx_62 P y i o L stk M Q := by
  unfold qb_62 at h
  unfold qx_62
  split at h
  · exact q_bif h (fun e h => ⟨q_bq e, hRP _ _ _ _ _ _ h⟩)
  · exact h.elim
theorem qm_65 (hRP : qLe R P) (hm : qMono P) (h : qb_65 R y i o L stk M Q) : qx_65 P y i o L stk M Q := by
  unfold qb_65 at h
  unfold qx_65
  split at h
  · exact q_bif h (fun e h => ⟨q_bq e, h.1, hRP _ _ _ _ _ _ h.2⟩)
  · exact h.elim
theorem qbm_1 (hRP : qLe R P) (hm : qMono P) (h : qBt1 R y i o L stk M Q) : qSt1 P y i o L stk M Q := by
  unfold qBt1 at h
  unfold qSt1
  split at h
  · rename_i e
    rw [e]
    exact qm_0 hRP hm h
  · rename_i e
    rw [e]
    exact qm_1 hRP hm h
  · rename_i e
    rw [e]
    exact qm_2 hRP hm h
  · rename_i e
    rw [e]
    exact qm_3 hRP hm h
  · rename_i e
    rw [e]
    exact qm_4 hRP hm h
  · rename_i e
    rw [e]
    exact qm_5 hRP hm h
  · rename_i e
    rw [e]
    exact qm_6 hRP hm h
  · split
    all_goals first | exact qm_7 hRP hm h | (exfalso; simp_all)
theorem qbm_2 (hRP : qLe R P) (hm : qMono P) (h : qBt2 R y i o L stk M Q) : qSt2 P y i o L stk M Q := by
  unfold qBt2 at h
  unfold qSt2
  split at h
  · rename_i e
    rw [e]
    exact qm_8 hRP hm h
  · rename_i e
    rw [e]
    exact qm_9 hRP hm h
  · rename_i e
    rw [e]
    exact qm_10 hRP hm h
  · rename_i e
    rw [e]
    exact qm_11 hRP hm h
  · rename_i e
    rw [e]
    exact qm_12 hRP hm h
  · rename_i e
    rw [e]
    exact qm_13 hRP hm h
  · rename_i e
    rw [e]
    exact qm_14 hRP hm h
  · rename_i e
    rw [e]
    exact qm_15 hRP hm h
  · rename_i e
    rw [e]
    exact qm_16 hRP hm h
  · rename_i e
    rw [e]
    exact qm_17 hRP hm h
  · rename_i e
    rw [e]
    exact qm_18 hRP hm h
  · rename_i e
    rw [e]
    exact qm_19 hRP hm h
  · rename_i e
    rw [e]
    exact qm_20 hRP hm h
  · rename_i e
    rw [e]
    exact qm_21 hRP hm h
  · rename_i e
    rw [e]
    exact qm_22 hRP hm h
  · rename_i e
    rw [e]
    exact qm_23 hRP hm h
  · rename_i e
    rw [e]
    exact qm_24 hRP hm h
  · rename_i e
    rw [e]
    exact qm_25 hRP hm h
  · rename_i e
    rw [e]
    exact qm_26 hRP hm h
  · split
    all_goals first | exact qm_27 hRP hm h | (exfalso; simp_all)
theorem qbm_3 (hRP : qLe R P) (hm : qMono P) (h : qBt3 R y i o L stk M Q) : qSt3 P y i o L stk M Q := by
  unfold qBt3 at h
  unfold qSt3
  split at h
  · rename_i e
    rw [e]
    exact qm_28 hRP hm h
  · rename_i e
    rw [e]
    exact qm_29 hRP hm h
  · rename_i e
    rw [e]
    exact qm_30 hRP hm h
  · rename_i e
    rw [e]
    exact qm_31 hRP hm h
  · rename_i e
    rw [e]
    exact qm_32 hRP hm h
  · split
    all_goals first | exact qm_33 hRP hm h | (exfalso; simp_all)
theorem qbm_4 (hRP : qLe R P) (hm : qMono P) (h : qBt4 R y i o L stk M Q) : qSt4 P y i o L stk M Q := by
  unfold qBt4 at h
  unfold qSt4
  split at h
  · rename_i e
    rw [e]
    exact qm_34 hRP hm h
  · rename_i e
    rw [e]
    exact qm_35 hRP hm h
  · rename_i e
    rw [e]
    exact qm_36 hRP hm h
  · rename_i e
    rw [e]
    exact qm_37 hRP hm h
  · rename_i e
    rw [e]
    exact qm_38 hRP hm h
  · split
    all_goals first | exact qm_39 hRP hm h | (exfalso; simp_all)
theorem qbm_5 (hRP : qLe R P) (hm : qMono P) (h : qBt5 R y i o L stk M Q) : qSt5 P y i o L stk M Q := by
  unfold qBt5 at h
  unfold qSt5
  split at h
  · rename_i e
    rw [e]
    exact qm_40 hRP hm h
  · rename_i e
    rw [e]
    exact qm_41 hRP hm h
  · rename_i e
    rw [e]
    exact qm_42 hRP hm h
  · rename_i e
    rw [e]
    exact qm_43 hRP hm h
  · rename_i e
    rw [e]
    exact qm_44 hRP hm h
  · rename_i e
    rw [e]
    exact qm_45 hRP hm h
  · rename_i e
    rw [e]
    exact qm_46 hRP hm h
  · split
    all_goals first | exact qm_47 hRP hm h | (exfalso; simp_all)
theorem qbm_6 (hRP : qLe R P) (hm : qMono P) (h : qBt6 Ls xs R y i o L stk M Q) : qSt6 Ls xs P y i o L stk M Q := by
  unfold qBt6 at h
  unfold qSt6
  split at h
  · rename_i e
    rw [e]
    exact qm_48 hRP hm h
  · rename_i e
    rw [e]
    exact qm_49 hRP hm h
  · rename_i e
    rw [e]
    exact qm_50 hRP hm h
  · rename_i e
    rw [e]
    exact qm_51 hRP hm h
  · rename_i e
    rw [e]
    exact qm_52 hRP hm h
  · rename_i e
    rw [e]
    exact qm_53 hRP hm h
  · rename_i e
    rw [e]
    exact qm_54 hRP hm h
  · rename_i e
    rw [e]
    exact qm_55 hRP hm h
  · rename_i e
    rw [e]
    exact qm_56 hRP hm h
  · rename_i e
    rw [e]
    exact qm_57 hRP hm h
  · rename_i e
    rw [e]
    exact qm_58 hRP hm h
  · split
    all_goals first | exact qm_59 hRP hm h | (exfalso; simp_all)
theorem qbm_7 (hRP : qLe R P) (hm : qMono P) (h : qBt7 R y i o L stk M Q) : qSt7 P y i o L stk M Q := by
  unfold qBt7 at h
  unfold qSt7
  split at h
  · rename_i e
    rw [e]
    exact qm_60 hRP hm h
  · rename_i e
    rw [e]
    exact qm_61 hRP hm h
  · rename_i e
    rw [e]
    exact qm_62 hRP hm h
  · rename_i e
    rw [e]
    exact qm_65 hRP hm h
  · exact h.elim
theorem qStep_le (hRP : qLe R P) (hm : qMono P) (h : qStepB Ls xs R y i o L stk M Q) : qStep Ls xs P y i o L stk M Q := by
  unfold qStepB at h
  unfold qStep
  cases h1 : Nat.ble o.1 7 with
  | true => rw [h1] at h; exact qbm_1 hRP hm h
  | false =>
    rw [h1] at h
    cases h2 : Nat.ble o.1 27 with
    | true => rw [h2] at h; exact qbm_2 hRP hm h
    | false =>
      rw [h2] at h
      cases h3 : Nat.ble o.1 33 with
      | true => rw [h3] at h; exact qbm_3 hRP hm h
      | false =>
        rw [h3] at h
        cases h4 : Nat.ble o.1 39 with
        | true => rw [h4] at h; exact qbm_4 hRP hm h
        | false =>
          rw [h4] at h
          cases h5 : Nat.ble o.1 47 with
          | true => rw [h5] at h; exact qbm_5 hRP hm h
          | false =>
            rw [h5] at h
            cases h6 : Nat.ble o.1 59 with
            | true => rw [h6] at h; exact qbm_6 hRP hm h
            | false => rw [h6] at h; exact qbm_7 hRP hm h
def qHas (k : Nat) : qLc → Bool
  | [] => false
  | q :: r => bif q.1 == k then true else qHas k r
theorem qHas_mem {k : Nat} : ∀ {L : qLc}, qHas k L = true → (k, lcG k L) ∈ L := by
  intro L
  induction L with
  | nil => intro h; cases h
  | cons q r ih =>
    intro h
    unfold qHas at h
    unfold lcG
    cases hq : (q.1 == k) with
    | true =>
      have e : q.1 = k := by simpa using hq
      show (k, q.2) ∈ q :: r
      rw [← e]
      exact List.mem_cons_self
    | false =>
      rw [hq] at h
      exact List.mem_cons_of_mem _ (ih h)
def qCan (ks : List Nat) (L : qLc) : qLc := ks.map (fun k => (k, lcG k L))
def qCut (i : Nat) : List (Nat × List Nat) → Option (List Nat)
  | [] => none
  | q :: r => bif q.1 == i then some q.2 else qCut i r
/-- many steps of one method: it stops at a cut (with the cut's locals alone), at a call, at the end -/
def qRun (Ls : Nat) (xs : Nat → Int32) (P : qSem) (y : Nat) (ops : List qOp) (cuts : List (Nat × List Nat)) : Nat → Nat → qLc → List Value → qMem → qPost → Prop
  | 0, i, L, stk, M, Q => P y i L stk M Q
  | n + 1, i, L, stk, M, Q => qStepB Ls xs (fun y' i' L' stk' M' Q' => bif Nat.beq y' y then
      (match qCut i' cuts with
       | some ks => bif ks.all (fun k => qHas k L') then P y i' (qCan ks L') stk' M' Q' else False
       | none => qRun Ls xs P y ops cuts n i' L' stk' M' Q')
      else P y' i' L' stk' M' Q') y i (ops.getD i qHalt) L stk M Q
theorem qRun_ok (hG : qGood Ls xs P) {ops : List qOp} {cuts : List (Nat × List Nat)} (hops : qOps.getD y [] = ops) : ∀ (n i : Nat) (L : qLc) (stk : List Value) (M : qMem) (Q : qPost), qRun Ls xs P y ops cuts n i L stk M Q → P y i L stk M Q := by
  intro n
  induction n with
  | zero => intro i L stk M Q h; exact h
  | succ n ih =>
    intro i L stk M Q h
    refine hG.1 y i L stk M Q ?_
    have e : qOp' y i = ops.getD i qHalt := by
      unfold qOp'
      rw [hops]
    rw [e]
    refine qStep_le ?_ hG.2.2 h
    intro y' i' L' stk' M' Q' h'
    replace h' : bif Nat.beq y' y then
      (match qCut i' cuts with
       | some ks => bif ks.all (fun k => qHas k L') then P y i' (qCan ks L') stk' M' Q' else False
       | none => qRun Ls xs P y ops cuts n i' L' stk' M' Q')
      else P y' i' L' stk' M' Q' := h'
    cases hy : Nat.beq y' y with
    | true =>
      rw [hy] at h'
      have ey := q_bq hy
      subst ey
      replace h' : (match qCut i' cuts with
       | some ks => bif ks.all (fun k => qHas k L') then P y' i' (qCan ks L') stk' M' Q' else False
       | none => qRun Ls xs P y' ops cuts n i' L' stk' M' Q') := h'
      cases hc : qCut i' cuts with
      | none => rw [hc] at h'; exact ih _ _ _ _ _ h'
      | some ks =>
        rw [hc] at h'
        refine q_bif h' (fun ha h' => hG.2.1 _ _ _ _ _ _ _ (fun q hq => ?_) h')
        obtain ⟨k, hk, rfl⟩ := List.mem_map.mp hq
        exact qHas_mem (List.all_eq_true.mp ha k hk)
    | false => rw [hy] at h'; exact h'
end QM
end
section
/-! objects of a kind -/
def qRd (k : Nat) : Prop := shT k = 4 ∧ shT (rf k 0) = 100 ∧ shL (rf k 0) = 64
def qFq (k : Nat) : Prop := shT k = 0
def qIm (k : Nat) : Prop := shT k = 2 ∧ qRd (rf k 0)
/-! what is to be shown, segment by segment: rd (printed by wip/genvc.py) -/
section VC
variable {Ls : Nat} {xs : Nat → Int32} {P : qSem}
def qc_rd_size : List (Nat × List Nat) := []
theorem v_rd_size_0 (hG : qGood Ls xs P) {k : Nat} {M : qMem} {Q : qPost} (hk : qRd k)
    (hV : Q (some (.int (M.1 k 1))) M) :
    P 17 0 [(0, .ref k)] [] M Q := by
  refine qRun_ok hG (ops := qo_17) (cuts := qc_rd_size) rfl 5 0 _ _ _ _ ?_
  have hF : bif Nat.beq (shT k) 4 then Q (some (.int (M.1 k 1))) M else False := by
    (try rw [hk.1])
    (try rw [hk.2.1])
    (try rw [hk.2.2])
    exact hV
  exact hF
def qc_rd_reaches : List (Nat × List Nat) := []
theorem v_rd_reaches_0 (hG : qGood Ls xs P) {k : Nat} {l1 : Int32} {M : qMem} {Q : qPost} (hk : qRd k)
    (hV : ((l1 < 0 → (narrow .boolean (.int (0 : Int32)) = .int (0 : Int32) ∧ Q (some (.int (0 : Int32))) M)) ∧ (¬ (l1 < 0) → (((M.1 k 1) ≤ l1 → (narrow .boolean (.int (0 : Int32)) = .int (0 : Int32) ∧ Q (some (.int (0 : Int32))) M)) ∧ (¬ ((M.1 k 1) ≤ l1) → (narrow .boolean (.int (1 : Int32)) = .int (1 : Int32) ∧ Q (some (.int (1 : Int32))) M)))))) :
    P 18 0 [(0, .ref k), (1, .int l1)] [] M Q := by
  refine qRun_ok hG (ops := qo_18) (cuts := qc_rd_reaches) rfl 12 0 _ _ _ _ ?_
  have hF : ((l1 < 0 → (narrow .boolean (.int (0 : Int32)) = .int (0 : Int32) ∧ Q (some (.int (0 : Int32))) M)) ∧ (¬ (l1 < 0) → bif Nat.beq (shT k) 4 then (((M.1 k 1) ≤ l1 → (narrow .boolean (.int (0 : Int32)) = .int (0 : Int32) ∧ Q (some (.int (0 : Int32))) M)) ∧ (¬ ((M.1 k 1) ≤ l1) → (narrow .boolean (.int (1 : Int32)) = .int (1 : Int32) ∧ Q (some (.int (1 : Int32))) M))) else False)) := by
    (try rw [hk.1])
    (try rw [hk.2.1])
    (try rw [hk.2.2])
    exact hV
  exact hF
def qc_rd_has : List (Nat × List Nat) := [(3, [])]
theorem v_rd_has_0 (hG : qGood Ls xs P) {k : Nat} {l1 : Int32} {M : qMem} {Q : qPost} (hk : qRd k)
    (hV : (P 20 0 [(0, .ref k), (1, .int l1)] [] M (fun v M' => P 19 3 [] (v.toList ++ []) M' Q))) :
    P 19 0 [(0, .ref k), (1, .int l1)] [] M Q := by
  refine qRun_ok hG (ops := qo_19) (cuts := qc_rd_has) rfl 11 0 _ _ _ _ ?_
  have hF : bif Nat.beq (shT k) 4 then (P 20 0 [(0, .ref k), (1, .int l1)] [] M (fun v M' => P 19 3 [] (v.toList ++ []) M' Q)) else False := by
    (try rw [hk.1])
    (try rw [hk.2.1])
    (try rw [hk.2.2])
    exact hV
  exact hF
theorem v_rd_has_3 (hG : qGood Ls xs P) {s0 : Int32} {M : qMem} {Q : qPost}
    (hV : ((s0 = (-1000000001 : Int32) → (narrow .boolean (.int (0 : Int32)) = .int (0 : Int32) ∧ Q (some (.int (0 : Int32))) M)) ∧ (¬ (s0 = (-1000000001 : Int32)) → (narrow .boolean (.int (1 : Int32)) = .int (1 : Int32) ∧ Q (some (.int (1 : Int32))) M)))) :
    P 19 3 [] [.int s0] M Q := by
  exact qRun_ok hG (ops := qo_19) (cuts := qc_rd_has) rfl 11 3 _ _ _ _ hV
def qc_rd_at : List (Nat × List Nat) := []
theorem v_rd_at_0 (hG : qGood Ls xs P) {k : Nat} {l1 : Int32} {M : qMem} {Q : qPost} (hk : qRd k)
    (hV : ((l1 < 0 → Q (some (.int (-1000000001 : Int32))) M) ∧ (¬ (l1 < 0) → (((M.1 k 1) ≤ l1 → Q (some (.int (-1000000001 : Int32))) M) ∧ (¬ ((M.1 k 1) ≤ l1) → ((l1 < (Int32.ofNat 64) → (vp_in l1 64 ∧ Q (some (.int (M.1 (rf k 0) l1.toNatClampNeg))) M)) ∧ (¬ (l1 < (Int32.ofNat 64)) → Q (some (.int (-1000000001 : Int32))) M))))))) :
    P 20 0 [(0, .ref k), (1, .int l1)] [] M Q := by
  refine qRun_ok hG (ops := qo_20) (cuts := qc_rd_at) rfl 20 0 _ _ _ _ ?_
  have hF : ((l1 < 0 → Q (some (.int (-1000000001 : Int32))) M) ∧ (¬ (l1 < 0) → bif Nat.beq (shT k) 4 then (((M.1 k 1) ≤ l1 → Q (some (.int (-1000000001 : Int32))) M) ∧ (¬ ((M.1 k 1) ≤ l1) → bif Nat.beq (shT k) 4 then bif (Nat.ble 100 (shT (rf k 0)) && Nat.ble (shT (rf k 0)) 104) then ((l1 < (Int32.ofNat (shL (rf k 0))) → bif Nat.beq (shT k) 4 then bif Nat.beq (shT (rf k 0)) 100 then (vp_in l1 (shL (rf k 0)) ∧ Q (some (.int (M.1 (rf k 0) l1.toNatClampNeg))) M) else False else False) ∧ (¬ (l1 < (Int32.ofNat (shL (rf k 0)))) → Q (some (.int (-1000000001 : Int32))) M)) else False else False)) else False)) := by
    (try rw [hk.1])
    (try rw [hk.2.1])
    (try rw [hk.2.2])
    exact hV
  exact hF
def qc_rd_put : List (Nat × List Nat) := []
theorem v_rd_put_0 (hG : qGood Ls xs P) {k : Nat} {l1 l2 : Int32} {M : qMem} {Q : qPost} (hk : qRd k)
    (hV : ((l1 < 0 → Q none M) ∧ (¬ (l1 < 0) → (((M.1 k 1) ≤ l1 → Q none M) ∧ (¬ ((M.1 k 1) ≤ l1) → (((Int32.ofNat 64) ≤ l1 → Q none M) ∧ (¬ ((Int32.ofNat 64) ≤ l1) → (vp_in l1 64 ∧ Q none (pI M (rf k 0) l1.toNatClampNeg l2))))))))) :
    P 21 0 [(0, .ref k), (1, .int l1), (2, .int l2)] [] M Q := by
  refine qRun_ok hG (ops := qo_21) (cuts := qc_rd_put) rfl 19 0 _ _ _ _ ?_
  have hF : ((l1 < 0 → Q none M) ∧ (¬ (l1 < 0) → bif Nat.beq (shT k) 4 then (((M.1 k 1) ≤ l1 → Q none M) ∧ (¬ ((M.1 k 1) ≤ l1) → bif Nat.beq (shT k) 4 then bif (Nat.ble 100 (shT (rf k 0)) && Nat.ble (shT (rf k 0)) 104) then (((Int32.ofNat (shL (rf k 0))) ≤ l1 → Q none M) ∧ (¬ ((Int32.ofNat (shL (rf k 0))) ≤ l1) → bif Nat.beq (shT k) 4 then bif Nat.beq (shT (rf k 0)) 100 then (vp_in l1 (shL (rf k 0)) ∧ Q none (pI M (rf k 0) l1.toNatClampNeg l2)) else False else False)) else False else False)) else False)) := by
    (try rw [hk.1])
    (try rw [hk.2.1])
    (try rw [hk.2.2])
    exact hV
  exact hF
def qc_rd_append : List (Nat × List Nat) := []
theorem v_rd_append_0 (hG : qGood Ls xs P) {k : Nat} {l1 : Int32} {M : qMem} {Q : qPost} (hk : qRd k)
    (hV : (((M.1 k 1) < 0 → Q none M) ∧ (¬ ((M.1 k 1) < 0) → (((Int32.ofNat 64) ≤ (M.1 k 1) → Q none M) ∧ (¬ ((Int32.ofNat 64) ≤ (M.1 k 1)) → (vp_in (M.1 k 1) 64 ∧ Q none (pI (pI M (rf k 0) (M.1 k 1).toNatClampNeg l1) k 1 (((pI M (rf k 0) (M.1 k 1).toNatClampNeg l1).1 k 1) + (1 : Int32))))))))) :
    P 22 0 [(0, .ref k), (1, .int l1)] [] M Q := by
  refine qRun_ok hG (ops := qo_22) (cuts := qc_rd_append) rfl 24 0 _ _ _ _ ?_
  have hF : bif Nat.beq (shT k) 4 then (((M.1 k 1) < 0 → Q none M) ∧ (¬ ((M.1 k 1) < 0) → bif Nat.beq (shT k) 4 then bif Nat.beq (shT k) 4 then bif (Nat.ble 100 (shT (rf k 0)) && Nat.ble (shT (rf k 0)) 104) then (((Int32.ofNat (shL (rf k 0))) ≤ (M.1 k 1) → Q none M) ∧ (¬ ((Int32.ofNat (shL (rf k 0))) ≤ (M.1 k 1)) → bif Nat.beq (shT k) 4 then bif Nat.beq (shT k) 4 then bif Nat.beq (shT (rf k 0)) 100 then (vp_in (M.1 k 1) (shL (rf k 0)) ∧ bif Nat.beq (shT k) 4 then bif Nat.beq (shT k) 4 then Q none (pI (pI M (rf k 0) (M.1 k 1).toNatClampNeg l1) k 1 (((pI M (rf k 0) (M.1 k 1).toNatClampNeg l1).1 k 1) + (1 : Int32))) else False else False) else False else False else False)) else False else False else False)) else False := by
    (try rw [hk.1])
    (try rw [hk.2.1])
    (try rw [hk.2.2])
    exact hV
  exact hF
def qc_rd_appendTimes : List (Nat × List Nat) := [(2, [0, 1, 2, 3]), (8, [0, 1, 2, 3])]
theorem v_rd_appendTimes_0 (hG : qGood Ls xs P) {k : Nat} {l1 l2 : Int32} {M : qMem} {Q : qPost} (hk : qRd k)
    (hV : (P 23 2 [(0, .ref k), (1, .int l1), (2, .int l2), (3, .int (0 : Int32))] [] M Q)) :
    P 23 0 [(0, .ref k), (1, .int l1), (2, .int l2)] [] M Q := by
  exact qRun_ok hG (ops := qo_23) (cuts := qc_rd_appendTimes) rfl 13 0 _ _ _ _ hV
theorem v_rd_appendTimes_2 (hG : qGood Ls xs P) {k : Nat} {l1 l2 l3 : Int32} {M : qMem} {Q : qPost} (hk : qRd k)
    (hV : ((l2 ≤ l3 → Q none M) ∧ (¬ (l2 ≤ l3) → (P 22 0 [(0, .ref k), (1, .int l1)] [] M (fun v M' => P 23 8 [(0, .ref k), (1, .int l1), (2, .int l2), (3, .int l3)] (v.toList ++ []) M' Q))))) :
    P 23 2 [(0, .ref k), (1, .int l1), (2, .int l2), (3, .int l3)] [] M Q := by
  refine qRun_ok hG (ops := qo_23) (cuts := qc_rd_appendTimes) rfl 13 2 _ _ _ _ ?_
  have hF : ((l2 ≤ l3 → Q none M) ∧ (¬ (l2 ≤ l3) → bif Nat.beq (shT k) 4 then (P 22 0 [(0, .ref k), (1, .int l1)] [] M (fun v M' => P 23 8 [(0, .ref k), (1, .int l1), (2, .int l2), (3, .int l3)] (v.toList ++ []) M' Q)) else False)) := by
    (try rw [hk.1])
    (try rw [hk.2.1])
    (try rw [hk.2.2])
    exact hV
  exact hF
theorem v_rd_appendTimes_8 (hG : qGood Ls xs P) {k : Nat} {l1 l2 l3 : Int32} {M : qMem} {Q : qPost} (hk : qRd k)
    (hV : (P 23 2 [(0, .ref k), (1, .int l1), (2, .int l2), (3, .int (l3 + (1 : Int32)))] [] M Q)) :
    P 23 8 [(0, .ref k), (1, .int l1), (2, .int l2), (3, .int l3)] [] M Q := by
  exact qRun_ok hG (ops := qo_23) (cuts := qc_rd_appendTimes) rfl 13 8 _ _ _ _ hV
def qc_rd_empty : List (Nat × List Nat) := []
theorem v_rd_empty_0 (hG : qGood Ls xs P) {k : Nat} {M : qMem} {Q : qPost} (hk : qRd k)
    (hV : Q none (pI M k 1 (0 : Int32))) :
    P 24 0 [(0, .ref k)] [] M Q := by
  refine qRun_ok hG (ops := qo_24) (cuts := qc_rd_empty) rfl 6 0 _ _ _ _ ?_
  have hF : bif Nat.beq (shT k) 4 then Q none (pI M k 1 (0 : Int32)) else False := by
    (try rw [hk.1])
    (try rw [hk.2.1])
    (try rw [hk.2.2])
    exact hV
  exact hF
def qc_rd_copyFrom : List (Nat × List Nat) := [(2, [0, 1]), (4, [0, 1, 2]), (7, [0, 1, 2]), (12, [0, 1, 2]), (13, [0, 1, 2])]
theorem v_rd_copyFrom_0 (hG : qGood Ls xs P) {k k1 : Nat} {M : qMem} {Q : qPost} (hk : qRd k) (hk1 : qRd k1)
    (hV : (P 24 0 [(0, .ref k)] [] M (fun v M' => P 25 2 [(0, .ref k), (1, .ref k1)] (v.toList ++ []) M' Q))) :
    P 25 0 [(0, .ref k), (1, .ref k1)] [] M Q := by
  refine qRun_ok hG (ops := qo_25) (cuts := qc_rd_copyFrom) rfl 18 0 _ _ _ _ ?_
  have hF : bif Nat.beq (shT k) 4 then (P 24 0 [(0, .ref k)] [] M (fun v M' => P 25 2 [(0, .ref k), (1, .ref k1)] (v.toList ++ []) M' Q)) else False := by
    (try rw [hk.1])
    (try rw [hk.2.1])
    (try rw [hk.2.2])
    (try rw [hk1.1])
    (try rw [hk1.2.1])
    (try rw [hk1.2.2])
    exact hV
  exact hF
theorem v_rd_copyFrom_2 (hG : qGood Ls xs P) {k k1 : Nat} {M : qMem} {Q : qPost} (hk : qRd k) (hk1 : qRd k1)
    (hV : (P 25 4 [(0, .ref k), (1, .ref k1), (2, .int (0 : Int32))] [] M Q)) :
    P 25 2 [(0, .ref k), (1, .ref k1)] [] M Q := by
  exact qRun_ok hG (ops := qo_25) (cuts := qc_rd_copyFrom) rfl 18 2 _ _ _ _ hV
theorem v_rd_copyFrom_4 (hG : qGood Ls xs P) {k k1 : Nat} {l2 : Int32} {M : qMem} {Q : qPost} (hk : qRd k) (hk1 : qRd k1)
    (hV : (P 17 0 [(0, .ref k1)] [] M (fun v M' => P 25 7 [(0, .ref k), (1, .ref k1), (2, .int l2)] (v.toList ++ [.int l2]) M' Q))) :
    P 25 4 [(0, .ref k), (1, .ref k1), (2, .int l2)] [] M Q := by
  refine qRun_ok hG (ops := qo_25) (cuts := qc_rd_copyFrom) rfl 18 4 _ _ _ _ ?_
  have hF : bif Nat.beq (shT k1) 4 then (P 17 0 [(0, .ref k1)] [] M (fun v M' => P 25 7 [(0, .ref k), (1, .ref k1), (2, .int l2)] (v.toList ++ [.int l2]) M' Q)) else False := by
    (try rw [hk.1])
    (try rw [hk.2.1])
    (try rw [hk.2.2])
    (try rw [hk1.1])
    (try rw [hk1.2.1])
    (try rw [hk1.2.2])
    exact hV
  exact hF
theorem v_rd_copyFrom_7 (hG : qGood Ls xs P) {k k1 : Nat} {l2 s0 s1 : Int32} {M : qMem} {Q : qPost} (hk : qRd k) (hk1 : qRd k1)
    (hV : ((s0 ≤ s1 → Q none M) ∧ (¬ (s0 ≤ s1) → (P 20 0 [(0, .ref k1), (1, .int l2)] [] M (fun v M' => P 25 12 [(0, .ref k), (1, .ref k1), (2, .int l2)] (v.toList ++ [.ref k]) M' Q))))) :
    P 25 7 [(0, .ref k), (1, .ref k1), (2, .int l2)] [.int s0, .int s1] M Q := by
  refine qRun_ok hG (ops := qo_25) (cuts := qc_rd_copyFrom) rfl 18 7 _ _ _ _ ?_
  have hF : ((s0 ≤ s1 → Q none M) ∧ (¬ (s0 ≤ s1) → bif Nat.beq (shT k1) 4 then (P 20 0 [(0, .ref k1), (1, .int l2)] [] M (fun v M' => P 25 12 [(0, .ref k), (1, .ref k1), (2, .int l2)] (v.toList ++ [.ref k]) M' Q)) else False)) := by
    (try rw [hk.1])
    (try rw [hk.2.1])
    (try rw [hk.2.2])
    (try rw [hk1.1])
    (try rw [hk1.2.1])
    (try rw [hk1.2.2])
    exact hV
  exact hF
theorem v_rd_copyFrom_12 (hG : qGood Ls xs P) {k k1 : Nat} {l2 s0 : Int32} {M : qMem} {Q : qPost} (hk : qRd k) (hk1 : qRd k1)
    (hV : (P 22 0 [(0, .ref k), (1, .int s0)] [] M (fun v M' => P 25 13 [(0, .ref k), (1, .ref k1), (2, .int l2)] (v.toList ++ []) M' Q))) :
    P 25 12 [(0, .ref k), (1, .ref k1), (2, .int l2)] [.int s0, .ref k] M Q := by
  refine qRun_ok hG (ops := qo_25) (cuts := qc_rd_copyFrom) rfl 18 12 _ _ _ _ ?_
  have hF : bif Nat.beq (shT k) 4 then (P 22 0 [(0, .ref k), (1, .int s0)] [] M (fun v M' => P 25 13 [(0, .ref k), (1, .ref k1), (2, .int l2)] (v.toList ++ []) M' Q)) else False := by
    (try rw [hk.1])
    (try rw [hk.2.1])
    (try rw [hk.2.2])
    (try rw [hk1.1])
    (try rw [hk1.2.1])
    (try rw [hk1.2.2])
    exact hV
  exact hF
theorem v_rd_copyFrom_13 (hG : qGood Ls xs P) {k k1 : Nat} {l2 : Int32} {M : qMem} {Q : qPost} (hk : qRd k) (hk1 : qRd k1)
    (hV : (P 25 4 [(0, .ref k), (1, .ref k1), (2, .int (l2 + (1 : Int32)))] [] M Q)) :
    P 25 13 [(0, .ref k), (1, .ref k1), (2, .int l2)] [] M Q := by
  exact qRun_ok hG (ops := qo_25) (cuts := qc_rd_copyFrom) rfl 18 13 _ _ _ _ hV
def qc_rd_present : List (Nat × List Nat) := [(4, [0, 1, 2]), (11, [0, 1, 2])]
theorem v_rd_present_0 (hG : qGood Ls xs P) {k : Nat} {M : qMem} {Q : qPost} (hk : qRd k)
    (hV : (P 26 4 [(0, .ref k), (1, .int (0 : Int32)), (2, .int (0 : Int32))] [] M Q)) :
    P 26 0 [(0, .ref k)] [] M Q := by
  exact qRun_ok hG (ops := qo_26) (cuts := qc_rd_present) rfl 19 0 _ _ _ _ hV
theorem v_rd_present_4 (hG : qGood Ls xs P) {k : Nat} {l1 l2 : Int32} {M : qMem} {Q : qPost} (hk : qRd k)
    (hV : (((M.1 k 1) ≤ l2 → Q (some (.int l1)) M) ∧ (¬ ((M.1 k 1) ≤ l2) → (P 19 0 [(0, .ref k), (1, .int l2)] [] M (fun v M' => P 26 11 [(0, .ref k), (1, .int l1), (2, .int l2)] (v.toList ++ []) M' Q))))) :
    P 26 4 [(0, .ref k), (1, .int l1), (2, .int l2)] [] M Q := by
  refine qRun_ok hG (ops := qo_26) (cuts := qc_rd_present) rfl 19 4 _ _ _ _ ?_
  have hF : bif Nat.beq (shT k) 4 then (((M.1 k 1) ≤ l2 → Q (some (.int l1)) M) ∧ (¬ ((M.1 k 1) ≤ l2) → bif Nat.beq (shT k) 4 then (P 19 0 [(0, .ref k), (1, .int l2)] [] M (fun v M' => P 26 11 [(0, .ref k), (1, .int l1), (2, .int l2)] (v.toList ++ []) M' Q)) else False)) else False := by
    (try rw [hk.1])
    (try rw [hk.2.1])
    (try rw [hk.2.2])
    exact hV
  exact hF
theorem v_rd_present_11 (hG : qGood Ls xs P) {k : Nat} {l1 l2 s0 : Int32} {M : qMem} {Q : qPost} (hk : qRd k)
    (hV : ((s0 = 0 → (P 26 4 [(0, .ref k), (1, .int l1), (2, .int (l2 + (1 : Int32)))] [] M Q)) ∧ (¬ (s0 = 0) → (P 26 4 [(0, .ref k), (1, .int (l1 + (1 : Int32))), (2, .int (l2 + (1 : Int32)))] [] M Q)))) :
    P 26 11 [(0, .ref k), (1, .int l1), (2, .int l2)] [.int s0] M Q := by
  exact qRun_ok hG (ops := qo_26) (cuts := qc_rd_present) rfl 19 11 _ _ _ _ hV
def qc_rd_least : List (Nat × List Nat) := [(4, [0, 1, 2]), (11, [0, 1, 2]), (18, [0, 1, 2]), (23, [0, 2])]
theorem v_rd_least_0 (hG : qGood Ls xs P) {k : Nat} {M : qMem} {Q : qPost} (hk : qRd k)
    (hV : (P 27 4 [(0, .ref k), (1, .int (-1000000001 : Int32)), (2, .int (0 : Int32))] [] M Q)) :
    P 27 0 [(0, .ref k)] [] M Q := by
  exact qRun_ok hG (ops := qo_27) (cuts := qc_rd_least) rfl 30 0 _ _ _ _ hV
theorem v_rd_least_4 (hG : qGood Ls xs P) {k : Nat} {l1 l2 : Int32} {M : qMem} {Q : qPost} (hk : qRd k)
    (hV : (((M.1 k 1) ≤ l2 → Q (some (.int l1)) M) ∧ (¬ ((M.1 k 1) ≤ l2) → (P 19 0 [(0, .ref k), (1, .int l2)] [] M (fun v M' => P 27 11 [(0, .ref k), (1, .int l1), (2, .int l2)] (v.toList ++ []) M' Q))))) :
    P 27 4 [(0, .ref k), (1, .int l1), (2, .int l2)] [] M Q := by
  refine qRun_ok hG (ops := qo_27) (cuts := qc_rd_least) rfl 30 4 _ _ _ _ ?_
  have hF : bif Nat.beq (shT k) 4 then (((M.1 k 1) ≤ l2 → Q (some (.int l1)) M) ∧ (¬ ((M.1 k 1) ≤ l2) → bif Nat.beq (shT k) 4 then (P 19 0 [(0, .ref k), (1, .int l2)] [] M (fun v M' => P 27 11 [(0, .ref k), (1, .int l1), (2, .int l2)] (v.toList ++ []) M' Q)) else False)) else False := by
    (try rw [hk.1])
    (try rw [hk.2.1])
    (try rw [hk.2.2])
    exact hV
  exact hF
theorem v_rd_least_11 (hG : qGood Ls xs P) {k : Nat} {l1 l2 s0 : Int32} {M : qMem} {Q : qPost} (hk : qRd k)
    (hV : ((s0 = 0 → (P 27 4 [(0, .ref k), (1, .int l1), (2, .int (l2 + (1 : Int32)))] [] M Q)) ∧ (¬ (s0 = 0) → ((l1 = (-1000000001 : Int32) → (P 20 0 [(0, .ref k), (1, .int l2)] [] M (fun v M' => P 27 23 [(0, .ref k), (2, .int l2)] (v.toList ++ []) M' Q))) ∧ (¬ (l1 = (-1000000001 : Int32)) → (P 20 0 [(0, .ref k), (1, .int l2)] [] M (fun v M' => P 27 18 [(0, .ref k), (1, .int l1), (2, .int l2)] (v.toList ++ []) M' Q))))))) :
    P 27 11 [(0, .ref k), (1, .int l1), (2, .int l2)] [.int s0] M Q := by
  refine qRun_ok hG (ops := qo_27) (cuts := qc_rd_least) rfl 30 11 _ _ _ _ ?_
  have hF : ((s0 = 0 → (P 27 4 [(0, .ref k), (1, .int l1), (2, .int (l2 + (1 : Int32)))] [] M Q)) ∧ (¬ (s0 = 0) → ((l1 = (-1000000001 : Int32) → bif Nat.beq (shT k) 4 then (P 20 0 [(0, .ref k), (1, .int l2)] [] M (fun v M' => P 27 23 [(0, .ref k), (2, .int l2)] (v.toList ++ []) M' Q)) else False) ∧ (¬ (l1 = (-1000000001 : Int32)) → bif Nat.beq (shT k) 4 then (P 20 0 [(0, .ref k), (1, .int l2)] [] M (fun v M' => P 27 18 [(0, .ref k), (1, .int l1), (2, .int l2)] (v.toList ++ []) M' Q)) else False)))) := by
    (try rw [hk.1])
    (try rw [hk.2.1])
    (try rw [hk.2.2])
    exact hV
  exact hF
theorem v_rd_least_23 (hG : qGood Ls xs P) {k : Nat} {l2 s0 : Int32} {M : qMem} {Q : qPost} (hk : qRd k)
    (hV : (P 27 4 [(0, .ref k), (1, .int s0), (2, .int (l2 + (1 : Int32)))] [] M Q)) :
    P 27 23 [(0, .ref k), (2, .int l2)] [.int s0] M Q := by
  exact qRun_ok hG (ops := qo_27) (cuts := qc_rd_least) rfl 30 23 _ _ _ _ hV
theorem v_rd_least_18 (hG : qGood Ls xs P) {k : Nat} {l1 l2 s0 : Int32} {M : qMem} {Q : qPost} (hk : qRd k)
    (hV : ((l1 ≤ s0 → (P 27 4 [(0, .ref k), (1, .int l1), (2, .int (l2 + (1 : Int32)))] [] M Q)) ∧ (¬ (l1 ≤ s0) → (P 20 0 [(0, .ref k), (1, .int l2)] [] M (fun v M' => P 27 23 [(0, .ref k), (2, .int l2)] (v.toList ++ []) M' Q))))) :
    P 27 18 [(0, .ref k), (1, .int l1), (2, .int l2)] [.int s0] M Q := by
  refine qRun_ok hG (ops := qo_27) (cuts := qc_rd_least) rfl 30 18 _ _ _ _ ?_
  have hF : ((l1 ≤ s0 → (P 27 4 [(0, .ref k), (1, .int l1), (2, .int (l2 + (1 : Int32)))] [] M Q)) ∧ (¬ (l1 ≤ s0) → bif Nat.beq (shT k) 4 then (P 20 0 [(0, .ref k), (1, .int l2)] [] M (fun v M' => P 27 23 [(0, .ref k), (2, .int l2)] (v.toList ++ []) M' Q)) else False)) := by
    (try rw [hk.1])
    (try rw [hk.2.1])
    (try rw [hk.2.2])
    exact hV
  exact hF
def qc_rd_greatest : List (Nat × List Nat) := [(4, [0, 1, 2]), (12, [0, 2]), (13, [0, 2])]
theorem v_rd_greatest_0 (hG : qGood Ls xs P) {k : Nat} {M : qMem} {Q : qPost} (hk : qRd k)
    (hV : (P 28 4 [(0, .ref k), (1, .int (-1000000001 : Int32)), (2, .int (0 : Int32))] [] M Q)) :
    P 28 0 [(0, .ref k)] [] M Q := by
  exact qRun_ok hG (ops := qo_28) (cuts := qc_rd_greatest) rfl 20 0 _ _ _ _ hV
theorem v_rd_greatest_4 (hG : qGood Ls xs P) {k : Nat} {l1 l2 : Int32} {M : qMem} {Q : qPost} (hk : qRd k)
    (hV : (((M.1 k 1) ≤ l2 → Q (some (.int l1)) M) ∧ (¬ ((M.1 k 1) ≤ l2) → (P 20 0 [(0, .ref k), (1, .int l2)] [] M (fun v M' => P 28 12 [(0, .ref k), (2, .int l2)] (v.toList ++ [.int l1]) M' Q))))) :
    P 28 4 [(0, .ref k), (1, .int l1), (2, .int l2)] [] M Q := by
  refine qRun_ok hG (ops := qo_28) (cuts := qc_rd_greatest) rfl 20 4 _ _ _ _ ?_
  have hF : bif Nat.beq (shT k) 4 then (((M.1 k 1) ≤ l2 → Q (some (.int l1)) M) ∧ (¬ ((M.1 k 1) ≤ l2) → bif Nat.beq (shT k) 4 then (P 20 0 [(0, .ref k), (1, .int l2)] [] M (fun v M' => P 28 12 [(0, .ref k), (2, .int l2)] (v.toList ++ [.int l1]) M' Q)) else False)) else False := by
    (try rw [hk.1])
    (try rw [hk.2.1])
    (try rw [hk.2.2])
    exact hV
  exact hF
theorem v_rd_greatest_12 (hG : qGood Ls xs P) {k : Nat} {l2 s0 s1 : Int32} {M : qMem} {Q : qPost} (hk : qRd k)
    (hV : (P 154 0 [(0, .int s1), (1, .int s0)] [] M (fun v M' => P 28 13 [(0, .ref k), (2, .int l2)] (v.toList ++ []) M' Q))) :
    P 28 12 [(0, .ref k), (2, .int l2)] [.int s0, .int s1] M Q := by
  exact qRun_ok hG (ops := qo_28) (cuts := qc_rd_greatest) rfl 20 12 _ _ _ _ hV
theorem v_rd_greatest_13 (hG : qGood Ls xs P) {k : Nat} {l2 s0 : Int32} {M : qMem} {Q : qPost} (hk : qRd k)
    (hV : (P 28 4 [(0, .ref k), (1, .int s0), (2, .int (l2 + (1 : Int32)))] [] M Q)) :
    P 28 13 [(0, .ref k), (2, .int l2)] [.int s0] M Q := by
  exact qRun_ok hG (ops := qo_28) (cuts := qc_rd_greatest) rfl 20 13 _ _ _ _ hV
def qc_rd_gaps : List (Nat × List Nat) := [(4, [0, 1, 2]), (11, [0, 1, 2])]
theorem v_rd_gaps_0 (hG : qGood Ls xs P) {k : Nat} {M : qMem} {Q : qPost} (hk : qRd k)
    (hV : (P 29 4 [(0, .ref k), (1, .int (0 : Int32)), (2, .int (0 : Int32))] [] M Q)) :
    P 29 0 [(0, .ref k)] [] M Q := by
  exact qRun_ok hG (ops := qo_29) (cuts := qc_rd_gaps) rfl 19 0 _ _ _ _ hV
theorem v_rd_gaps_4 (hG : qGood Ls xs P) {k : Nat} {l1 l2 : Int32} {M : qMem} {Q : qPost} (hk : qRd k)
    (hV : (((M.1 k 1) ≤ l2 → Q (some (.int l1)) M) ∧ (¬ ((M.1 k 1) ≤ l2) → (P 31 0 [(0, .ref k), (1, .int l2)] [] M (fun v M' => P 29 11 [(0, .ref k), (1, .int l1), (2, .int l2)] (v.toList ++ []) M' Q))))) :
    P 29 4 [(0, .ref k), (1, .int l1), (2, .int l2)] [] M Q := by
  refine qRun_ok hG (ops := qo_29) (cuts := qc_rd_gaps) rfl 19 4 _ _ _ _ ?_
  have hF : bif Nat.beq (shT k) 4 then (((M.1 k 1) ≤ l2 → Q (some (.int l1)) M) ∧ (¬ ((M.1 k 1) ≤ l2) → bif Nat.beq (shT k) 4 then (P 31 0 [(0, .ref k), (1, .int l2)] [] M (fun v M' => P 29 11 [(0, .ref k), (1, .int l1), (2, .int l2)] (v.toList ++ []) M' Q)) else False)) else False := by
    (try rw [hk.1])
    (try rw [hk.2.1])
    (try rw [hk.2.2])
    exact hV
  exact hF
theorem v_rd_gaps_11 (hG : qGood Ls xs P) {k : Nat} {l1 l2 s0 : Int32} {M : qMem} {Q : qPost} (hk : qRd k)
    (hV : ((s0 = 0 → (P 29 4 [(0, .ref k), (1, .int l1), (2, .int (l2 + (1 : Int32)))] [] M Q)) ∧ (¬ (s0 = 0) → (P 29 4 [(0, .ref k), (1, .int (l1 + (1 : Int32))), (2, .int (l2 + (1 : Int32)))] [] M Q)))) :
    P 29 11 [(0, .ref k), (1, .int l1), (2, .int l2)] [.int s0] M Q := by
  exact qRun_ok hG (ops := qo_29) (cuts := qc_rd_gaps) rfl 19 11 _ _ _ _ hV
def qc_rd_longestGap : List (Nat × List Nat) := [(4, [0, 1, 2]), (11, [0, 1, 2]), (16, [0, 2]), (19, [0, 2])]
theorem v_rd_longestGap_0 (hG : qGood Ls xs P) {k : Nat} {M : qMem} {Q : qPost} (hk : qRd k)
    (hV : (P 30 4 [(0, .ref k), (1, .int (0 : Int32)), (2, .int (0 : Int32))] [] M Q)) :
    P 30 0 [(0, .ref k)] [] M Q := by
  exact qRun_ok hG (ops := qo_30) (cuts := qc_rd_longestGap) rfl 26 0 _ _ _ _ hV
theorem v_rd_longestGap_4 (hG : qGood Ls xs P) {k : Nat} {l1 l2 : Int32} {M : qMem} {Q : qPost} (hk : qRd k)
    (hV : (((M.1 k 1) ≤ l2 → Q (some (.int l1)) M) ∧ (¬ ((M.1 k 1) ≤ l2) → (P 31 0 [(0, .ref k), (1, .int l2)] [] M (fun v M' => P 30 11 [(0, .ref k), (1, .int l1), (2, .int l2)] (v.toList ++ []) M' Q))))) :
    P 30 4 [(0, .ref k), (1, .int l1), (2, .int l2)] [] M Q := by
  refine qRun_ok hG (ops := qo_30) (cuts := qc_rd_longestGap) rfl 26 4 _ _ _ _ ?_
  have hF : bif Nat.beq (shT k) 4 then (((M.1 k 1) ≤ l2 → Q (some (.int l1)) M) ∧ (¬ ((M.1 k 1) ≤ l2) → bif Nat.beq (shT k) 4 then (P 31 0 [(0, .ref k), (1, .int l2)] [] M (fun v M' => P 30 11 [(0, .ref k), (1, .int l1), (2, .int l2)] (v.toList ++ []) M' Q)) else False)) else False := by
    (try rw [hk.1])
    (try rw [hk.2.1])
    (try rw [hk.2.2])
    exact hV
  exact hF
theorem v_rd_longestGap_11 (hG : qGood Ls xs P) {k : Nat} {l1 l2 s0 : Int32} {M : qMem} {Q : qPost} (hk : qRd k)
    (hV : ((s0 = 0 → (P 30 4 [(0, .ref k), (1, .int l1), (2, .int (l2 + (1 : Int32)))] [] M Q)) ∧ (¬ (s0 = 0) → (P 32 0 [(0, .ref k), (1, .int l2)] [] M (fun v M' => P 30 16 [(0, .ref k), (2, .int l2)] (v.toList ++ [.int l1]) M' Q))))) :
    P 30 11 [(0, .ref k), (1, .int l1), (2, .int l2)] [.int s0] M Q := by
  refine qRun_ok hG (ops := qo_30) (cuts := qc_rd_longestGap) rfl 26 11 _ _ _ _ ?_
  have hF : ((s0 = 0 → (P 30 4 [(0, .ref k), (1, .int l1), (2, .int (l2 + (1 : Int32)))] [] M Q)) ∧ (¬ (s0 = 0) → bif Nat.beq (shT k) 4 then (P 32 0 [(0, .ref k), (1, .int l2)] [] M (fun v M' => P 30 16 [(0, .ref k), (2, .int l2)] (v.toList ++ [.int l1]) M' Q)) else False)) := by
    (try rw [hk.1])
    (try rw [hk.2.1])
    (try rw [hk.2.2])
    exact hV
  exact hF
theorem v_rd_longestGap_16 (hG : qGood Ls xs P) {k : Nat} {l2 s0 s1 : Int32} {M : qMem} {Q : qPost} (hk : qRd k)
    (hV : (P 154 0 [(0, .int s1), (1, .int (s0 - l2))] [] M (fun v M' => P 30 19 [(0, .ref k), (2, .int l2)] (v.toList ++ []) M' Q))) :
    P 30 16 [(0, .ref k), (2, .int l2)] [.int s0, .int s1] M Q := by
  exact qRun_ok hG (ops := qo_30) (cuts := qc_rd_longestGap) rfl 26 16 _ _ _ _ hV
theorem v_rd_longestGap_19 (hG : qGood Ls xs P) {k : Nat} {l2 s0 : Int32} {M : qMem} {Q : qPost} (hk : qRd k)
    (hV : (P 30 4 [(0, .ref k), (1, .int s0), (2, .int (l2 + (1 : Int32)))] [] M Q)) :
    P 30 19 [(0, .ref k), (2, .int l2)] [.int s0] M Q := by
  exact qRun_ok hG (ops := qo_30) (cuts := qc_rd_longestGap) rfl 26 19 _ _ _ _ hV
def qc_rd_startsGap : List (Nat × List Nat) := [(3, [0, 1]), (11, [])]
theorem v_rd_startsGap_0 (hG : qGood Ls xs P) {k : Nat} {l1 : Int32} {M : qMem} {Q : qPost} (hk : qRd k)
    (hV : (P 19 0 [(0, .ref k), (1, .int l1)] [] M (fun v M' => P 31 3 [(0, .ref k), (1, .int l1)] (v.toList ++ []) M' Q))) :
    P 31 0 [(0, .ref k), (1, .int l1)] [] M Q := by
  refine qRun_ok hG (ops := qo_31) (cuts := qc_rd_startsGap) rfl 18 0 _ _ _ _ ?_
  have hF : bif Nat.beq (shT k) 4 then (P 19 0 [(0, .ref k), (1, .int l1)] [] M (fun v M' => P 31 3 [(0, .ref k), (1, .int l1)] (v.toList ++ []) M' Q)) else False := by
    (try rw [hk.1])
    (try rw [hk.2.1])
    (try rw [hk.2.2])
    exact hV
  exact hF
theorem v_rd_startsGap_3 (hG : qGood Ls xs P) {k : Nat} {l1 s0 : Int32} {M : qMem} {Q : qPost} (hk : qRd k)
    (hV : ((¬ s0 = 0 → (narrow .boolean (.int (0 : Int32)) = .int (0 : Int32) ∧ Q (some (.int (0 : Int32))) M)) ∧ (¬ (¬ s0 = 0) → ((l1 = 0 → (narrow .boolean (.int (1 : Int32)) = .int (1 : Int32) ∧ Q (some (.int (1 : Int32))) M)) ∧ (¬ (l1 = 0) → (P 19 0 [(0, .ref k), (1, .int (l1 - (1 : Int32)))] [] M (fun v M' => P 31 11 [] (v.toList ++ []) M' Q))))))) :
    P 31 3 [(0, .ref k), (1, .int l1)] [.int s0] M Q := by
  refine qRun_ok hG (ops := qo_31) (cuts := qc_rd_startsGap) rfl 18 3 _ _ _ _ ?_
  have hF : ((¬ s0 = 0 → (narrow .boolean (.int (0 : Int32)) = .int (0 : Int32) ∧ Q (some (.int (0 : Int32))) M)) ∧ (¬ (¬ s0 = 0) → ((l1 = 0 → (narrow .boolean (.int (1 : Int32)) = .int (1 : Int32) ∧ Q (some (.int (1 : Int32))) M)) ∧ (¬ (l1 = 0) → bif Nat.beq (shT k) 4 then (P 19 0 [(0, .ref k), (1, .int (l1 - (1 : Int32)))] [] M (fun v M' => P 31 11 [] (v.toList ++ []) M' Q)) else False)))) := by
    (try rw [hk.1])
    (try rw [hk.2.1])
    (try rw [hk.2.2])
    exact hV
  exact hF
theorem v_rd_startsGap_11 (hG : qGood Ls xs P) {s0 : Int32} {M : qMem} {Q : qPost}
    (hV : ((s0 = 0 → (narrow .boolean (.int (0 : Int32)) = .int (0 : Int32) ∧ Q (some (.int (0 : Int32))) M)) ∧ (¬ (s0 = 0) → (narrow .boolean (.int (1 : Int32)) = .int (1 : Int32) ∧ Q (some (.int (1 : Int32))) M)))) :
    P 31 11 [] [.int s0] M Q := by
  exact qRun_ok hG (ops := qo_31) (cuts := qc_rd_startsGap) rfl 18 11 _ _ _ _ hV
def qc_rd_gapEnd : List (Nat × List Nat) := [(2, [0, 2]), (9, [0, 2])]
theorem v_rd_gapEnd_0 (hG : qGood Ls xs P) {k : Nat} {l1 : Int32} {M : qMem} {Q : qPost} (hk : qRd k)
    (hV : (P 32 2 [(0, .ref k), (2, .int l1)] [] M Q)) :
    P 32 0 [(0, .ref k), (1, .int l1)] [] M Q := by
  exact qRun_ok hG (ops := qo_32) (cuts := qc_rd_gapEnd) rfl 16 0 _ _ _ _ hV
theorem v_rd_gapEnd_2 (hG : qGood Ls xs P) {k : Nat} {l2 : Int32} {M : qMem} {Q : qPost} (hk : qRd k)
    (hV : (((M.1 k 1) ≤ l2 → Q (some (.int l2)) M) ∧ (¬ ((M.1 k 1) ≤ l2) → (P 19 0 [(0, .ref k), (1, .int l2)] [] M (fun v M' => P 32 9 [(0, .ref k), (2, .int l2)] (v.toList ++ []) M' Q))))) :
    P 32 2 [(0, .ref k), (2, .int l2)] [] M Q := by
  refine qRun_ok hG (ops := qo_32) (cuts := qc_rd_gapEnd) rfl 16 2 _ _ _ _ ?_
  have hF : bif Nat.beq (shT k) 4 then (((M.1 k 1) ≤ l2 → Q (some (.int l2)) M) ∧ (¬ ((M.1 k 1) ≤ l2) → bif Nat.beq (shT k) 4 then (P 19 0 [(0, .ref k), (1, .int l2)] [] M (fun v M' => P 32 9 [(0, .ref k), (2, .int l2)] (v.toList ++ []) M' Q)) else False)) else False := by
    (try rw [hk.1])
    (try rw [hk.2.1])
    (try rw [hk.2.2])
    exact hV
  exact hF
theorem v_rd_gapEnd_9 (hG : qGood Ls xs P) {k : Nat} {l2 s0 : Int32} {M : qMem} {Q : qPost} (hk : qRd k)
    (hV : ((¬ s0 = 0 → Q (some (.int l2)) M) ∧ (¬ (¬ s0 = 0) → (P 32 2 [(0, .ref k), (2, .int (l2 + (1 : Int32)))] [] M Q)))) :
    P 32 9 [(0, .ref k), (2, .int l2)] [.int s0] M Q := by
  exact qRun_ok hG (ops := qo_32) (cuts := qc_rd_gapEnd) rfl 16 9 _ _ _ _ hV
def qc_rd_lineAt : List (Nat × List Nat) := [(3, [0, 1, 2, 3]), (7, [0, 1, 2, 3]), (16, [0, 1, 2, 3]), (19, [0, 1, 2, 3]), (25, [1, 2, 3, 4]), (37, [])]
theorem v_rd_lineAt_0 (hG : qGood Ls xs P) {k : Nat} {l1 l2 l3 : Int32} {M : qMem} {Q : qPost} (hk : qRd k)
    (hV : (P 19 0 [(0, .ref k), (1, .int l1)] [] M (fun v M' => P 33 3 [(0, .ref k), (1, .int l1), (2, .int l2), (3, .int l3)] (v.toList ++ []) M' Q))) :
    P 33 0 [(0, .ref k), (1, .int l1), (2, .int l2), (3, .int l3)] [] M Q := by
  refine qRun_ok hG (ops := qo_33) (cuts := qc_rd_lineAt) rfl 41 0 _ _ _ _ ?_
  have hF : bif Nat.beq (shT k) 4 then (P 19 0 [(0, .ref k), (1, .int l1)] [] M (fun v M' => P 33 3 [(0, .ref k), (1, .int l1), (2, .int l2), (3, .int l3)] (v.toList ++ []) M' Q)) else False := by
    (try rw [hk.1])
    (try rw [hk.2.1])
    (try rw [hk.2.2])
    exact hV
  exact hF
theorem v_rd_lineAt_3 (hG : qGood Ls xs P) {k : Nat} {l1 l2 l3 s0 : Int32} {M : qMem} {Q : qPost} (hk : qRd k)
    (hV : ((s0 = 0 → Q (some (.long (0 : Int64))) M) ∧ (¬ (s0 = 0) → (P 19 0 [(0, .ref k), (1, .int l2)] [] M (fun v M' => P 33 7 [(0, .ref k), (1, .int l1), (2, .int l2), (3, .int l3)] (v.toList ++ []) M' Q))))) :
    P 33 3 [(0, .ref k), (1, .int l1), (2, .int l2), (3, .int l3)] [.int s0] M Q := by
  refine qRun_ok hG (ops := qo_33) (cuts := qc_rd_lineAt) rfl 41 3 _ _ _ _ ?_
  have hF : ((s0 = 0 → Q (some (.long (0 : Int64))) M) ∧ (¬ (s0 = 0) → bif Nat.beq (shT k) 4 then (P 19 0 [(0, .ref k), (1, .int l2)] [] M (fun v M' => P 33 7 [(0, .ref k), (1, .int l1), (2, .int l2), (3, .int l3)] (v.toList ++ []) M' Q)) else False)) := by
    (try rw [hk.1])
    (try rw [hk.2.1])
    (try rw [hk.2.2])
    exact hV
  exact hF
theorem v_rd_lineAt_7 (hG : qGood Ls xs P) {k : Nat} {l1 l2 l3 s0 : Int32} {M : qMem} {Q : qPost} (hk : qRd k)
    (hV : ((s0 = 0 → Q (some (.long (0 : Int64))) M) ∧ (¬ (s0 = 0) → ((l1 < l2 → (P 20 0 [(0, .ref k), (1, .int l2)] [] M (fun v M' => P 33 16 [(0, .ref k), (1, .int l1), (2, .int l2), (3, .int l3)] (v.toList ++ []) M' Q))) ∧ (¬ (l1 < l2) → Q (some (.long (0 : Int64))) M))))) :
    P 33 7 [(0, .ref k), (1, .int l1), (2, .int l2), (3, .int l3)] [.int s0] M Q := by
  refine qRun_ok hG (ops := qo_33) (cuts := qc_rd_lineAt) rfl 41 7 _ _ _ _ ?_
  have hF : ((s0 = 0 → Q (some (.long (0 : Int64))) M) ∧ (¬ (s0 = 0) → ((l1 < l2 → bif Nat.beq (shT k) 4 then (P 20 0 [(0, .ref k), (1, .int l2)] [] M (fun v M' => P 33 16 [(0, .ref k), (1, .int l1), (2, .int l2), (3, .int l3)] (v.toList ++ []) M' Q)) else False) ∧ (¬ (l1 < l2) → Q (some (.long (0 : Int64))) M)))) := by
    (try rw [hk.1])
    (try rw [hk.2.1])
    (try rw [hk.2.2])
    exact hV
  exact hF
theorem v_rd_lineAt_16 (hG : qGood Ls xs P) {k : Nat} {l1 l2 l3 s0 : Int32} {M : qMem} {Q : qPost} (hk : qRd k)
    (hV : (P 20 0 [(0, .ref k), (1, .int l1)] [] M (fun v M' => P 33 19 [(0, .ref k), (1, .int l1), (2, .int l2), (3, .int l3)] (v.toList ++ [.int s0]) M' Q))) :
    P 33 16 [(0, .ref k), (1, .int l1), (2, .int l2), (3, .int l3)] [.int s0] M Q := by
  refine qRun_ok hG (ops := qo_33) (cuts := qc_rd_lineAt) rfl 41 16 _ _ _ _ ?_
  have hF : bif Nat.beq (shT k) 4 then (P 20 0 [(0, .ref k), (1, .int l1)] [] M (fun v M' => P 33 19 [(0, .ref k), (1, .int l1), (2, .int l2), (3, .int l3)] (v.toList ++ [.int s0]) M' Q)) else False := by
    (try rw [hk.1])
    (try rw [hk.2.1])
    (try rw [hk.2.2])
    exact hV
  exact hF
theorem v_rd_lineAt_19 (hG : qGood Ls xs P) {k : Nat} {l1 l2 l3 s0 s1 : Int32} {M : qMem} {Q : qPost} (hk : qRd k)
    (hV : (P 20 0 [(0, .ref k), (1, .int l1)] [] M (fun v M' => P 33 25 [(1, .int l1), (2, .int l2), (3, .int l3), (4, .long (s1 - s0).toInt64)] (v.toList ++ []) M' Q))) :
    P 33 19 [(0, .ref k), (1, .int l1), (2, .int l2), (3, .int l3)] [.int s0, .int s1] M Q := by
  refine qRun_ok hG (ops := qo_33) (cuts := qc_rd_lineAt) rfl 41 19 _ _ _ _ ?_
  have hF : bif Nat.beq (shT k) 4 then (P 20 0 [(0, .ref k), (1, .int l1)] [] M (fun v M' => P 33 25 [(1, .int l1), (2, .int l2), (3, .int l3), (4, .long (s1 - s0).toInt64)] (v.toList ++ []) M' Q)) else False := by
    (try rw [hk.1])
    (try rw [hk.2.1])
    (try rw [hk.2.2])
    exact hV
  exact hF
theorem v_rd_lineAt_25 (hG : qGood Ls xs P) {l4 : Int64} {l1 l2 l3 s0 : Int32} {M : qMem} {Q : qPost}
    (hV : (P 153 0 [(0, .long (l4 * (l3 - l1).toInt64)), (2, .long (l2 - l1).toInt64)] [] M (fun v M' => P 33 37 [] (v.toList ++ [.long s0.toInt64]) M' Q))) :
    P 33 25 [(1, .int l1), (2, .int l2), (3, .int l3), (4, .long l4)] [.int s0] M Q := by
  exact qRun_ok hG (ops := qo_33) (cuts := qc_rd_lineAt) rfl 41 25 _ _ _ _ hV
theorem v_rd_lineAt_37 (hG : qGood Ls xs P) {s0 s1 : Int64} {M : qMem} {Q : qPost}
    (hV : Q (some (.long (s1 + s0))) M) :
    P 33 37 [] [.long s0, .long s1] M Q := by
  exact qRun_ok hG (ops := qo_33) (cuts := qc_rd_lineAt) rfl 41 37 _ _ _ _ hV
def qc_rd_isOutlier : List (Nat × List Nat) := [(7, [2])]
theorem v_rd_isOutlier_0 (hG : qGood Ls xs P) {k : Nat} {l1 l2 : Int32} {M : qMem} {Q : qPost} (hk : qRd k)
    (hV : (P 36 0 [(0, .ref k), (1, .int (2 : Int32)), (2, .int (1 : Int32)), (3, .int (l1 - (1 : Int32)))] [] M (fun v M' => P 34 7 [(2, .int l2)] (v.toList ++ []) M' Q))) :
    P 34 0 [(0, .ref k), (1, .int l1), (2, .int l2)] [] M Q := by
  refine qRun_ok hG (ops := qo_34) (cuts := qc_rd_isOutlier) rfl 27 0 _ _ _ _ ?_
  have hF : bif Nat.beq (shT k) 4 then (P 36 0 [(0, .ref k), (1, .int (2 : Int32)), (2, .int (1 : Int32)), (3, .int (l1 - (1 : Int32)))] [] M (fun v M' => P 34 7 [(2, .int l2)] (v.toList ++ []) M' Q)) else False := by
    (try rw [hk.1])
    (try rw [hk.2.1])
    (try rw [hk.2.2])
    exact hV
  exact hF
theorem v_rd_isOutlier_7 (hG : qGood Ls xs P) {l2 s0 : Int32} {M : qMem} {Q : qPost}
    (hV : ((s0 = (-1000000001 : Int32) → (narrow .boolean (.int (0 : Int32)) = .int (0 : Int32) ∧ Q (some (.int (0 : Int32))) M)) ∧ (¬ (s0 = (-1000000001 : Int32)) → ((((2 : Int32) * l2) < s0 → (narrow .boolean (.int (1 : Int32)) = .int (1 : Int32) ∧ Q (some (.int (1 : Int32))) M)) ∧ (¬ (((2 : Int32) * l2) < s0) → ((((-2 : Int32) * l2) ≤ s0 → (narrow .boolean (.int (0 : Int32)) = .int (0 : Int32) ∧ Q (some (.int (0 : Int32))) M)) ∧ (¬ (((-2 : Int32) * l2) ≤ s0) → (narrow .boolean (.int (1 : Int32)) = .int (1 : Int32) ∧ Q (some (.int (1 : Int32))) M)))))))) :
    P 34 7 [(2, .int l2)] [.int s0] M Q := by
  exact qRun_ok hG (ops := qo_34) (cuts := qc_rd_isOutlier) rfl 27 7 _ _ _ _ hV
def qc_rd_countOf : List (Nat × List Nat) := [(4, [0, 1, 2, 3, 4]), (13, [0, 1, 2, 3, 4])]
theorem v_rd_countOf_0 (hG : qGood Ls xs P) {k : Nat} {l1 l2 : Int32} {M : qMem} {Q : qPost} (hk : qRd k)
    (hV : (P 35 4 [(0, .ref k), (1, .int l1), (2, .int l2), (3, .int (0 : Int32)), (4, .int (0 : Int32))] [] M Q)) :
    P 35 0 [(0, .ref k), (1, .int l1), (2, .int l2)] [] M Q := by
  exact qRun_ok hG (ops := qo_35) (cuts := qc_rd_countOf) rfl 22 0 _ _ _ _ hV
theorem v_rd_countOf_4 (hG : qGood Ls xs P) {k : Nat} {l1 l2 l3 l4 : Int32} {M : qMem} {Q : qPost} (hk : qRd k)
    (hV : (((M.1 k 1) ≤ l4 → Q (some (.int l3)) M) ∧ (¬ ((M.1 k 1) ≤ l4) → (P 36 0 [(0, .ref k), (1, .int l1), (2, .int l2), (3, .int l4)] [] M (fun v M' => P 35 13 [(0, .ref k), (1, .int l1), (2, .int l2), (3, .int l3), (4, .int l4)] (v.toList ++ []) M' Q))))) :
    P 35 4 [(0, .ref k), (1, .int l1), (2, .int l2), (3, .int l3), (4, .int l4)] [] M Q := by
  refine qRun_ok hG (ops := qo_35) (cuts := qc_rd_countOf) rfl 22 4 _ _ _ _ ?_
  have hF : bif Nat.beq (shT k) 4 then (((M.1 k 1) ≤ l4 → Q (some (.int l3)) M) ∧ (¬ ((M.1 k 1) ≤ l4) → bif Nat.beq (shT k) 4 then (P 36 0 [(0, .ref k), (1, .int l1), (2, .int l2), (3, .int l4)] [] M (fun v M' => P 35 13 [(0, .ref k), (1, .int l1), (2, .int l2), (3, .int l3), (4, .int l4)] (v.toList ++ []) M' Q)) else False)) else False := by
    (try rw [hk.1])
    (try rw [hk.2.1])
    (try rw [hk.2.2])
    exact hV
  exact hF
theorem v_rd_countOf_13 (hG : qGood Ls xs P) {k : Nat} {l1 l2 l3 l4 s0 : Int32} {M : qMem} {Q : qPost} (hk : qRd k)
    (hV : ((s0 = (-1000000001 : Int32) → (P 35 4 [(0, .ref k), (1, .int l1), (2, .int l2), (3, .int l3), (4, .int (l4 + (1 : Int32)))] [] M Q)) ∧ (¬ (s0 = (-1000000001 : Int32)) → (P 35 4 [(0, .ref k), (1, .int l1), (2, .int l2), (3, .int (l3 + (1 : Int32))), (4, .int (l4 + (1 : Int32)))] [] M Q)))) :
    P 35 13 [(0, .ref k), (1, .int l1), (2, .int l2), (3, .int l3), (4, .int l4)] [.int s0] M Q := by
  exact qRun_ok hG (ops := qo_35) (cuts := qc_rd_countOf) rfl 22 13 _ _ _ _ hV
def qc_rd_differenceAt : List (Nat × List Nat) := [(3, [0, 1, 2, 3]), (13, []), (21, []), (26, [])]
theorem v_rd_differenceAt_0 (hG : qGood Ls xs P) {k : Nat} {l1 l2 l3 : Int32} {M : qMem} {Q : qPost} (hk : qRd k)
    (hV : (P 18 0 [(0, .ref k), (1, .int l3)] [] M (fun v M' => P 36 3 [(0, .ref k), (1, .int l1), (2, .int l2), (3, .int l3)] (v.toList ++ []) M' Q))) :
    P 36 0 [(0, .ref k), (1, .int l1), (2, .int l2), (3, .int l3)] [] M Q := by
  refine qRun_ok hG (ops := qo_36) (cuts := qc_rd_differenceAt) rfl 29 0 _ _ _ _ ?_
  have hF : bif Nat.beq (shT k) 4 then (P 18 0 [(0, .ref k), (1, .int l3)] [] M (fun v M' => P 36 3 [(0, .ref k), (1, .int l1), (2, .int l2), (3, .int l3)] (v.toList ++ []) M' Q)) else False := by
    (try rw [hk.1])
    (try rw [hk.2.1])
    (try rw [hk.2.2])
    exact hV
  exact hF
theorem v_rd_differenceAt_3 (hG : qGood Ls xs P) {k : Nat} {l1 l2 l3 s0 : Int32} {M : qMem} {Q : qPost} (hk : qRd k)
    (hV : ((¬ s0 = 0 → ((¬ l1 = (2 : Int32) → ((¬ l1 = (3 : Int32) → (P 39 0 [(0, .ref k), (1, .int l2), (2, .int l3)] [] M (fun v M' => P 36 26 [] (v.toList ++ []) M' Q))) ∧ (¬ (¬ l1 = (3 : Int32)) → (P 38 0 [(0, .ref k), (1, .int l2), (2, .int l3)] [] M (fun v M' => P 36 21 [] (v.toList ++ []) M' Q))))) ∧ (¬ (¬ l1 = (2 : Int32)) → (P 37 0 [(0, .ref k), (1, .int l2), (2, .int l3)] [] M (fun v M' => P 36 13 [] (v.toList ++ []) M' Q))))) ∧ (¬ (¬ s0 = 0) → Q (some (.int (-1000000001 : Int32))) M))) :
    P 36 3 [(0, .ref k), (1, .int l1), (2, .int l2), (3, .int l3)] [.int s0] M Q := by
  refine qRun_ok hG (ops := qo_36) (cuts := qc_rd_differenceAt) rfl 29 3 _ _ _ _ ?_
  have hF : ((¬ s0 = 0 → ((¬ l1 = (2 : Int32) → ((¬ l1 = (3 : Int32) → bif Nat.beq (shT k) 4 then (P 39 0 [(0, .ref k), (1, .int l2), (2, .int l3)] [] M (fun v M' => P 36 26 [] (v.toList ++ []) M' Q)) else False) ∧ (¬ (¬ l1 = (3 : Int32)) → bif Nat.beq (shT k) 4 then (P 38 0 [(0, .ref k), (1, .int l2), (2, .int l3)] [] M (fun v M' => P 36 21 [] (v.toList ++ []) M' Q)) else False))) ∧ (¬ (¬ l1 = (2 : Int32)) → bif Nat.beq (shT k) 4 then (P 37 0 [(0, .ref k), (1, .int l2), (2, .int l3)] [] M (fun v M' => P 36 13 [] (v.toList ++ []) M' Q)) else False))) ∧ (¬ (¬ s0 = 0) → Q (some (.int (-1000000001 : Int32))) M)) := by
    (try rw [hk.1])
    (try rw [hk.2.1])
    (try rw [hk.2.2])
    exact hV
  exact hF
theorem v_rd_differenceAt_26 (hG : qGood Ls xs P) {s0 : Int32} {M : qMem} {Q : qPost}
    (hV : Q (some (.int s0)) M) :
    P 36 26 [] [.int s0] M Q := by
  exact qRun_ok hG (ops := qo_36) (cuts := qc_rd_differenceAt) rfl 29 26 _ _ _ _ hV
theorem v_rd_differenceAt_21 (hG : qGood Ls xs P) {s0 : Int32} {M : qMem} {Q : qPost}
    (hV : (P 36 26 [] [.int s0] M Q)) :
    P 36 21 [] [.int s0] M Q := by
  exact qRun_ok hG (ops := qo_36) (cuts := qc_rd_differenceAt) rfl 29 21 _ _ _ _ hV
theorem v_rd_differenceAt_13 (hG : qGood Ls xs P) {s0 : Int32} {M : qMem} {Q : qPost}
    (hV : Q (some (.int s0)) M) :
    P 36 13 [] [.int s0] M Q := by
  exact qRun_ok hG (ops := qo_36) (cuts := qc_rd_differenceAt) rfl 29 13 _ _ _ _ hV
def qc_rd_secondAt : List (Nat × List Nat) := [(3, [0, 1, 2]), (9, [0, 1, 2, 3]), (17, [3, 4])]
theorem v_rd_secondAt_0 (hG : qGood Ls xs P) {k : Nat} {l1 l2 : Int32} {M : qMem} {Q : qPost} (hk : qRd k)
    (hV : (P 20 0 [(0, .ref k), (1, .int l2)] [] M (fun v M' => P 37 3 [(0, .ref k), (1, .int l1), (2, .int l2)] (v.toList ++ []) M' Q))) :
    P 37 0 [(0, .ref k), (1, .int l1), (2, .int l2)] [] M Q := by
  refine qRun_ok hG (ops := qo_37) (cuts := qc_rd_secondAt) rfl 39 0 _ _ _ _ ?_
  have hF : bif Nat.beq (shT k) 4 then (P 20 0 [(0, .ref k), (1, .int l2)] [] M (fun v M' => P 37 3 [(0, .ref k), (1, .int l1), (2, .int l2)] (v.toList ++ []) M' Q)) else False := by
    (try rw [hk.1])
    (try rw [hk.2.1])
    (try rw [hk.2.2])
    exact hV
  exact hF
theorem v_rd_secondAt_3 (hG : qGood Ls xs P) {k : Nat} {l1 l2 s0 : Int32} {M : qMem} {Q : qPost} (hk : qRd k)
    (hV : (P 20 0 [(0, .ref k), (1, .int (l2 + l1))] [] M (fun v M' => P 37 9 [(0, .ref k), (1, .int l1), (2, .int l2), (3, .int s0)] (v.toList ++ []) M' Q))) :
    P 37 3 [(0, .ref k), (1, .int l1), (2, .int l2)] [.int s0] M Q := by
  refine qRun_ok hG (ops := qo_37) (cuts := qc_rd_secondAt) rfl 39 3 _ _ _ _ ?_
  have hF : bif Nat.beq (shT k) 4 then (P 20 0 [(0, .ref k), (1, .int (l2 + l1))] [] M (fun v M' => P 37 9 [(0, .ref k), (1, .int l1), (2, .int l2), (3, .int s0)] (v.toList ++ []) M' Q)) else False := by
    (try rw [hk.1])
    (try rw [hk.2.1])
    (try rw [hk.2.2])
    exact hV
  exact hF
theorem v_rd_secondAt_9 (hG : qGood Ls xs P) {k : Nat} {l1 l2 l3 s0 : Int32} {M : qMem} {Q : qPost} (hk : qRd k)
    (hV : (P 20 0 [(0, .ref k), (1, .int (l2 + ((2 : Int32) * l1)))] [] M (fun v M' => P 37 17 [(3, .int l3), (4, .int s0)] (v.toList ++ []) M' Q))) :
    P 37 9 [(0, .ref k), (1, .int l1), (2, .int l2), (3, .int l3)] [.int s0] M Q := by
  refine qRun_ok hG (ops := qo_37) (cuts := qc_rd_secondAt) rfl 39 9 _ _ _ _ ?_
  have hF : bif Nat.beq (shT k) 4 then (P 20 0 [(0, .ref k), (1, .int (l2 + ((2 : Int32) * l1)))] [] M (fun v M' => P 37 17 [(3, .int l3), (4, .int s0)] (v.toList ++ []) M' Q)) else False := by
    (try rw [hk.1])
    (try rw [hk.2.1])
    (try rw [hk.2.2])
    exact hV
  exact hF
theorem v_rd_secondAt_17 (hG : qGood Ls xs P) {l3 l4 s0 : Int32} {M : qMem} {Q : qPost}
    (hV : ((l3 = (-1000000001 : Int32) → Q (some (.int (-1000000001 : Int32))) M) ∧ (¬ (l3 = (-1000000001 : Int32)) → ((l4 = (-1000000001 : Int32) → Q (some (.int (-1000000001 : Int32))) M) ∧ (¬ (l4 = (-1000000001 : Int32)) → ((¬ s0 = (-1000000001 : Int32) → Q (some (.int ((s0 - ((2 : Int32) * l4)) + l3))) M) ∧ (¬ (¬ s0 = (-1000000001 : Int32)) → Q (some (.int (-1000000001 : Int32))) M))))))) :
    P 37 17 [(3, .int l3), (4, .int l4)] [.int s0] M Q := by
  exact qRun_ok hG (ops := qo_37) (cuts := qc_rd_secondAt) rfl 39 17 _ _ _ _ hV
def qc_rd_thirdAt : List (Nat × List Nat) := [(3, [0, 1, 2]), (9, [0, 1, 2, 3]), (17, [0, 1, 2, 3, 4]), (25, [3, 4, 5])]
set_option maxRecDepth 100000 in
theorem v_rd_thirdAt_0 (hG : qGood Ls xs P) {k : Nat} {l1 l2 : Int32} {M : qMem} {Q : qPost} (hk : qRd k)
    (hV : (P 20 0 [(0, .ref k), (1, .int l2)] [] M (fun v M' => P 38 3 [(0, .ref k), (1, .int l1), (2, .int l2)] (v.toList ++ []) M' Q))) :
    P 38 0 [(0, .ref k), (1, .int l1), (2, .int l2)] [] M Q := by
  refine qRun_ok hG (ops := qo_38) (cuts := qc_rd_thirdAt) rfl 54 0 _ _ _ _ ?_
  have hF : bif Nat.beq (shT k) 4 then (P 20 0 [(0, .ref k), (1, .int l2)] [] M (fun v M' => P 38 3 [(0, .ref k), (1, .int l1), (2, .int l2)] (v.toList ++ []) M' Q)) else False := by
    (try rw [hk.1])
    (try rw [hk.2.1])
    (try rw [hk.2.2])
    exact hV
  exact hF
set_option maxRecDepth 100000 in
theorem v_rd_thirdAt_3 (hG : qGood Ls xs P) {k : Nat} {l1 l2 s0 : Int32} {M : qMem} {Q : qPost} (hk : qRd k)
    (hV : (P 20 0 [(0, .ref k), (1, .int (l2 + l1))] [] M (fun v M' => P 38 9 [(0, .ref k), (1, .int l1), (2, .int l2), (3, .int s0)] (v.toList ++ []) M' Q))) :
    P 38 3 [(0, .ref k), (1, .int l1), (2, .int l2)] [.int s0] M Q := by
  refine qRun_ok hG (ops := qo_38) (cuts := qc_rd_thirdAt) rfl 54 3 _ _ _ _ ?_
  have hF : bif Nat.beq (shT k) 4 then (P 20 0 [(0, .ref k), (1, .int (l2 + l1))] [] M (fun v M' => P 38 9 [(0, .ref k), (1, .int l1), (2, .int l2), (3, .int s0)] (v.toList ++ []) M' Q)) else False := by
    (try rw [hk.1])
    (try rw [hk.2.1])
    (try rw [hk.2.2])
    exact hV
  exact hF
set_option maxRecDepth 100000 in
theorem v_rd_thirdAt_9 (hG : qGood Ls xs P) {k : Nat} {l1 l2 l3 s0 : Int32} {M : qMem} {Q : qPost} (hk : qRd k)
    (hV : (P 20 0 [(0, .ref k), (1, .int (l2 + ((2 : Int32) * l1)))] [] M (fun v M' => P 38 17 [(0, .ref k), (1, .int l1), (2, .int l2), (3, .int l3), (4, .int s0)] (v.toList ++ []) M' Q))) :
    P 38 9 [(0, .ref k), (1, .int l1), (2, .int l2), (3, .int l3)] [.int s0] M Q := by
  refine qRun_ok hG (ops := qo_38) (cuts := qc_rd_thirdAt) rfl 54 9 _ _ _ _ ?_
  have hF : bif Nat.beq (shT k) 4 then (P 20 0 [(0, .ref k), (1, .int (l2 + ((2 : Int32) * l1)))] [] M (fun v M' => P 38 17 [(0, .ref k), (1, .int l1), (2, .int l2), (3, .int l3), (4, .int s0)] (v.toList ++ []) M' Q)) else False := by
    (try rw [hk.1])
    (try rw [hk.2.1])
    (try rw [hk.2.2])
    exact hV
  exact hF
set_option maxRecDepth 100000 in
theorem v_rd_thirdAt_17 (hG : qGood Ls xs P) {k : Nat} {l1 l2 l3 l4 s0 : Int32} {M : qMem} {Q : qPost} (hk : qRd k)
    (hV : (P 20 0 [(0, .ref k), (1, .int (l2 + ((3 : Int32) * l1)))] [] M (fun v M' => P 38 25 [(3, .int l3), (4, .int l4), (5, .int s0)] (v.toList ++ []) M' Q))) :
    P 38 17 [(0, .ref k), (1, .int l1), (2, .int l2), (3, .int l3), (4, .int l4)] [.int s0] M Q := by
  refine qRun_ok hG (ops := qo_38) (cuts := qc_rd_thirdAt) rfl 54 17 _ _ _ _ ?_
  have hF : bif Nat.beq (shT k) 4 then (P 20 0 [(0, .ref k), (1, .int (l2 + ((3 : Int32) * l1)))] [] M (fun v M' => P 38 25 [(3, .int l3), (4, .int l4), (5, .int s0)] (v.toList ++ []) M' Q)) else False := by
    (try rw [hk.1])
    (try rw [hk.2.1])
    (try rw [hk.2.2])
    exact hV
  exact hF
set_option maxRecDepth 100000 in
theorem v_rd_thirdAt_25 (hG : qGood Ls xs P) {l3 l4 l5 s0 : Int32} {M : qMem} {Q : qPost}
    (hV : ((l3 = (-1000000001 : Int32) → Q (some (.int (-1000000001 : Int32))) M) ∧ (¬ (l3 = (-1000000001 : Int32)) → ((l4 = (-1000000001 : Int32) → Q (some (.int (-1000000001 : Int32))) M) ∧ (¬ (l4 = (-1000000001 : Int32)) → ((l5 = (-1000000001 : Int32) → Q (some (.int (-1000000001 : Int32))) M) ∧ (¬ (l5 = (-1000000001 : Int32)) → ((¬ s0 = (-1000000001 : Int32) → Q (some (.int (((s0 - ((3 : Int32) * l5)) + ((3 : Int32) * l4)) - l3))) M) ∧ (¬ (¬ s0 = (-1000000001 : Int32)) → Q (some (.int (-1000000001 : Int32))) M))))))))) :
    P 38 25 [(3, .int l3), (4, .int l4), (5, .int l5)] [.int s0] M Q := by
  exact qRun_ok hG (ops := qo_38) (cuts := qc_rd_thirdAt) rfl 54 25 _ _ _ _ hV
def qc_rd_meanAt : List (Nat × List Nat) := [(4, [0, 1, 2, 3, 4]), (13, [0, 1, 2, 3, 4])]
theorem v_rd_meanAt_0 (hG : qGood Ls xs P) {k : Nat} {l1 l2 : Int32} {M : qMem} {Q : qPost} (hk : qRd k)
    (hV : (P 39 4 [(0, .ref k), (1, .int l1), (2, .int l2), (3, .int (0 : Int32)), (4, .int (0 : Int32))] [] M Q)) :
    P 39 0 [(0, .ref k), (1, .int l1), (2, .int l2)] [] M Q := by
  exact qRun_ok hG (ops := qo_39) (cuts := qc_rd_meanAt) rfl 29 0 _ _ _ _ hV
theorem v_rd_meanAt_4 (hG : qGood Ls xs P) {k : Nat} {l1 l2 l3 l4 : Int32} {M : qMem} {Q : qPost} (hk : qRd k)
    (hV : ((l1 ≤ l4 → Q (some (.int l3)) M) ∧ (¬ (l1 ≤ l4) → (P 37 0 [(0, .ref k), (1, .int l1), (2, .int (l2 + l4))] [] M (fun v M' => P 39 13 [(0, .ref k), (1, .int l1), (2, .int l2), (3, .int l3), (4, .int l4)] (v.toList ++ []) M' Q))))) :
    P 39 4 [(0, .ref k), (1, .int l1), (2, .int l2), (3, .int l3), (4, .int l4)] [] M Q := by
  refine qRun_ok hG (ops := qo_39) (cuts := qc_rd_meanAt) rfl 29 4 _ _ _ _ ?_
  have hF : ((l1 ≤ l4 → Q (some (.int l3)) M) ∧ (¬ (l1 ≤ l4) → bif Nat.beq (shT k) 4 then (P 37 0 [(0, .ref k), (1, .int l1), (2, .int (l2 + l4))] [] M (fun v M' => P 39 13 [(0, .ref k), (1, .int l1), (2, .int l2), (3, .int l3), (4, .int l4)] (v.toList ++ []) M' Q)) else False)) := by
    (try rw [hk.1])
    (try rw [hk.2.1])
    (try rw [hk.2.2])
    exact hV
  exact hF
theorem v_rd_meanAt_13 (hG : qGood Ls xs P) {k : Nat} {l1 l2 l3 l4 s0 : Int32} {M : qMem} {Q : qPost} (hk : qRd k)
    (hV : ((¬ s0 = (-1000000001 : Int32) → (P 39 4 [(0, .ref k), (1, .int l1), (2, .int l2), (3, .int (l3 + s0)), (4, .int (l4 + (1 : Int32)))] [] M Q)) ∧ (¬ (¬ s0 = (-1000000001 : Int32)) → Q (some (.int (-1000000001 : Int32))) M))) :
    P 39 13 [(0, .ref k), (1, .int l1), (2, .int l2), (3, .int l3), (4, .int l4)] [.int s0] M Q := by
  exact qRun_ok hG (ops := qo_39) (cuts := qc_rd_meanAt) rfl 29 13 _ _ _ _ hV
end VC
end
section
/-! what is to be shown, segment by segment: fr (printed by wip/genvc.py) -/
section VC
variable {Ls : Nat} {xs : Nat → Int32} {P : qSem}
def qc_fr_exists : List (Nat × List Nat) := []
theorem v_fr_exists_0 (hG : qGood Ls xs P) {k : Nat} {M : qMem} {Q : qPost} (hk : qFq k)
    (hV : (((lg_cmp (M.2 k 1) (0 : Int64)) ≤ 0 → (narrow .boolean (.int (0 : Int32)) = .int (0 : Int32) ∧ Q (some (.int (0 : Int32))) M)) ∧ (¬ ((lg_cmp (M.2 k 1) (0 : Int64)) ≤ 0) → (narrow .boolean (.int (1 : Int32)) = .int (1 : Int32) ∧ Q (some (.int (1 : Int32))) M)))) :
    P 0 0 [(0, .ref k)] [] M Q := by
  refine qRun_ok hG (ops := qo_0) (cuts := qc_fr_exists) rfl 11 0 _ _ _ _ ?_
  have hF : bif Nat.beq (shT k) 0 then (((lg_cmp (M.2 k 1) (0 : Int64)) ≤ 0 → (narrow .boolean (.int (0 : Int32)) = .int (0 : Int32) ∧ Q (some (.int (0 : Int32))) M)) ∧ (¬ ((lg_cmp (M.2 k 1) (0 : Int64)) ≤ 0) → (narrow .boolean (.int (1 : Int32)) = .int (1 : Int32) ∧ Q (some (.int (1 : Int32))) M))) else False := by
    (try rw [hk])
    exact hV
  exact hF
def qc_fr_become : List (Nat × List Nat) := [(3, [0, 1, 3])]
theorem v_fr_become_0 (hG : qGood Ls xs P) {k : Nat} {l1 l3 : Int64} {M : qMem} {Q : qPost} (hk : qFq k)
    (hV : (P 5 0 [(0, .long l1), (2, .long l3)] [] M (fun v M' => P 1 3 [(0, .ref k), (1, .long l1), (3, .long l3)] (v.toList ++ []) M' Q))) :
    P 1 0 [(0, .ref k), (1, .long l1), (3, .long l3)] [] M Q := by
  exact qRun_ok hG (ops := qo_1) (cuts := qc_fr_become) rfl 32 0 _ _ _ _ hV
theorem v_fr_become_3 (hG : qGood Ls xs P) {k : Nat} {l1 l3 s0 : Int64} {M : qMem} {Q : qPost} (hk : qFq k)
    (hV : (((lg_cmp l3 (0 : Int64)) ≤ 0 → Q none (pJ (pJ M k 0 (0 : Int64)) k 1 (0 : Int64))) ∧ (¬ ((lg_cmp l3 (0 : Int64)) ≤ 0) → ((0 < (lg_cmp s0 (0 : Int64)) → (¬ s0 = 0 ∧ (¬ s0 = 0 ∧ Q none (pJ (pJ M k 0 (l1 / s0)) k 1 (l3 / s0))))) ∧ (¬ (0 < (lg_cmp s0 (0 : Int64))) → Q none (pJ (pJ M k 0 (0 : Int64)) k 1 (0 : Int64))))))) :
    P 1 3 [(0, .ref k), (1, .long l1), (3, .long l3)] [.long s0] M Q := by
  refine qRun_ok hG (ops := qo_1) (cuts := qc_fr_become) rfl 32 3 _ _ _ _ ?_
  have hF : (((lg_cmp l3 (0 : Int64)) ≤ 0 → bif Nat.beq (shT k) 0 then bif Nat.beq (shT k) 0 then Q none (pJ (pJ M k 0 (0 : Int64)) k 1 (0 : Int64)) else False else False) ∧ (¬ ((lg_cmp l3 (0 : Int64)) ≤ 0) → ((0 < (lg_cmp s0 (0 : Int64)) → (¬ s0 = 0 ∧ bif Nat.beq (shT k) 0 then (¬ s0 = 0 ∧ bif Nat.beq (shT k) 0 then Q none (pJ (pJ M k 0 (l1 / s0)) k 1 (l3 / s0)) else False) else False)) ∧ (¬ (0 < (lg_cmp s0 (0 : Int64))) → bif Nat.beq (shT k) 0 then bif Nat.beq (shT k) 0 then Q none (pJ (pJ M k 0 (0 : Int64)) k 1 (0 : Int64)) else False else False)))) := by
    (try rw [hk])
    exact hV
  exact hF
def qc_fr_copyFrom : List (Nat × List Nat) := []
theorem v_fr_copyFrom_0 (hG : qGood Ls xs P) {k k1 : Nat} {M : qMem} {Q : qPost} (hk : qFq k) (hk1 : qFq k1)
    (hV : Q none (pJ (pJ M k 0 (M.2 k1 0)) k 1 ((pJ M k 0 (M.2 k1 0)).2 k1 1))) :
    P 2 0 [(0, .ref k), (1, .ref k1)] [] M Q := by
  refine qRun_ok hG (ops := qo_2) (cuts := qc_fr_copyFrom) rfl 11 0 _ _ _ _ ?_
  have hF : bif Nat.beq (shT k1) 0 then bif Nat.beq (shT k) 0 then bif Nat.beq (shT k1) 0 then bif Nat.beq (shT k) 0 then Q none (pJ (pJ M k 0 (M.2 k1 0)) k 1 ((pJ M k 0 (M.2 k1 0)).2 k1 1)) else False else False else False else False := by
    (try rw [hk])
    (try rw [hk1])
    exact hV
  exact hF
def qc_fr_orderOfMultiples : List (Nat × List Nat) := [(2, [0, 1, 3, 4]), (5, [0, 1, 3, 4]), (27, [0, 3, 6, 8]), (47, [])]
set_option maxRecDepth 100000 in
theorem v_fr_orderOfMultiples_0 (hG : qGood Ls xs P) {k k3 : Nat} {l1 l4 : Int64} {M : qMem} {Q : qPost} (hk : qFq k) (hk3 : qFq k3)
    (hV : (P 0 0 [(0, .ref k)] [] M (fun v M' => P 3 2 [(0, .ref k), (1, .long l1), (3, .ref k3), (4, .long l4)] (v.toList ++ []) M' Q))) :
    P 3 0 [(0, .ref k), (1, .long l1), (3, .ref k3), (4, .long l4)] [] M Q := by
  refine qRun_ok hG (ops := qo_3) (cuts := qc_fr_orderOfMultiples) rfl 50 0 _ _ _ _ ?_
  have hF : bif Nat.beq (shT k) 0 then (P 0 0 [(0, .ref k)] [] M (fun v M' => P 3 2 [(0, .ref k), (1, .long l1), (3, .ref k3), (4, .long l4)] (v.toList ++ []) M' Q)) else False := by
    (try rw [hk])
    (try rw [hk3])
    exact hV
  exact hF
set_option maxRecDepth 100000 in
theorem v_fr_orderOfMultiples_2 (hG : qGood Ls xs P) {k k3 : Nat} {l1 l4 : Int64} {s0 : Int32} {M : qMem} {Q : qPost} (hk : qFq k) (hk3 : qFq k3)
    (hV : ((s0 = 0 → Q (some (.int (0 : Int32))) M) ∧ (¬ (s0 = 0) → (P 0 0 [(0, .ref k3)] [] M (fun v M' => P 3 5 [(0, .ref k), (1, .long l1), (3, .ref k3), (4, .long l4)] (v.toList ++ []) M' Q))))) :
    P 3 2 [(0, .ref k), (1, .long l1), (3, .ref k3), (4, .long l4)] [.int s0] M Q := by
  refine qRun_ok hG (ops := qo_3) (cuts := qc_fr_orderOfMultiples) rfl 50 2 _ _ _ _ ?_
  have hF : ((s0 = 0 → Q (some (.int (0 : Int32))) M) ∧ (¬ (s0 = 0) → bif Nat.beq (shT k3) 0 then (P 0 0 [(0, .ref k3)] [] M (fun v M' => P 3 5 [(0, .ref k), (1, .long l1), (3, .ref k3), (4, .long l4)] (v.toList ++ []) M' Q)) else False)) := by
    (try rw [hk])
    (try rw [hk3])
    exact hV
  exact hF
set_option maxRecDepth 100000 in
theorem v_fr_orderOfMultiples_5 (hG : qGood Ls xs P) {k k3 : Nat} {l1 l4 : Int64} {s0 : Int32} {M : qMem} {Q : qPost} (hk : qFq k) (hk3 : qFq k3)
    (hV : ((¬ s0 = 0 → (¬ (M.2 k 1) = 0 ∧ (¬ (M.2 k3 1) = 0 ∧ (P 152 0 [(0, .long ((l1 * (M.2 k 0)) / (M.2 k 1))), (2, .long ((l4 * (M.2 k3 0)) / (M.2 k3 1)))] [] M (fun v M' => P 3 27 [(0, .ref k), (3, .ref k3), (6, .long (l1 * (M.2 k 0))), (8, .long (l4 * (M.2 k3 0)))] (v.toList ++ []) M' Q))))) ∧ (¬ (¬ s0 = 0) → Q (some (.int (0 : Int32))) M))) :
    P 3 5 [(0, .ref k), (1, .long l1), (3, .ref k3), (4, .long l4)] [.int s0] M Q := by
  refine qRun_ok hG (ops := qo_3) (cuts := qc_fr_orderOfMultiples) rfl 50 5 _ _ _ _ ?_
  have hF : ((¬ s0 = 0 → bif Nat.beq (shT k) 0 then bif Nat.beq (shT k3) 0 then bif Nat.beq (shT k) 0 then (¬ (M.2 k 1) = 0 ∧ bif Nat.beq (shT k3) 0 then (¬ (M.2 k3 1) = 0 ∧ (P 152 0 [(0, .long ((l1 * (M.2 k 0)) / (M.2 k 1))), (2, .long ((l4 * (M.2 k3 0)) / (M.2 k3 1)))] [] M (fun v M' => P 3 27 [(0, .ref k), (3, .ref k3), (6, .long (l1 * (M.2 k 0))), (8, .long (l4 * (M.2 k3 0)))] (v.toList ++ []) M' Q))) else False) else False else False else False) ∧ (¬ (¬ s0 = 0) → Q (some (.int (0 : Int32))) M)) := by
    (try rw [hk])
    (try rw [hk3])
    exact hV
  exact hF
set_option maxRecDepth 100000 in
theorem v_fr_orderOfMultiples_27 (hG : qGood Ls xs P) {k k3 : Nat} {l6 l8 : Int64} {s0 : Int32} {M : qMem} {Q : qPost} (hk : qFq k) (hk3 : qFq k3)
    (hV : ((s0 = 0 → (¬ (M.2 k 1) = 0 ∧ (¬ (M.2 k3 1) = 0 ∧ (P 152 0 [(0, .long ((l6 - l6 / (M.2 k 1) * (M.2 k 1)) * (M.2 k3 1))), (2, .long ((l8 - l8 / (M.2 k3 1) * (M.2 k3 1)) * (M.2 k 1)))] [] M (fun v M' => P 3 47 [] (v.toList ++ []) M' Q))))) ∧ (¬ (s0 = 0) → Q (some (.int s0)) M))) :
    P 3 27 [(0, .ref k), (3, .ref k3), (6, .long l6), (8, .long l8)] [.int s0] M Q := by
  refine qRun_ok hG (ops := qo_3) (cuts := qc_fr_orderOfMultiples) rfl 50 27 _ _ _ _ ?_
  have hF : ((s0 = 0 → bif Nat.beq (shT k) 0 then (¬ (M.2 k 1) = 0 ∧ bif Nat.beq (shT k3) 0 then bif Nat.beq (shT k3) 0 then (¬ (M.2 k3 1) = 0 ∧ bif Nat.beq (shT k) 0 then (P 152 0 [(0, .long ((l6 - l6 / (M.2 k 1) * (M.2 k 1)) * (M.2 k3 1))), (2, .long ((l8 - l8 / (M.2 k3 1) * (M.2 k3 1)) * (M.2 k 1)))] [] M (fun v M' => P 3 47 [] (v.toList ++ []) M' Q)) else False) else False else False) else False) ∧ (¬ (s0 = 0) → Q (some (.int s0)) M)) := by
    (try rw [hk])
    (try rw [hk3])
    exact hV
  exact hF
set_option maxRecDepth 100000 in
theorem v_fr_orderOfMultiples_47 (hG : qGood Ls xs P) {s0 : Int32} {M : qMem} {Q : qPost}
    (hV : Q (some (.int s0)) M) :
    P 3 47 [] [.int s0] M Q := by
  exact qRun_ok hG (ops := qo_3) (cuts := qc_fr_orderOfMultiples) rfl 50 47 _ _ _ _ hV
def qc_fr_timesRoundedDown : List (Nat × List Nat) := [(2, [0, 1])]
theorem v_fr_timesRoundedDown_0 (hG : qGood Ls xs P) {k : Nat} {l1 : Int64} {M : qMem} {Q : qPost} (hk : qFq k)
    (hV : (P 0 0 [(0, .ref k)] [] M (fun v M' => P 4 2 [(0, .ref k), (1, .long l1)] (v.toList ++ []) M' Q))) :
    P 4 0 [(0, .ref k), (1, .long l1)] [] M Q := by
  refine qRun_ok hG (ops := qo_4) (cuts := qc_fr_timesRoundedDown) rfl 26 0 _ _ _ _ ?_
  have hF : bif Nat.beq (shT k) 0 then (P 0 0 [(0, .ref k)] [] M (fun v M' => P 4 2 [(0, .ref k), (1, .long l1)] (v.toList ++ []) M' Q)) else False := by
    (try rw [hk])
    exact hV
  exact hF
theorem v_fr_timesRoundedDown_2 (hG : qGood Ls xs P) {k : Nat} {l1 : Int64} {s0 : Int32} {M : qMem} {Q : qPost} (hk : qFq k)
    (hV : ((¬ s0 = 0 → (¬ (M.2 k 1) = 0 ∧ (¬ (M.2 k 1) = 0 ∧ (¬ (M.2 k 1) = 0 ∧ Q (some (.long ((((M.2 k 0) / (M.2 k 1)) * l1) + ((((M.2 k 0) - (M.2 k 0) / (M.2 k 1) * (M.2 k 1)) * l1) / (M.2 k 1))))) M)))) ∧ (¬ (¬ s0 = 0) → Q (some (.long (0 : Int64))) M))) :
    P 4 2 [(0, .ref k), (1, .long l1)] [.int s0] M Q := by
  refine qRun_ok hG (ops := qo_4) (cuts := qc_fr_timesRoundedDown) rfl 26 2 _ _ _ _ ?_
  have hF : ((¬ s0 = 0 → bif Nat.beq (shT k) 0 then bif Nat.beq (shT k) 0 then (¬ (M.2 k 1) = 0 ∧ bif Nat.beq (shT k) 0 then bif Nat.beq (shT k) 0 then (¬ (M.2 k 1) = 0 ∧ bif Nat.beq (shT k) 0 then (¬ (M.2 k 1) = 0 ∧ Q (some (.long ((((M.2 k 0) / (M.2 k 1)) * l1) + ((((M.2 k 0) - (M.2 k 0) / (M.2 k 1) * (M.2 k 1)) * l1) / (M.2 k 1))))) M) else False) else False else False) else False else False) ∧ (¬ (¬ s0 = 0) → Q (some (.long (0 : Int64))) M)) := by
    (try rw [hk])
    exact hV
  exact hF
def qc_fr_greatestDivisor : List (Nat × List Nat) := [(6, [4, 6, 8])]
theorem v_fr_greatestDivisor_0 (hG : qGood Ls xs P) {l0 l2 : Int64} {M : qMem} {Q : qPost}
    (hV : (P 5 6 [(4, .long l0), (6, .long l2), (8, .int (0 : Int32))] [] M Q)) :
    P 5 0 [(0, .long l0), (2, .long l2)] [] M Q := by
  exact qRun_ok hG (ops := qo_5) (cuts := qc_fr_greatestDivisor) rfl 27 0 _ _ _ _ hV
theorem v_fr_greatestDivisor_6 (hG : qGood Ls xs P) {l4 l6 : Int64} {l8 : Int32} {M : qMem} {Q : qPost}
    (hV : (((100 : Int32) ≤ l8 → Q (some (.long l4)) M) ∧ (¬ ((100 : Int32) ≤ l8) → (((lg_cmp l6 (0 : Int64)) = 0 → Q (some (.long l4)) M) ∧ (¬ ((lg_cmp l6 (0 : Int64)) = 0) → (¬ l6 = 0 ∧ (P 5 6 [(4, .long l6), (6, .long (l4 - l4 / l6 * l6)), (8, .int (l8 + (1 : Int32)))] [] M Q))))))) :
    P 5 6 [(4, .long l4), (6, .long l6), (8, .int l8)] [] M Q := by
  exact qRun_ok hG (ops := qo_5) (cuts := qc_fr_greatestDivisor) rfl 27 6 _ _ _ _ hV
end VC
/-! what is to be shown, segment by segment: tx (printed by wip/genvc.py) -/
section VC
variable {Ls : Nat} {xs : Nat → Int32} {P : qSem}
def qc_tx_size : List (Nat × List Nat) := []
theorem v_tx_size_0 (hG : qGood Ls xs P) {M : qMem} {Q : qPost}
    (hV : Q (some (.int (M.1 31 1))) M) :
    P 40 0 [(0, .ref 31)] [] M Q := by
  exact qRun_ok hG (ops := qo_40) (cuts := qc_tx_size) rfl 5 0 _ _ _ _ hV
def qc_tx_at : List (Nat × List Nat) := []
theorem v_tx_at_0 (hG : qGood Ls xs P) {l1 : Int32} {M : qMem} {Q : qPost}
    (hV : ((l1 < 0 → Q (some (.int (-1 : Int32))) M) ∧ (¬ (l1 < 0) → (((M.1 31 1) ≤ l1 → Q (some (.int (-1 : Int32))) M) ∧ (¬ ((M.1 31 1) ≤ l1) → ((l1 < (Int32.ofNat 120) → (vp_in l1 120 ∧ Q (some (.int (M.1 32 l1.toNatClampNeg))) M)) ∧ (¬ (l1 < (Int32.ofNat 120)) → Q (some (.int (-1 : Int32))) M))))))) :
    P 41 0 [(0, .ref 31), (1, .int l1)] [] M Q := by
  exact qRun_ok hG (ops := qo_41) (cuts := qc_tx_at) rfl 20 0 _ _ _ _ hV
def qc_tx_append : List (Nat × List Nat) := []
theorem v_tx_append_0 (hG : qGood Ls xs P) {l1 : Int32} {M : qMem} {Q : qPost}
    (hV : (((M.1 31 1) < 0 → Q none M) ∧ (¬ ((M.1 31 1) < 0) → (((Int32.ofNat 120) ≤ (M.1 31 1) → Q none M) ∧ (¬ ((Int32.ofNat 120) ≤ (M.1 31 1)) → (vp_in (M.1 31 1) 120 ∧ Q none (pI (pI M 32 (M.1 31 1).toNatClampNeg l1) 31 1 ((M.1 31 1) + (1 : Int32))))))))) :
    P 42 0 [(0, .ref 31), (1, .int l1)] [] M Q := by
  exact qRun_ok hG (ops := qo_42) (cuts := qc_tx_append) rfl 24 0 _ _ _ _ hV
def qc_tx_empty : List (Nat × List Nat) := []
theorem v_tx_empty_0 (hG : qGood Ls xs P) {M : qMem} {Q : qPost}
    (hV : Q none (pI M 31 1 (0 : Int32))) :
    P 43 0 [(0, .ref 31)] [] M Q := by
  exact qRun_ok hG (ops := qo_43) (cuts := qc_tx_empty) rfl 6 0 _ _ _ _ hV
end VC
/-! what is to be shown, segment by segment: hi (printed by wip/genvc.py) -/
section VC
variable {Ls : Nat} {xs : Nat → Int32} {P : qSem}
def qc_hi_depth : List (Nat × List Nat) := []
theorem v_hi_depth_0 (hG : qGood Ls xs P) {M : qMem} {Q : qPost}
    (hV : Q (some (.int (M.1 6 2))) M) :
    P 6 0 [(0, .ref 6)] [] M Q := by
  exact qRun_ok hG (ops := qo_6) (cuts := qc_hi_depth) rfl 5 0 _ _ _ _ hV
def qc_hi_record : List (Nat × List Nat) := [(22, [0, 1]), (28, [0])]
theorem v_hi_record_0 (hG : qGood Ls xs P) {M : qMem} {Q : qPost}
    (hV : ((¬ (M.1 6 2) = (8 : Int32) → (P 9 0 [(0, .ref 6), (1, .int (M.1 6 2))] [] M (fun v M' => P 7 22 [(0, .ref 6), (1, .ref 1)] (v.toList ++ []) M' Q))) ∧ (¬ (¬ (M.1 6 2) = (8 : Int32)) → (¬ (8 : Int32) = 0 ∧ (P 9 0 [(0, .ref 6), (1, .int ((M.1 6 2) - (1 : Int32)))] [] (pI (pI M 6 1 (((M.1 6 1) + (1 : Int32)) - ((M.1 6 1) + (1 : Int32)) / (8 : Int32) * (8 : Int32))) 6 2 ((M.1 6 2) - (1 : Int32))) (fun v M' => P 7 22 [(0, .ref 6), (1, .ref 1)] (v.toList ++ []) M' Q)))))) :
    P 7 0 [(0, .ref 6), (1, .ref 1)] [] M Q := by
  exact qRun_ok hG (ops := qo_7) (cuts := qc_hi_record) rfl 37 0 _ _ _ _ hV
theorem v_hi_record_22 (hG : qGood Ls xs P) {ks0 : Nat} {M : qMem} {Q : qPost} (hks0 : qRd ks0)
    (hV : (P 25 0 [(0, .ref ks0), (1, .ref 1)] [] M (fun v M' => P 7 28 [(0, .ref 6)] (v.toList ++ []) M' Q))) :
    P 7 22 [(0, .ref 6), (1, .ref 1)] [.ref ks0] M Q := by
  refine qRun_ok hG (ops := qo_7) (cuts := qc_hi_record) rfl 37 22 _ _ _ _ ?_
  have hF : bif Nat.beq (shT ks0) 4 then (P 25 0 [(0, .ref ks0), (1, .ref 1)] [] M (fun v M' => P 7 28 [(0, .ref 6)] (v.toList ++ []) M' Q)) else False := by
    (try rw [hks0.1])
    (try rw [hks0.2.1])
    (try rw [hks0.2.2])
    exact hV
  exact hF
theorem v_hi_record_22n (hG : qGood Ls xs P) {M : qMem} {Q : qPost}
    (hV : Q none M) :
    P 7 22 [(0, .ref 6), (1, .ref 1)] [.null] M Q := by
  exact qRun_ok hG (ops := qo_7) (cuts := qc_hi_record) rfl 37 22 _ _ _ _ hV
theorem v_hi_record_28 (hG : qGood Ls xs P) {M : qMem} {Q : qPost}
    (hV : Q none (pI M 6 2 ((M.1 6 2) + (1 : Int32)))) :
    P 7 28 [(0, .ref 6)] [] M Q := by
  exact qRun_ok hG (ops := qo_7) (cuts := qc_hi_record) rfl 37 28 _ _ _ _ hV
def qc_hi_restore : List (Nat × List Nat) := [(6, [0, 1]), (12, [0])]
theorem v_hi_restore_0 (hG : qGood Ls xs P) {M : qMem} {Q : qPost}
    (hV : (P 9 0 [(0, .ref 6), (1, .int ((M.1 6 2) - (1 : Int32)))] [] M (fun v M' => P 8 6 [(0, .ref 6), (1, .ref 1)] (v.toList ++ []) M' Q))) :
    P 8 0 [(0, .ref 6), (1, .ref 1)] [] M Q := by
  exact qRun_ok hG (ops := qo_8) (cuts := qc_hi_restore) rfl 21 0 _ _ _ _ hV
theorem v_hi_restore_6 (hG : qGood Ls xs P) {ks0 : Nat} {M : qMem} {Q : qPost} (hks0 : qRd ks0)
    (hV : (P 25 0 [(0, .ref 1), (1, .ref ks0)] [] M (fun v M' => P 8 12 [(0, .ref 6)] (v.toList ++ []) M' Q))) :
    P 8 6 [(0, .ref 6), (1, .ref 1)] [.ref ks0] M Q := by
  exact qRun_ok hG (ops := qo_8) (cuts := qc_hi_restore) rfl 21 6 _ _ _ _ hV
theorem v_hi_restore_6n (hG : qGood Ls xs P) {M : qMem} {Q : qPost}
    (hV : Q none M) :
    P 8 6 [(0, .ref 6), (1, .ref 1)] [.null] M Q := by
  exact qRun_ok hG (ops := qo_8) (cuts := qc_hi_restore) rfl 21 6 _ _ _ _ hV
theorem v_hi_restore_12 (hG : qGood Ls xs P) {M : qMem} {Q : qPost}
    (hV : Q none (pI M 6 2 ((M.1 6 2) - (1 : Int32)))) :
    P 8 12 [(0, .ref 6)] [] M Q := by
  exact qRun_ok hG (ops := qo_8) (cuts := qc_hi_restore) rfl 21 12 _ _ _ _ hV
def qc_hi_stateAt : List (Nat × List Nat) := []
theorem v_hi_stateAt_0 (hG : qGood Ls xs P) {l1 : Int32} {M : qMem} {Q : qPost}
    (hV : (¬ (8 : Int32) = 0 ∧ ((l1 < 0 → Q (some (.null)) M) ∧ (¬ (l1 < 0) → (((((M.1 6 1) + l1) - ((M.1 6 1) + l1) / (8 : Int32) * (8 : Int32)) < 0 → Q (some (.null)) M) ∧ (¬ ((((M.1 6 1) + l1) - ((M.1 6 1) + l1) / (8 : Int32) * (8 : Int32)) < 0) → (((((M.1 6 1) + l1) - ((M.1 6 1) + l1) / (8 : Int32) * (8 : Int32)) < (Int32.ofNat 8) → (vp_in (((M.1 6 1) + l1) - ((M.1 6 1) + l1) / (8 : Int32) * (8 : Int32)) 8 ∧ Q (some (.ref (rf 7 (((M.1 6 1) + l1) - ((M.1 6 1) + l1) / (8 : Int32) * (8 : Int32)).toNatClampNeg))) M)) ∧ (¬ ((((M.1 6 1) + l1) - ((M.1 6 1) + l1) / (8 : Int32) * (8 : Int32)) < (Int32.ofNat 8)) → Q (some (.null)) M)))))))) :
    P 9 0 [(0, .ref 6), (1, .int l1)] [] M Q := by
  exact qRun_ok hG (ops := qo_9) (cuts := qc_hi_stateAt) rfl 25 0 _ _ _ _ hV
end VC
/-! what is to be shown, segment by segment: lo (printed by wip/genvc.py) -/
section VC
variable {Ls : Nat} {xs : Nat → Int32} {P : qSem}
def qc_lo_readsAll : List (Nat × List Nat) := [(2, [0, 1, 2]), (7, [0, 1, 2, 3]), (14, [0, 1, 2, 3]), (19, [0, 1, 2, 3])]
theorem v_lo_readsAll_0 (hG : qGood Ls xs P) {M : qMem} {Q : qPost}
    (hV : (P 24 0 [(0, .ref 3)] [] M (fun v M' => P 10 2 [(0, .ref 33), (1, .ref 31), (2, .ref 3)] (v.toList ++ []) M' Q))) :
    P 10 0 [(0, .ref 33), (1, .ref 31), (2, .ref 3)] [] M Q := by
  exact qRun_ok hG (ops := qo_10) (cuts := qc_lo_readsAll) rfl 28 0 _ _ _ _ hV
theorem v_lo_readsAll_2 (hG : qGood Ls xs P) {M : qMem} {Q : qPost}
    (hV : (P 10 7 [(0, .ref 33), (1, .ref 31), (2, .ref 3), (3, .int (0 : Int32))] [] (pI M 33 2 (0 : Int32)) Q)) :
    P 10 2 [(0, .ref 33), (1, .ref 31), (2, .ref 3)] [] M Q := by
  exact qRun_ok hG (ops := qo_10) (cuts := qc_lo_readsAll) rfl 28 2 _ _ _ _ hV
theorem v_lo_readsAll_7 (hG : qGood Ls xs P) {l3 : Int32} {M : qMem} {Q : qPost}
    (hV : (((120 : Int32) ≤ l3 → (narrow .boolean (.int (1 : Int32)) = .int (1 : Int32) ∧ Q (some (.int (1 : Int32))) M)) ∧ (¬ ((120 : Int32) ≤ l3) → (P 40 0 [(0, .ref 31)] [] M (fun v M' => P 10 14 [(0, .ref 33), (1, .ref 31), (2, .ref 3), (3, .int l3)] (v.toList ++ [.int (M.1 33 2)]) M' Q))))) :
    P 10 7 [(0, .ref 33), (1, .ref 31), (2, .ref 3), (3, .int l3)] [] M Q := by
  exact qRun_ok hG (ops := qo_10) (cuts := qc_lo_readsAll) rfl 28 7 _ _ _ _ hV
theorem v_lo_readsAll_14 (hG : qGood Ls xs P) {l3 s0 s1 : Int32} {M : qMem} {Q : qPost}
    (hV : ((s0 ≤ s1 → (narrow .boolean (.int (1 : Int32)) = .int (1 : Int32) ∧ Q (some (.int (1 : Int32))) M)) ∧ (¬ (s0 ≤ s1) → (P 11 0 [(0, .ref 33), (1, .ref 31), (2, .ref 3)] [] M (fun v M' => P 10 19 [(0, .ref 33), (1, .ref 31), (2, .ref 3), (3, .int l3)] (v.toList ++ []) M' Q))))) :
    P 10 14 [(0, .ref 33), (1, .ref 31), (2, .ref 3), (3, .int l3)] [.int s0, .int s1] M Q := by
  exact qRun_ok hG (ops := qo_10) (cuts := qc_lo_readsAll) rfl 28 14 _ _ _ _ hV
theorem v_lo_readsAll_19 (hG : qGood Ls xs P) {l3 s0 : Int32} {M : qMem} {Q : qPost}
    (hV : ((¬ s0 = 0 → (P 10 7 [(0, .ref 33), (1, .ref 31), (2, .ref 3), (3, .int (l3 + (1 : Int32)))] [] M Q)) ∧ (¬ (¬ s0 = 0) → (narrow .boolean (.int (0 : Int32)) = .int (0 : Int32) ∧ Q (some (.int (0 : Int32))) M)))) :
    P 10 19 [(0, .ref 33), (1, .ref 31), (2, .ref 3), (3, .int l3)] [.int s0] M Q := by
  exact qRun_ok hG (ops := qo_10) (cuts := qc_lo_readsAll) rfl 28 19 _ _ _ _ hV
def qc_lo_readsItem : List (Nat × List Nat) := [(6, [0, 1, 2, 3]), (10, [0, 1, 2, 3]), (17, [0, 2, 3]), (24, []), (33, [0, 2, 3]), (42, []), (49, [])]
set_option maxRecDepth 100000 in
theorem v_lo_readsItem_0 (hG : qGood Ls xs P) {M : qMem} {Q : qPost}
    (hV : (P 12 0 [(0, .ref 33), (1, .ref 31)] [] M (fun v M' => P 11 6 [(0, .ref 33), (1, .ref 31), (2, .ref 3), (3, .int (M.1 33 2))] (v.toList ++ []) M' Q))) :
    P 11 0 [(0, .ref 33), (1, .ref 31), (2, .ref 3)] [] M Q := by
  exact qRun_ok hG (ops := qo_11) (cuts := qc_lo_readsItem) rfl 53 0 _ _ _ _ hV
set_option maxRecDepth 100000 in
theorem v_lo_readsItem_6 (hG : qGood Ls xs P) {l3 s0 : Int32} {M : qMem} {Q : qPost}
    (hV : ((s0 = 0 → (narrow .boolean (.int (0 : Int32)) = .int (0 : Int32) ∧ Q (some (.int (0 : Int32))) M)) ∧ (¬ (s0 = 0) → (P 13 0 [(0, .ref 33), (1, .ref 31)] [] M (fun v M' => P 11 10 [(0, .ref 33), (1, .ref 31), (2, .ref 3), (3, .int l3)] (v.toList ++ []) M' Q))))) :
    P 11 6 [(0, .ref 33), (1, .ref 31), (2, .ref 3), (3, .int l3)] [.int s0] M Q := by
  exact qRun_ok hG (ops := qo_11) (cuts := qc_lo_readsItem) rfl 53 6 _ _ _ _ hV
set_option maxRecDepth 100000 in
theorem v_lo_readsItem_10 (hG : qGood Ls xs P) {l3 s0 : Int32} {M : qMem} {Q : qPost}
    (hV : ((¬ s0 = 0 → (P 41 0 [(0, .ref 31), (1, .int (M.1 33 2))] [] M (fun v M' => P 11 17 [(0, .ref 33), (2, .ref 3), (3, .int l3)] (v.toList ++ []) M' Q))) ∧ (¬ (¬ s0 = 0) → (narrow .boolean (.int (0 : Int32)) = .int (0 : Int32) ∧ Q (some (.int (0 : Int32))) M)))) :
    P 11 10 [(0, .ref 33), (1, .ref 31), (2, .ref 3), (3, .int l3)] [.int s0] M Q := by
  exact qRun_ok hG (ops := qo_11) (cuts := qc_lo_readsItem) rfl 53 10 _ _ _ _ hV
set_option maxRecDepth 100000 in
theorem v_lo_readsItem_17 (hG : qGood Ls xs P) {l3 s0 : Int32} {M : qMem} {Q : qPost}
    (hV : ((s0 = (59 : Int32) → (P 17 0 [(0, .ref 3)] [] (pI M 33 2 ((M.1 33 2) + (1 : Int32))) (fun v M' => P 11 33 [(0, .ref 33), (2, .ref 3), (3, .int l3)] (v.toList ++ []) M' Q))) ∧ (¬ (s0 = (59 : Int32)) → (P 16 0 [(0, .ref 33), (1, .int (1 : Int32)), (2, .int (M.1 33 2))] [] M (fun v M' => P 11 24 [] (v.toList ++ []) M' Q))))) :
    P 11 17 [(0, .ref 33), (2, .ref 3), (3, .int l3)] [.int s0] M Q := by
  exact qRun_ok hG (ops := qo_11) (cuts := qc_lo_readsItem) rfl 53 17 _ _ _ _ hV
set_option maxRecDepth 100000 in
theorem v_lo_readsItem_33 (hG : qGood Ls xs P) {l3 s0 : Int32} {M : qMem} {Q : qPost}
    (hV : (((s0 + (M.1 33 4)) ≤ (64 : Int32) → (P 23 0 [(0, .ref 3), (1, .int (M.1 33 3)), (2, .int (M.1 33 4))] [] M (fun v M' => P 11 49 [] (v.toList ++ []) M' Q))) ∧ (¬ ((s0 + (M.1 33 4)) ≤ (64 : Int32)) → (P 16 0 [(0, .ref 33), (1, .int (3 : Int32)), (2, .int l3)] [] M (fun v M' => P 11 42 [] (v.toList ++ []) M' Q))))) :
    P 11 33 [(0, .ref 33), (2, .ref 3), (3, .int l3)] [.int s0] M Q := by
  exact qRun_ok hG (ops := qo_11) (cuts := qc_lo_readsItem) rfl 53 33 _ _ _ _ hV
set_option maxRecDepth 100000 in
theorem v_lo_readsItem_24 (hG : qGood Ls xs P) {s0 : Int32} {M : qMem} {Q : qPost}
    (hV : (narrow .boolean (.int s0) = .int s0 ∧ Q (some (.int s0)) M)) :
    P 11 24 [] [.int s0] M Q := by
  exact qRun_ok hG (ops := qo_11) (cuts := qc_lo_readsItem) rfl 53 24 _ _ _ _ hV
set_option maxRecDepth 100000 in
theorem v_lo_readsItem_49 (hG : qGood Ls xs P) {M : qMem} {Q : qPost}
    (hV : (narrow .boolean (.int (1 : Int32)) = .int (1 : Int32) ∧ Q (some (.int (1 : Int32))) M)) :
    P 11 49 [] [] M Q := by
  exact qRun_ok hG (ops := qo_11) (cuts := qc_lo_readsItem) rfl 53 49 _ _ _ _ hV
set_option maxRecDepth 100000 in
theorem v_lo_readsItem_42 (hG : qGood Ls xs P) {s0 : Int32} {M : qMem} {Q : qPost}
    (hV : (narrow .boolean (.int s0) = .int s0 ∧ Q (some (.int s0)) M)) :
    P 11 42 [] [.int s0] M Q := by
  exact qRun_ok hG (ops := qo_11) (cuts := qc_lo_readsItem) rfl 53 42 _ _ _ _ hV
def qc_lo_readsPhase : List (Nat × List Nat) := [(7, [0, 1]), (21, [0, 1]), (39, [0, 1, 2]), (40, [0, 1, 2]), (46, []), (51, [0, 2])]
set_option maxRecDepth 100000 in
theorem v_lo_readsPhase_0 (hG : qGood Ls xs P) {M : qMem} {Q : qPost}
    (hV : (P 41 0 [(0, .ref 31), (1, .int (M.1 33 2))] [] (pI M 33 3 (-1000000001 : Int32)) (fun v M' => P 12 7 [(0, .ref 33), (1, .ref 31)] (v.toList ++ []) M' Q))) :
    P 12 0 [(0, .ref 33), (1, .ref 31)] [] M Q := by
  exact qRun_ok hG (ops := qo_12) (cuts := qc_lo_readsPhase) rfl 64 0 _ _ _ _ hV
set_option maxRecDepth 100000 in
theorem v_lo_readsPhase_7 (hG : qGood Ls xs P) {s0 : Int32} {M : qMem} {Q : qPost}
    (hV : ((¬ s0 = (63 : Int32) → (P 41 0 [(0, .ref 31), (1, .int (M.1 33 2))] [] M (fun v M' => P 12 21 [(0, .ref 33), (1, .ref 31)] (v.toList ++ []) M' Q))) ∧ (¬ (¬ s0 = (63 : Int32)) → (narrow .boolean (.int (1 : Int32)) = .int (1 : Int32) ∧ Q (some (.int (1 : Int32))) (pI M 33 2 ((M.1 33 2) + (1 : Int32))))))) :
    P 12 7 [(0, .ref 33), (1, .ref 31)] [.int s0] M Q := by
  exact qRun_ok hG (ops := qo_12) (cuts := qc_lo_readsPhase) rfl 64 7 _ _ _ _ hV
set_option maxRecDepth 100000 in
theorem v_lo_readsPhase_21 (hG : qGood Ls xs P) {s0 : Int32} {M : qMem} {Q : qPost}
    (hV : ((¬ s0 = (45 : Int32) → (((0 : Int32) = 0 → (P 41 0 [(0, .ref 31), (1, .int (M.1 33 2))] [] M (fun v M' => P 12 39 [(0, .ref 33), (1, .ref 31), (2, .int (0 : Int32))] (v.toList ++ []) M' Q))) ∧ (¬ ((0 : Int32) = 0) → (P 41 0 [(0, .ref 31), (1, .int ((M.1 33 2) + (1 : Int32)))] [] (pI M 33 2 ((M.1 33 2) + (1 : Int32))) (fun v M' => P 12 39 [(0, .ref 33), (1, .ref 31), (2, .int (0 : Int32))] (v.toList ++ []) M' Q))))) ∧ (¬ (¬ s0 = (45 : Int32)) → (((1 : Int32) = 0 → (P 41 0 [(0, .ref 31), (1, .int (M.1 33 2))] [] M (fun v M' => P 12 39 [(0, .ref 33), (1, .ref 31), (2, .int (1 : Int32))] (v.toList ++ []) M' Q))) ∧ (¬ ((1 : Int32) = 0) → (P 41 0 [(0, .ref 31), (1, .int ((M.1 33 2) + (1 : Int32)))] [] (pI M 33 2 ((M.1 33 2) + (1 : Int32))) (fun v M' => P 12 39 [(0, .ref 33), (1, .ref 31), (2, .int (1 : Int32))] (v.toList ++ []) M' Q))))))) :
    P 12 21 [(0, .ref 33), (1, .ref 31)] [.int s0] M Q := by
  exact qRun_ok hG (ops := qo_12) (cuts := qc_lo_readsPhase) rfl 64 21 _ _ _ _ hV
set_option maxRecDepth 100000 in
theorem v_lo_readsPhase_39 (hG : qGood Ls xs P) {l2 s0 : Int32} {M : qMem} {Q : qPost}
    (hV : (P 15 0 [(0, .int s0)] [] M (fun v M' => P 12 40 [(0, .ref 33), (1, .ref 31), (2, .int l2)] (v.toList ++ []) M' Q))) :
    P 12 39 [(0, .ref 33), (1, .ref 31), (2, .int l2)] [.int s0] M Q := by
  exact qRun_ok hG (ops := qo_12) (cuts := qc_lo_readsPhase) rfl 64 39 _ _ _ _ hV
set_option maxRecDepth 100000 in
theorem v_lo_readsPhase_40 (hG : qGood Ls xs P) {l2 s0 : Int32} {M : qMem} {Q : qPost}
    (hV : ((¬ s0 = 0 → (P 14 0 [(0, .ref 33), (1, .ref 31), (2, .int (5 : Int32))] [] M (fun v M' => P 12 51 [(0, .ref 33), (2, .int l2)] (v.toList ++ []) M' Q))) ∧ (¬ (¬ s0 = 0) → (P 16 0 [(0, .ref 33), (1, .int (1 : Int32)), (2, .int (M.1 33 2))] [] M (fun v M' => P 12 46 [] (v.toList ++ []) M' Q))))) :
    P 12 40 [(0, .ref 33), (1, .ref 31), (2, .int l2)] [.int s0] M Q := by
  exact qRun_ok hG (ops := qo_12) (cuts := qc_lo_readsPhase) rfl 64 40 _ _ _ _ hV
set_option maxRecDepth 100000 in
theorem v_lo_readsPhase_51 (hG : qGood Ls xs P) {l2 s0 : Int32} {M : qMem} {Q : qPost}
    (hV : ((l2 = 0 → (narrow .boolean (.int (1 : Int32)) = .int (1 : Int32) ∧ Q (some (.int (1 : Int32))) (pI M 33 3 s0))) ∧ (¬ (l2 = 0) → (narrow .boolean (.int (1 : Int32)) = .int (1 : Int32) ∧ Q (some (.int (1 : Int32))) (pI M 33 3 (-s0)))))) :
    P 12 51 [(0, .ref 33), (2, .int l2)] [.int s0] M Q := by
  exact qRun_ok hG (ops := qo_12) (cuts := qc_lo_readsPhase) rfl 64 51 _ _ _ _ hV
set_option maxRecDepth 100000 in
theorem v_lo_readsPhase_46 (hG : qGood Ls xs P) {s0 : Int32} {M : qMem} {Q : qPost}
    (hV : (narrow .boolean (.int s0) = .int s0 ∧ Q (some (.int s0)) M)) :
    P 12 46 [] [.int s0] M Q := by
  exact qRun_ok hG (ops := qo_12) (cuts := qc_lo_readsPhase) rfl 64 46 _ _ _ _ hV
def qc_lo_readsTimes : List (Nat × List Nat) := [(7, [0, 1]), (24, [0, 1, 2]), (25, [0, 1, 2]), (31, []), (37, [0, 2]), (50, [])]
set_option maxRecDepth 100000 in
theorem v_lo_readsTimes_0 (hG : qGood Ls xs P) {M : qMem} {Q : qPost}
    (hV : (P 41 0 [(0, .ref 31), (1, .int (M.1 33 2))] [] (pI M 33 4 (1 : Int32)) (fun v M' => P 13 7 [(0, .ref 33), (1, .ref 31)] (v.toList ++ []) M' Q))) :
    P 13 0 [(0, .ref 33), (1, .ref 31)] [] M Q := by
  exact qRun_ok hG (ops := qo_13) (cuts := qc_lo_readsTimes) rfl 55 0 _ _ _ _ hV
set_option maxRecDepth 100000 in
theorem v_lo_readsTimes_7 (hG : qGood Ls xs P) {s0 : Int32} {M : qMem} {Q : qPost}
    (hV : ((s0 = (42 : Int32) → (P 41 0 [(0, .ref 31), (1, .int ((M.1 33 2) + (1 : Int32)))] [] (pI M 33 2 ((M.1 33 2) + (1 : Int32))) (fun v M' => P 13 24 [(0, .ref 33), (1, .ref 31), (2, .int ((M.1 33 2) + (1 : Int32)))] (v.toList ++ []) M' Q))) ∧ (¬ (s0 = (42 : Int32)) → (narrow .boolean (.int (1 : Int32)) = .int (1 : Int32) ∧ Q (some (.int (1 : Int32))) M)))) :
    P 13 7 [(0, .ref 33), (1, .ref 31)] [.int s0] M Q := by
  exact qRun_ok hG (ops := qo_13) (cuts := qc_lo_readsTimes) rfl 55 7 _ _ _ _ hV
set_option maxRecDepth 100000 in
theorem v_lo_readsTimes_24 (hG : qGood Ls xs P) {l2 s0 : Int32} {M : qMem} {Q : qPost}
    (hV : (P 15 0 [(0, .int s0)] [] M (fun v M' => P 13 25 [(0, .ref 33), (1, .ref 31), (2, .int l2)] (v.toList ++ []) M' Q))) :
    P 13 24 [(0, .ref 33), (1, .ref 31), (2, .int l2)] [.int s0] M Q := by
  exact qRun_ok hG (ops := qo_13) (cuts := qc_lo_readsTimes) rfl 55 24 _ _ _ _ hV
set_option maxRecDepth 100000 in
theorem v_lo_readsTimes_25 (hG : qGood Ls xs P) {l2 s0 : Int32} {M : qMem} {Q : qPost}
    (hV : ((¬ s0 = 0 → (P 14 0 [(0, .ref 33), (1, .ref 31), (2, .int (2 : Int32))] [] M (fun v M' => P 13 37 [(0, .ref 33), (2, .int l2)] (v.toList ++ [.ref 33]) M' Q))) ∧ (¬ (¬ s0 = 0) → (P 16 0 [(0, .ref 33), (1, .int (1 : Int32)), (2, .int (M.1 33 2))] [] M (fun v M' => P 13 31 [] (v.toList ++ []) M' Q))))) :
    P 13 25 [(0, .ref 33), (1, .ref 31), (2, .int l2)] [.int s0] M Q := by
  exact qRun_ok hG (ops := qo_13) (cuts := qc_lo_readsTimes) rfl 55 25 _ _ _ _ hV
set_option maxRecDepth 100000 in
theorem v_lo_readsTimes_37 (hG : qGood Ls xs P) {l2 s0 : Int32} {M : qMem} {Q : qPost}
    (hV : ((s0 < (1 : Int32) → (P 16 0 [(0, .ref 33), (1, .int (2 : Int32)), (2, .int l2)] [] (pI M 33 4 s0) (fun v M' => P 13 50 [] (v.toList ++ []) M' Q))) ∧ (¬ (s0 < (1 : Int32)) → ((s0 ≤ (64 : Int32) → (narrow .boolean (.int (1 : Int32)) = .int (1 : Int32) ∧ Q (some (.int (1 : Int32))) (pI M 33 4 s0))) ∧ (¬ (s0 ≤ (64 : Int32)) → (P 16 0 [(0, .ref 33), (1, .int (2 : Int32)), (2, .int l2)] [] (pI M 33 4 s0) (fun v M' => P 13 50 [] (v.toList ++ []) M' Q))))))) :
    P 13 37 [(0, .ref 33), (2, .int l2)] [.int s0, .ref 33] M Q := by
  exact qRun_ok hG (ops := qo_13) (cuts := qc_lo_readsTimes) rfl 55 37 _ _ _ _ hV
set_option maxRecDepth 100000 in
theorem v_lo_readsTimes_31 (hG : qGood Ls xs P) {s0 : Int32} {M : qMem} {Q : qPost}
    (hV : (narrow .boolean (.int s0) = .int s0 ∧ Q (some (.int s0)) M)) :
    P 13 31 [] [.int s0] M Q := by
  exact qRun_ok hG (ops := qo_13) (cuts := qc_lo_readsTimes) rfl 55 31 _ _ _ _ hV
set_option maxRecDepth 100000 in
theorem v_lo_readsTimes_50 (hG : qGood Ls xs P) {s0 : Int32} {M : qMem} {Q : qPost}
    (hV : (narrow .boolean (.int s0) = .int s0 ∧ Q (some (.int s0)) M)) :
    P 13 50 [] [.int s0] M Q := by
  exact qRun_ok hG (ops := qo_13) (cuts := qc_lo_readsTimes) rfl 55 50 _ _ _ _ hV
def qc_lo_readNumber : List (Nat × List Nat) := [(4, [0, 1, 2, 3, 4]), (11, [0, 1, 2, 3, 4]), (12, [0, 1, 2, 3, 4]), (20, [0, 1, 2, 4])]
theorem v_lo_readNumber_0 (hG : qGood Ls xs P) {l2 : Int32} {M : qMem} {Q : qPost}
    (hV : (P 14 4 [(0, .ref 33), (1, .ref 31), (2, .int l2), (3, .int (0 : Int32)), (4, .int (0 : Int32))] [] M Q)) :
    P 14 0 [(0, .ref 33), (1, .ref 31), (2, .int l2)] [] M Q := by
  exact qRun_ok hG (ops := qo_14) (cuts := qc_lo_readNumber) rfl 36 0 _ _ _ _ hV
theorem v_lo_readNumber_4 (hG : qGood Ls xs P) {l2 l3 l4 : Int32} {M : qMem} {Q : qPost}
    (hV : ((l2 ≤ l4 → Q (some (.int l3)) M) ∧ (¬ (l2 ≤ l4) → (P 41 0 [(0, .ref 31), (1, .int (M.1 33 2))] [] M (fun v M' => P 14 11 [(0, .ref 33), (1, .ref 31), (2, .int l2), (3, .int l3), (4, .int l4)] (v.toList ++ []) M' Q))))) :
    P 14 4 [(0, .ref 33), (1, .ref 31), (2, .int l2), (3, .int l3), (4, .int l4)] [] M Q := by
  exact qRun_ok hG (ops := qo_14) (cuts := qc_lo_readNumber) rfl 36 4 _ _ _ _ hV
theorem v_lo_readNumber_11 (hG : qGood Ls xs P) {l2 l3 l4 s0 : Int32} {M : qMem} {Q : qPost}
    (hV : (P 15 0 [(0, .int s0)] [] M (fun v M' => P 14 12 [(0, .ref 33), (1, .ref 31), (2, .int l2), (3, .int l3), (4, .int l4)] (v.toList ++ []) M' Q))) :
    P 14 11 [(0, .ref 33), (1, .ref 31), (2, .int l2), (3, .int l3), (4, .int l4)] [.int s0] M Q := by
  exact qRun_ok hG (ops := qo_14) (cuts := qc_lo_readNumber) rfl 36 11 _ _ _ _ hV
theorem v_lo_readNumber_12 (hG : qGood Ls xs P) {l2 l3 l4 s0 : Int32} {M : qMem} {Q : qPost}
    (hV : ((s0 = 0 → Q (some (.int l3)) M) ∧ (¬ (s0 = 0) → (P 41 0 [(0, .ref 31), (1, .int (M.1 33 2))] [] M (fun v M' => P 14 20 [(0, .ref 33), (1, .ref 31), (2, .int l2), (4, .int l4)] (v.toList ++ [.int ((10 : Int32) * l3)]) M' Q))))) :
    P 14 12 [(0, .ref 33), (1, .ref 31), (2, .int l2), (3, .int l3), (4, .int l4)] [.int s0] M Q := by
  exact qRun_ok hG (ops := qo_14) (cuts := qc_lo_readNumber) rfl 36 12 _ _ _ _ hV
theorem v_lo_readNumber_20 (hG : qGood Ls xs P) {l2 l4 s0 s1 : Int32} {M : qMem} {Q : qPost}
    (hV : (P 14 4 [(0, .ref 33), (1, .ref 31), (2, .int l2), (3, .int (s1 + (s0 - (48 : Int32)))), (4, .int (l4 + (1 : Int32)))] [] (pI M 33 2 ((M.1 33 2) + (1 : Int32))) Q)) :
    P 14 20 [(0, .ref 33), (1, .ref 31), (2, .int l2), (4, .int l4)] [.int s0, .int s1] M Q := by
  exact qRun_ok hG (ops := qo_14) (cuts := qc_lo_readNumber) rfl 36 20 _ _ _ _ hV
def qc_lo_isDigit : List (Nat × List Nat) := []
theorem v_lo_isDigit_0 (hG : qGood Ls xs P) {l0 : Int32} {M : qMem} {Q : qPost}
    (hV : ((l0 < (48 : Int32) → (narrow .boolean (.int (0 : Int32)) = .int (0 : Int32) ∧ Q (some (.int (0 : Int32))) M)) ∧ (¬ (l0 < (48 : Int32)) → (((57 : Int32) < l0 → (narrow .boolean (.int (0 : Int32)) = .int (0 : Int32) ∧ Q (some (.int (0 : Int32))) M)) ∧ (¬ ((57 : Int32) < l0) → (narrow .boolean (.int (1 : Int32)) = .int (1 : Int32) ∧ Q (some (.int (1 : Int32))) M)))))) :
    P 15 0 [(0, .int l0)] [] M Q := by
  exact qRun_ok hG (ops := qo_15) (cuts := qc_lo_isDigit) rfl 12 0 _ _ _ _ hV
def qc_lo_refuses : List (Nat × List Nat) := []
theorem v_lo_refuses_0 (hG : qGood Ls xs P) {l1 l2 : Int32} {M : qMem} {Q : qPost}
    (hV : (narrow .boolean (.int (0 : Int32)) = .int (0 : Int32) ∧ Q (some (.int (0 : Int32))) (pI (pI M 33 0 l1) 33 1 l2))) :
    P 16 0 [(0, .ref 33), (1, .int l1), (2, .int l2)] [] M Q := by
  exact qRun_ok hG (ops := qo_16) (cuts := qc_lo_refuses) rfl 10 0 _ _ _ _ hV
end VC
/-! what is to be shown, segment by segment: math (printed by wip/genvc.py) -/
section VC
variable {Ls : Nat} {xs : Nat → Int32} {P : qSem}
def qc_math_floorDiv : List (Nat × List Nat) := []
theorem v_math_floorDiv_0 (hG : qGood Ls xs P) {l0 l2 : Int64} {M : qMem} {Q : qPost}
    (hV : (¬ l2 = 0 ∧ ((0 ≤ (lg_cmp (l0 ^^^ l2) (0 : Int64)) → Q (some (.long (l0 / l2))) M) ∧ (¬ (0 ≤ (lg_cmp (l0 ^^^ l2) (0 : Int64))) → (((lg_cmp ((l0 / l2) * l2) l0) = 0 → Q (some (.long (l0 / l2))) M) ∧ (¬ ((lg_cmp ((l0 / l2) * l2) l0) = 0) → Q (some (.long ((l0 / l2) - (1 : Int64)))) M)))))) :
    P 153 0 [(0, .long l0), (2, .long l2)] [] M Q := by
  exact qRun_ok hG (ops := qo_153) (cuts := qc_math_floorDiv) rfl 24 0 _ _ _ _ hV
def qc_math_max : List (Nat × List Nat) := []
theorem v_math_max_0 (hG : qGood Ls xs P) {l0 l1 : Int32} {M : qMem} {Q : qPost}
    (hV : ((l0 < l1 → Q (some (.int l1)) M) ∧ (¬ (l0 < l1) → Q (some (.int l0)) M))) :
    P 154 0 [(0, .int l0), (1, .int l1)] [] M Q := by
  exact qRun_ok hG (ops := qo_154) (cuts := qc_math_max) rfl 9 0 _ _ _ _ hV
end VC
/-! what is to be shown, segment by segment: long (printed by wip/genvc.py) -/
section VC
variable {Ls : Nat} {xs : Nat → Int32} {P : qSem}
def qc_long_compare : List (Nat × List Nat) := []
theorem v_long_compare_0 (hG : qGood Ls xs P) {l0 l2 : Int64} {M : qMem} {Q : qPost}
    (hV : ((0 ≤ (lg_cmp l0 l2) → ((¬ (lg_cmp l0 l2) = 0 → Q (some (.int (1 : Int32))) M) ∧ (¬ (¬ (lg_cmp l0 l2) = 0) → Q (some (.int (0 : Int32))) M))) ∧ (¬ (0 ≤ (lg_cmp l0 l2)) → Q (some (.int (-1 : Int32))) M))) :
    P 152 0 [(0, .long l0), (2, .long l2)] [] M Q := by
  exact qRun_ok hG (ops := qo_152) (cuts := qc_long_compare) rfl 16 0 _ _ _ _ hV
end VC
end
section
/-! what is to be shown, segment by segment: sa (printed by wip/genvc.py) -/
section VC
variable {Ls : Nat} {xs : Nat → Int32} {P : qSem}
def qc_sa_add : List (Nat × List Nat) := [(3, [0, 1]), (9, [0, 1]), (18, [0, 1]), (22, [0]), (25, [])]
theorem v_sa_add_0 (hG : qGood Ls xs P) {l1 : Int32} {M : qMem} {Q : qPost}
    (hV : (P 72 0 [(0, .long l1.toInt64)] [] M (fun v M' => P 44 3 [(0, .ref 0), (1, .int l1)] (v.toList ++ []) M' Q))) :
    P 44 0 [(0, .ref 0), (1, .int l1)] [] M Q := by
  exact qRun_ok hG (ops := qo_44) (cuts := qc_sa_add) rfl 30 0 _ _ _ _ hV
theorem v_sa_add_3 (hG : qGood Ls xs P) {l1 s0 : Int32} {M : qMem} {Q : qPost}
    (hV : ((¬ s0 = 0 → (P 17 0 [(0, .ref 1)] [] M (fun v M' => P 44 9 [(0, .ref 0), (1, .int l1)] (v.toList ++ []) M' Q))) ∧ (¬ (¬ s0 = 0) → Q (some (.int (-1000000002 : Int32))) M))) :
    P 44 3 [(0, .ref 0), (1, .int l1)] [.int s0] M Q := by
  exact qRun_ok hG (ops := qo_44) (cuts := qc_sa_add) rfl 30 3 _ _ _ _ hV
theorem v_sa_add_9 (hG : qGood Ls xs P) {l1 s0 : Int32} {M : qMem} {Q : qPost}
    (hV : ((s0 < (64 : Int32) → (P 7 0 [(0, .ref 6), (1, .ref 1)] [] M (fun v M' => P 44 18 [(0, .ref 0), (1, .int l1)] (v.toList ++ []) M' Q))) ∧ (¬ (s0 < (64 : Int32)) → Q (some (.int (-1000000004 : Int32))) M))) :
    P 44 9 [(0, .ref 0), (1, .int l1)] [.int s0] M Q := by
  exact qRun_ok hG (ops := qo_44) (cuts := qc_sa_add) rfl 30 9 _ _ _ _ hV
theorem v_sa_add_18 (hG : qGood Ls xs P) {l1 : Int32} {M : qMem} {Q : qPost}
    (hV : (P 22 0 [(0, .ref 1), (1, .int l1)] [] M (fun v M' => P 44 22 [(0, .ref 0)] (v.toList ++ []) M' Q))) :
    P 44 18 [(0, .ref 0), (1, .int l1)] [] M Q := by
  exact qRun_ok hG (ops := qo_44) (cuts := qc_sa_add) rfl 30 18 _ _ _ _ hV
theorem v_sa_add_22 (hG : qGood Ls xs P) {M : qMem} {Q : qPost}
    (hV : (P 17 0 [(0, .ref 1)] [] M (fun v M' => P 44 25 [] (v.toList ++ []) M' Q))) :
    P 44 22 [(0, .ref 0)] [] M Q := by
  exact qRun_ok hG (ops := qo_44) (cuts := qc_sa_add) rfl 30 22 _ _ _ _ hV
theorem v_sa_add_25 (hG : qGood Ls xs P) {s0 : Int32} {M : qMem} {Q : qPost}
    (hV : Q (some (.int (s0 - (1 : Int32)))) M) :
    P 44 25 [] [.int s0] M Q := by
  exact qRun_ok hG (ops := qo_44) (cuts := qc_sa_add) rfl 30 25 _ _ _ _ hV
def qc_sa_skip : List (Nat × List Nat) := [(11, [0, 1]), (22, [0, 1]), (27, [0]), (30, [])]
theorem v_sa_skip_0 (hG : qGood Ls xs P) {l1 : Int32} {M : qMem} {Q : qPost}
    (hV : ((l1 < (1 : Int32) → Q (some (.int (-1000000002 : Int32))) M) ∧ (¬ (l1 < (1 : Int32)) → ((l1 ≤ (64 : Int32) → (P 17 0 [(0, .ref 1)] [] M (fun v M' => P 45 11 [(0, .ref 0), (1, .int l1)] (v.toList ++ []) M' Q))) ∧ (¬ (l1 ≤ (64 : Int32)) → Q (some (.int (-1000000002 : Int32))) M))))) :
    P 45 0 [(0, .ref 0), (1, .int l1)] [] M Q := by
  exact qRun_ok hG (ops := qo_45) (cuts := qc_sa_skip) rfl 33 0 _ _ _ _ hV
theorem v_sa_skip_11 (hG : qGood Ls xs P) {l1 s0 : Int32} {M : qMem} {Q : qPost}
    (hV : (((s0 + l1) ≤ (64 : Int32) → (P 7 0 [(0, .ref 6), (1, .ref 1)] [] M (fun v M' => P 45 22 [(0, .ref 0), (1, .int l1)] (v.toList ++ []) M' Q))) ∧ (¬ ((s0 + l1) ≤ (64 : Int32)) → Q (some (.int (-1000000004 : Int32))) M))) :
    P 45 11 [(0, .ref 0), (1, .int l1)] [.int s0] M Q := by
  exact qRun_ok hG (ops := qo_45) (cuts := qc_sa_skip) rfl 33 11 _ _ _ _ hV
theorem v_sa_skip_22 (hG : qGood Ls xs P) {l1 : Int32} {M : qMem} {Q : qPost}
    (hV : (P 23 0 [(0, .ref 1), (1, .int (-1000000001 : Int32)), (2, .int l1)] [] M (fun v M' => P 45 27 [(0, .ref 0)] (v.toList ++ []) M' Q))) :
    P 45 22 [(0, .ref 0), (1, .int l1)] [] M Q := by
  exact qRun_ok hG (ops := qo_45) (cuts := qc_sa_skip) rfl 33 22 _ _ _ _ hV
theorem v_sa_skip_27 (hG : qGood Ls xs P) {M : qMem} {Q : qPost}
    (hV : (P 17 0 [(0, .ref 1)] [] M (fun v M' => P 45 30 [] (v.toList ++ []) M' Q))) :
    P 45 27 [(0, .ref 0)] [] M Q := by
  exact qRun_ok hG (ops := qo_45) (cuts := qc_sa_skip) rfl 33 27 _ _ _ _ hV
theorem v_sa_skip_30 (hG : qGood Ls xs P) {s0 : Int32} {M : qMem} {Q : qPost}
    (hV : Q (some (.int s0)) M) :
    P 45 30 [] [.int s0] M Q := by
  exact qRun_ok hG (ops := qo_45) (cuts := qc_sa_skip) rfl 33 30 _ _ _ _ hV
def qc_sa_set : List (Nat × List Nat) := [(4, [0, 1, 2]), (11, [0, 1, 2]), (18, [0, 1, 2]), (24, [0, 1, 2, 3]), (29, [3])]
theorem v_sa_set_0 (hG : qGood Ls xs P) {l1 l2 : Int32} {M : qMem} {Q : qPost}
    (hV : (P 18 0 [(0, .ref 1), (1, .int l1)] [] M (fun v M' => P 46 4 [(0, .ref 0), (1, .int l1), (2, .int l2)] (v.toList ++ []) M' Q))) :
    P 46 0 [(0, .ref 0), (1, .int l1), (2, .int l2)] [] M Q := by
  exact qRun_ok hG (ops := qo_46) (cuts := qc_sa_set) rfl 33 0 _ _ _ _ hV
theorem v_sa_set_4 (hG : qGood Ls xs P) {l1 l2 s0 : Int32} {M : qMem} {Q : qPost}
    (hV : ((s0 = 0 → Q (some (.int (-1000000002 : Int32))) M) ∧ (¬ (s0 = 0) → ((l2 = (-1000000001 : Int32) → (P 20 0 [(0, .ref 1), (1, .int l1)] [] M (fun v M' => P 46 18 [(0, .ref 0), (1, .int l1), (2, .int l2)] (v.toList ++ []) M' Q))) ∧ (¬ (l2 = (-1000000001 : Int32)) → (P 72 0 [(0, .long l2.toInt64)] [] M (fun v M' => P 46 11 [(0, .ref 0), (1, .int l1), (2, .int l2)] (v.toList ++ []) M' Q))))))) :
    P 46 4 [(0, .ref 0), (1, .int l1), (2, .int l2)] [.int s0] M Q := by
  exact qRun_ok hG (ops := qo_46) (cuts := qc_sa_set) rfl 33 4 _ _ _ _ hV
theorem v_sa_set_18 (hG : qGood Ls xs P) {l1 l2 s0 : Int32} {M : qMem} {Q : qPost}
    (hV : (P 7 0 [(0, .ref 6), (1, .ref 1)] [] M (fun v M' => P 46 24 [(0, .ref 0), (1, .int l1), (2, .int l2), (3, .int s0)] (v.toList ++ []) M' Q))) :
    P 46 18 [(0, .ref 0), (1, .int l1), (2, .int l2)] [.int s0] M Q := by
  exact qRun_ok hG (ops := qo_46) (cuts := qc_sa_set) rfl 33 18 _ _ _ _ hV
theorem v_sa_set_11 (hG : qGood Ls xs P) {l1 l2 s0 : Int32} {M : qMem} {Q : qPost}
    (hV : ((¬ s0 = 0 → (P 20 0 [(0, .ref 1), (1, .int l1)] [] M (fun v M' => P 46 18 [(0, .ref 0), (1, .int l1), (2, .int l2)] (v.toList ++ []) M' Q))) ∧ (¬ (¬ s0 = 0) → Q (some (.int (-1000000002 : Int32))) M))) :
    P 46 11 [(0, .ref 0), (1, .int l1), (2, .int l2)] [.int s0] M Q := by
  exact qRun_ok hG (ops := qo_46) (cuts := qc_sa_set) rfl 33 11 _ _ _ _ hV
theorem v_sa_set_24 (hG : qGood Ls xs P) {l1 l2 l3 : Int32} {M : qMem} {Q : qPost}
    (hV : (P 21 0 [(0, .ref 1), (1, .int l1), (2, .int l2)] [] M (fun v M' => P 46 29 [(3, .int l3)] (v.toList ++ []) M' Q))) :
    P 46 24 [(0, .ref 0), (1, .int l1), (2, .int l2), (3, .int l3)] [] M Q := by
  exact qRun_ok hG (ops := qo_46) (cuts := qc_sa_set) rfl 33 24 _ _ _ _ hV
theorem v_sa_set_29 (hG : qGood Ls xs P) {l3 : Int32} {M : qMem} {Q : qPost}
    (hV : Q (some (.int l3)) M) :
    P 46 29 [(3, .int l3)] [] M Q := by
  exact qRun_ok hG (ops := qo_46) (cuts := qc_sa_set) rfl 33 29 _ _ _ _ hV
def qc_sa_clear : List (Nat × List Nat) := [(3, [0]), (9, [0, 1]), (12, [1])]
theorem v_sa_clear_0 (hG : qGood Ls xs P) {M : qMem} {Q : qPost}
    (hV : (P 17 0 [(0, .ref 1)] [] M (fun v M' => P 47 3 [(0, .ref 0)] (v.toList ++ []) M' Q))) :
    P 47 0 [(0, .ref 0)] [] M Q := by
  exact qRun_ok hG (ops := qo_47) (cuts := qc_sa_clear) rfl 16 0 _ _ _ _ hV
theorem v_sa_clear_3 (hG : qGood Ls xs P) {s0 : Int32} {M : qMem} {Q : qPost}
    (hV : (P 7 0 [(0, .ref 6), (1, .ref 1)] [] M (fun v M' => P 47 9 [(0, .ref 0), (1, .int s0)] (v.toList ++ []) M' Q))) :
    P 47 3 [(0, .ref 0)] [.int s0] M Q := by
  exact qRun_ok hG (ops := qo_47) (cuts := qc_sa_clear) rfl 16 3 _ _ _ _ hV
theorem v_sa_clear_9 (hG : qGood Ls xs P) {l1 : Int32} {M : qMem} {Q : qPost}
    (hV : (P 24 0 [(0, .ref 1)] [] M (fun v M' => P 47 12 [(1, .int l1)] (v.toList ++ []) M' Q))) :
    P 47 9 [(0, .ref 0), (1, .int l1)] [] M Q := by
  exact qRun_ok hG (ops := qo_47) (cuts := qc_sa_clear) rfl 16 9 _ _ _ _ hV
theorem v_sa_clear_12 (hG : qGood Ls xs P) {l1 : Int32} {M : qMem} {Q : qPost}
    (hV : Q (some (.int l1)) M) :
    P 47 12 [(1, .int l1)] [] M Q := by
  exact qRun_ok hG (ops := qo_47) (cuts := qc_sa_clear) rfl 16 12 _ _ _ _ hV
def qc_sa_removeLine : List (Nat × List Nat) := [(4, [0, 1, 2]), (9, [0, 1, 2]), (19, [0, 1, 2]), (24, [0, 1, 2]), (29, [0, 1, 2, 3]), (43, [0, 1, 2, 3]), (48, [])]
set_option maxRecDepth 100000 in
theorem v_sa_removeLine_0 (hG : qGood Ls xs P) {l1 l2 : Int32} {M : qMem} {Q : qPost}
    (hV : (P 18 0 [(0, .ref 1), (1, .int l1)] [] M (fun v M' => P 48 4 [(0, .ref 0), (1, .int l1), (2, .int l2)] (v.toList ++ []) M' Q))) :
    P 48 0 [(0, .ref 0), (1, .int l1), (2, .int l2)] [] M Q := by
  exact qRun_ok hG (ops := qo_48) (cuts := qc_sa_removeLine) rfl 51 0 _ _ _ _ hV
set_option maxRecDepth 100000 in
theorem v_sa_removeLine_4 (hG : qGood Ls xs P) {l1 l2 s0 : Int32} {M : qMem} {Q : qPost}
    (hV : ((s0 = 0 → Q (some (.int (-1000000002 : Int32))) M) ∧ (¬ (s0 = 0) → (P 18 0 [(0, .ref 1), (1, .int l2)] [] M (fun v M' => P 48 9 [(0, .ref 0), (1, .int l1), (2, .int l2)] (v.toList ++ []) M' Q))))) :
    P 48 4 [(0, .ref 0), (1, .int l1), (2, .int l2)] [.int s0] M Q := by
  exact qRun_ok hG (ops := qo_48) (cuts := qc_sa_removeLine) rfl 51 4 _ _ _ _ hV
set_option maxRecDepth 100000 in
theorem v_sa_removeLine_9 (hG : qGood Ls xs P) {l1 l2 s0 : Int32} {M : qMem} {Q : qPost}
    (hV : ((s0 = 0 → Q (some (.int (-1000000002 : Int32))) M) ∧ (¬ (s0 = 0) → ((l1 < l2 → (P 19 0 [(0, .ref 1), (1, .int l1)] [] M (fun v M' => P 48 19 [(0, .ref 0), (1, .int l1), (2, .int l2)] (v.toList ++ []) M' Q))) ∧ (¬ (l1 < l2) → Q (some (.int (-1000000002 : Int32))) M))))) :
    P 48 9 [(0, .ref 0), (1, .int l1), (2, .int l2)] [.int s0] M Q := by
  exact qRun_ok hG (ops := qo_48) (cuts := qc_sa_removeLine) rfl 51 9 _ _ _ _ hV
set_option maxRecDepth 100000 in
theorem v_sa_removeLine_19 (hG : qGood Ls xs P) {l1 l2 s0 : Int32} {M : qMem} {Q : qPost}
    (hV : ((s0 = 0 → Q (some (.int (-1000000003 : Int32))) M) ∧ (¬ (s0 = 0) → (P 19 0 [(0, .ref 1), (1, .int l2)] [] M (fun v M' => P 48 24 [(0, .ref 0), (1, .int l1), (2, .int l2)] (v.toList ++ []) M' Q))))) :
    P 48 19 [(0, .ref 0), (1, .int l1), (2, .int l2)] [.int s0] M Q := by
  exact qRun_ok hG (ops := qo_48) (cuts := qc_sa_removeLine) rfl 51 19 _ _ _ _ hV
set_option maxRecDepth 100000 in
theorem v_sa_removeLine_24 (hG : qGood Ls xs P) {l1 l2 s0 : Int32} {M : qMem} {Q : qPost}
    (hV : ((¬ s0 = 0 → (P 48 29 [(0, .ref 0), (1, .int l1), (2, .int l2), (3, .int (0 : Int32))] [] M Q)) ∧ (¬ (¬ s0 = 0) → Q (some (.int (-1000000003 : Int32))) M))) :
    P 48 24 [(0, .ref 0), (1, .int l1), (2, .int l2)] [.int s0] M Q := by
  exact qRun_ok hG (ops := qo_48) (cuts := qc_sa_removeLine) rfl 51 24 _ _ _ _ hV
set_option maxRecDepth 100000 in
theorem v_sa_removeLine_29 (hG : qGood Ls xs P) {l1 l2 l3 : Int32} {M : qMem} {Q : qPost}
    (hV : (((Int32.ofNat 64) ≤ l3 → (P 78 0 [(0, .ref 0)] [] M (fun v M' => P 48 48 [] (v.toList ++ []) M' Q))) ∧ (¬ ((Int32.ofNat 64) ≤ l3) → (P 33 0 [(0, .ref 1), (1, .int l1), (2, .int l2), (3, .int l3)] [] M (fun v M' => P 48 43 [(0, .ref 0), (1, .int l1), (2, .int l2), (3, .int l3)] (v.toList ++ [.int l3, .ref 5]) M' Q))))) :
    P 48 29 [(0, .ref 0), (1, .int l1), (2, .int l2), (3, .int l3)] [] M Q := by
  exact qRun_ok hG (ops := qo_48) (cuts := qc_sa_removeLine) rfl 51 29 _ _ _ _ hV
set_option maxRecDepth 100000 in
theorem v_sa_removeLine_48 (hG : qGood Ls xs P) {s0 : Int32} {M : qMem} {Q : qPost}
    (hV : Q (some (.int s0)) M) :
    P 48 48 [] [.int s0] M Q := by
  exact qRun_ok hG (ops := qo_48) (cuts := qc_sa_removeLine) rfl 51 48 _ _ _ _ hV
set_option maxRecDepth 100000 in
theorem v_sa_removeLine_43 (hG : qGood Ls xs P) {s0 : Int64} {l1 l2 l3 s1 : Int32} {M : qMem} {Q : qPost}
    (hV : (vp_in s1 64 ∧ (P 48 29 [(0, .ref 0), (1, .int l1), (2, .int l2), (3, .int (l3 + (1 : Int32)))] [] (pJ M 5 s1.toNatClampNeg s0) Q))) :
    P 48 43 [(0, .ref 0), (1, .int l1), (2, .int l2), (3, .int l3)] [.long s0, .int s1, .ref 5] M Q := by
  exact qRun_ok hG (ops := qo_48) (cuts := qc_sa_removeLine) rfl 51 43 _ _ _ _ hV
def qc_sa_addLine : List (Nat × List Nat) := [(9, [0, 1, 2]), (14, [0, 1, 2, 3]), (36, [])]
theorem v_sa_addLine_0 (hG : qGood Ls xs P) {l1 l2 : Int32} {M : qMem} {Q : qPost}
    (hV : ((l1 < (-9999 : Int32) → Q (some (.int (-1000000002 : Int32))) M) ∧ (¬ (l1 < (-9999 : Int32)) → (((9999 : Int32) < l1 → Q (some (.int (-1000000002 : Int32))) M) ∧ (¬ ((9999 : Int32) < l1) → (P 72 0 [(0, .long l2.toInt64)] [] M (fun v M' => P 49 9 [(0, .ref 0), (1, .int l1), (2, .int l2)] (v.toList ++ []) M' Q))))))) :
    P 49 0 [(0, .ref 0), (1, .int l1), (2, .int l2)] [] M Q := by
  exact qRun_ok hG (ops := qo_49) (cuts := qc_sa_addLine) rfl 39 0 _ _ _ _ hV
theorem v_sa_addLine_9 (hG : qGood Ls xs P) {l1 l2 s0 : Int32} {M : qMem} {Q : qPost}
    (hV : ((¬ s0 = 0 → (P 49 14 [(0, .ref 0), (1, .int l1), (2, .int l2), (3, .int (0 : Int32))] [] M Q)) ∧ (¬ (¬ s0 = 0) → Q (some (.int (-1000000002 : Int32))) M))) :
    P 49 9 [(0, .ref 0), (1, .int l1), (2, .int l2)] [.int s0] M Q := by
  exact qRun_ok hG (ops := qo_49) (cuts := qc_sa_addLine) rfl 39 9 _ _ _ _ hV
theorem v_sa_addLine_14 (hG : qGood Ls xs P) {l1 l2 l3 : Int32} {M : qMem} {Q : qPost}
    (hV : (((Int32.ofNat 64) ≤ l3 → (P 78 0 [(0, .ref 0)] [] M (fun v M' => P 49 36 [] (v.toList ++ []) M' Q))) ∧ (¬ ((Int32.ofNat 64) ≤ l3) → (vp_in l3 64 ∧ (P 49 14 [(0, .ref 0), (1, .int l1), (2, .int l2), (3, .int (l3 + (1 : Int32)))] [] (pJ M 5 l3.toNatClampNeg (-((l1.toInt64 * l3.toInt64) + l2.toInt64))) Q))))) :
    P 49 14 [(0, .ref 0), (1, .int l1), (2, .int l2), (3, .int l3)] [] M Q := by
  exact qRun_ok hG (ops := qo_49) (cuts := qc_sa_addLine) rfl 39 14 _ _ _ _ hV
theorem v_sa_addLine_36 (hG : qGood Ls xs P) {s0 : Int32} {M : qMem} {Q : qPost}
    (hV : Q (some (.int s0)) M) :
    P 49 36 [] [.int s0] M Q := by
  exact qRun_ok hG (ops := qo_49) (cuts := qc_sa_addLine) rfl 39 36 _ _ _ _ hV
def qc_sa_removeDrift : List (Nat × List Nat) := [(5, [0]), (13, [0, 1]), (16, [0]), (20, [0, 2, 3]), (45, [2])]
set_option maxRecDepth 100000 in
theorem v_sa_removeDrift_0 (hG : qGood Ls xs P) {M : qMem} {Q : qPost}
    (hV : (P 35 0 [(0, .ref 1), (1, .int (2 : Int32)), (2, .int (1 : Int32))] [] M (fun v M' => P 50 5 [(0, .ref 0)] (v.toList ++ []) M' Q))) :
    P 50 0 [(0, .ref 0)] [] M Q := by
  exact qRun_ok hG (ops := qo_50) (cuts := qc_sa_removeDrift) rfl 53 0 _ _ _ _ hV
set_option maxRecDepth 100000 in
theorem v_sa_removeDrift_5 (hG : qGood Ls xs P) {s0 : Int32} {M : qMem} {Q : qPost}
    (hV : (((1 : Int32) ≤ s0 → (P 80 0 [(0, .ref 0)] [] M (fun v M' => P 50 13 [(0, .ref 0), (1, .int s0)] (v.toList ++ []) M' Q))) ∧ (¬ ((1 : Int32) ≤ s0) → Q (some (.int (-1000000003 : Int32))) M))) :
    P 50 5 [(0, .ref 0)] [.int s0] M Q := by
  exact qRun_ok hG (ops := qo_50) (cuts := qc_sa_removeDrift) rfl 53 5 _ _ _ _ hV
set_option maxRecDepth 100000 in
theorem v_sa_removeDrift_13 (hG : qGood Ls xs P) {s0 : Int64} {l1 : Int32} {M : qMem} {Q : qPost}
    (hV : (P 153 0 [(0, .long s0), (2, .long l1.toInt64)] [] M (fun v M' => P 50 16 [(0, .ref 0)] (v.toList ++ []) M' Q))) :
    P 50 13 [(0, .ref 0), (1, .int l1)] [.long s0] M Q := by
  exact qRun_ok hG (ops := qo_50) (cuts := qc_sa_removeDrift) rfl 53 13 _ _ _ _ hV
set_option maxRecDepth 100000 in
theorem v_sa_removeDrift_16 (hG : qGood Ls xs P) {s0 : Int64} {M : qMem} {Q : qPost}
    (hV : (P 50 20 [(0, .ref 0), (2, .int s0.toInt32), (3, .int (0 : Int32))] [] M Q)) :
    P 50 16 [(0, .ref 0)] [.long s0] M Q := by
  exact qRun_ok hG (ops := qo_50) (cuts := qc_sa_removeDrift) rfl 53 16 _ _ _ _ hV
set_option maxRecDepth 100000 in
theorem v_sa_removeDrift_20 (hG : qGood Ls xs P) {l2 l3 : Int32} {M : qMem} {Q : qPost}
    (hV : (((Int32.ofNat 64) ≤ l3 → (P 78 0 [(0, .ref 0)] [] M (fun v M' => P 50 45 [(2, .int l2)] (v.toList ++ []) M' Q))) ∧ (¬ ((Int32.ofNat 64) ≤ l3) → (¬ (2 : Int64) = 0 ∧ (vp_in l3 64 ∧ (P 50 20 [(0, .ref 0), (2, .int l2), (3, .int (l3 + (1 : Int32)))] [] (pJ M 5 l3.toNatClampNeg (((l2.toInt64 * l3.toInt64) * (l3 - (1 : Int32)).toInt64) / (2 : Int64))) Q)))))) :
    P 50 20 [(0, .ref 0), (2, .int l2), (3, .int l3)] [] M Q := by
  exact qRun_ok hG (ops := qo_50) (cuts := qc_sa_removeDrift) rfl 53 20 _ _ _ _ hV
set_option maxRecDepth 100000 in
theorem v_sa_removeDrift_45 (hG : qGood Ls xs P) {l2 s0 : Int32} {M : qMem} {Q : qPost}
    (hV : ((¬ s0 = (-1000000005 : Int32) → Q (some (.int l2)) M) ∧ (¬ (¬ s0 = (-1000000005 : Int32)) → Q (some (.int (-1000000005 : Int32))) M))) :
    P 50 45 [(2, .int l2)] [.int s0] M Q := by
  exact qRun_ok hG (ops := qo_50) (cuts := qc_sa_removeDrift) rfl 53 45 _ _ _ _ hV
def qc_sa_removeOutliers : List (Nat × List Nat) := [(2, [0, 1]), (12, [0, 1, 2]), (14, [0, 1, 2, 3]), (18, [0, 1, 2, 3]), (24, [0, 1, 2, 3]), (30, [0, 1, 2, 3]), (38, [0, 2]), (43, [2])]
set_option maxRecDepth 100000 in
theorem v_sa_removeOutliers_0 (hG : qGood Ls xs P) {l1 : Int32} {M : qMem} {Q : qPost}
    (hV : (P 73 0 [(0, .int l1)] [] M (fun v M' => P 51 2 [(0, .ref 0), (1, .int l1)] (v.toList ++ []) M' Q))) :
    P 51 0 [(0, .ref 0), (1, .int l1)] [] M Q := by
  exact qRun_ok hG (ops := qo_51) (cuts := qc_sa_removeOutliers) rfl 47 0 _ _ _ _ hV
set_option maxRecDepth 100000 in
theorem v_sa_removeOutliers_2 (hG : qGood Ls xs P) {l1 s0 : Int32} {M : qMem} {Q : qPost}
    (hV : ((¬ s0 = 0 → (P 25 0 [(0, .ref 3), (1, .ref 1)] [] M (fun v M' => P 51 12 [(0, .ref 0), (1, .int l1), (2, .int (0 : Int32))] (v.toList ++ []) M' Q))) ∧ (¬ (¬ s0 = 0) → Q (some (.int (-1000000002 : Int32))) M))) :
    P 51 2 [(0, .ref 0), (1, .int l1)] [.int s0] M Q := by
  exact qRun_ok hG (ops := qo_51) (cuts := qc_sa_removeOutliers) rfl 47 2 _ _ _ _ hV
set_option maxRecDepth 100000 in
theorem v_sa_removeOutliers_12 (hG : qGood Ls xs P) {l1 l2 : Int32} {M : qMem} {Q : qPost}
    (hV : (P 51 14 [(0, .ref 0), (1, .int l1), (2, .int l2), (3, .int (0 : Int32))] [] M Q)) :
    P 51 12 [(0, .ref 0), (1, .int l1), (2, .int l2)] [] M Q := by
  exact qRun_ok hG (ops := qo_51) (cuts := qc_sa_removeOutliers) rfl 47 12 _ _ _ _ hV
set_option maxRecDepth 100000 in
theorem v_sa_removeOutliers_14 (hG : qGood Ls xs P) {l1 l2 l3 : Int32} {M : qMem} {Q : qPost}
    (hV : (P 17 0 [(0, .ref 1)] [] M (fun v M' => P 51 18 [(0, .ref 0), (1, .int l1), (2, .int l2), (3, .int l3)] (v.toList ++ [.int l3]) M' Q))) :
    P 51 14 [(0, .ref 0), (1, .int l1), (2, .int l2), (3, .int l3)] [] M Q := by
  exact qRun_ok hG (ops := qo_51) (cuts := qc_sa_removeOutliers) rfl 47 14 _ _ _ _ hV
set_option maxRecDepth 100000 in
theorem v_sa_removeOutliers_18 (hG : qGood Ls xs P) {l1 l2 l3 s0 s1 : Int32} {M : qMem} {Q : qPost}
    (hV : ((s0 ≤ s1 → (P 7 0 [(0, .ref 6), (1, .ref 1)] [] M (fun v M' => P 51 38 [(0, .ref 0), (2, .int l2)] (v.toList ++ []) M' Q))) ∧ (¬ (s0 ≤ s1) → (P 34 0 [(0, .ref 1), (1, .int l3), (2, .int l1)] [] M (fun v M' => P 51 24 [(0, .ref 0), (1, .int l1), (2, .int l2), (3, .int l3)] (v.toList ++ []) M' Q))))) :
    P 51 18 [(0, .ref 0), (1, .int l1), (2, .int l2), (3, .int l3)] [.int s0, .int s1] M Q := by
  exact qRun_ok hG (ops := qo_51) (cuts := qc_sa_removeOutliers) rfl 47 18 _ _ _ _ hV
set_option maxRecDepth 100000 in
theorem v_sa_removeOutliers_38 (hG : qGood Ls xs P) {l2 : Int32} {M : qMem} {Q : qPost}
    (hV : (P 25 0 [(0, .ref 1), (1, .ref 3)] [] M (fun v M' => P 51 43 [(2, .int l2)] (v.toList ++ []) M' Q))) :
    P 51 38 [(0, .ref 0), (2, .int l2)] [] M Q := by
  exact qRun_ok hG (ops := qo_51) (cuts := qc_sa_removeOutliers) rfl 47 38 _ _ _ _ hV
set_option maxRecDepth 100000 in
theorem v_sa_removeOutliers_24 (hG : qGood Ls xs P) {l1 l2 l3 s0 : Int32} {M : qMem} {Q : qPost}
    (hV : ((s0 = 0 → (P 51 14 [(0, .ref 0), (1, .int l1), (2, .int l2), (3, .int (l3 + (1 : Int32)))] [] M Q)) ∧ (¬ (s0 = 0) → (P 21 0 [(0, .ref 3), (1, .int l3), (2, .int (-1000000001 : Int32))] [] M (fun v M' => P 51 30 [(0, .ref 0), (1, .int l1), (2, .int l2), (3, .int l3)] (v.toList ++ []) M' Q))))) :
    P 51 24 [(0, .ref 0), (1, .int l1), (2, .int l2), (3, .int l3)] [.int s0] M Q := by
  exact qRun_ok hG (ops := qo_51) (cuts := qc_sa_removeOutliers) rfl 47 24 _ _ _ _ hV
set_option maxRecDepth 100000 in
theorem v_sa_removeOutliers_43 (hG : qGood Ls xs P) {l2 : Int32} {M : qMem} {Q : qPost}
    (hV : Q (some (.int l2)) M) :
    P 51 43 [(2, .int l2)] [] M Q := by
  exact qRun_ok hG (ops := qo_51) (cuts := qc_sa_removeOutliers) rfl 47 43 _ _ _ _ hV
set_option maxRecDepth 100000 in
theorem v_sa_removeOutliers_30 (hG : qGood Ls xs P) {l1 l2 l3 : Int32} {M : qMem} {Q : qPost}
    (hV : (P 51 14 [(0, .ref 0), (1, .int l1), (2, .int (l2 + (1 : Int32))), (3, .int (l3 + (1 : Int32)))] [] M Q)) :
    P 51 30 [(0, .ref 0), (1, .int l1), (2, .int l2), (3, .int l3)] [] M Q := by
  exact qRun_ok hG (ops := qo_51) (cuts := qc_sa_removeOutliers) rfl 47 30 _ _ _ _ hV
def qc_sa_fill : List (Nat × List Nat) := [(13, [0, 1]), (17, [0, 1, 2, 3]), (21, [0, 1, 2, 3]), (28, [0, 1, 2, 3]), (33, [0, 1, 2, 3]), (38, [0, 1, 2, 3]), (43, [0, 1, 2, 3, 4]), (53, [0, 1, 2, 3, 4])]
set_option maxRecDepth 100000 in
theorem v_sa_fill_0 (hG : qGood Ls xs P) {l1 : Int32} {M : qMem} {Q : qPost}
    (hV : ((l1 < (1 : Int32) → Q (some (.int (-1000000002 : Int32))) M) ∧ (¬ (l1 < (1 : Int32)) → ((l1 ≤ (64 : Int32) → (P 7 0 [(0, .ref 6), (1, .ref 1)] [] M (fun v M' => P 52 13 [(0, .ref 0), (1, .int l1)] (v.toList ++ []) M' Q))) ∧ (¬ (l1 ≤ (64 : Int32)) → Q (some (.int (-1000000002 : Int32))) M))))) :
    P 52 0 [(0, .ref 0), (1, .int l1)] [] M Q := by
  exact qRun_ok hG (ops := qo_52) (cuts := qc_sa_fill) rfl 65 0 _ _ _ _ hV
set_option maxRecDepth 100000 in
theorem v_sa_fill_13 (hG : qGood Ls xs P) {l1 : Int32} {M : qMem} {Q : qPost}
    (hV : (P 52 17 [(0, .ref 0), (1, .int l1), (2, .int (0 : Int32)), (3, .int (1 : Int32))] [] M Q)) :
    P 52 13 [(0, .ref 0), (1, .int l1)] [] M Q := by
  exact qRun_ok hG (ops := qo_52) (cuts := qc_sa_fill) rfl 65 13 _ _ _ _ hV
set_option maxRecDepth 100000 in
theorem v_sa_fill_17 (hG : qGood Ls xs P) {l1 l2 l3 : Int32} {M : qMem} {Q : qPost}
    (hV : (P 17 0 [(0, .ref 1)] [] M (fun v M' => P 52 21 [(0, .ref 0), (1, .int l1), (2, .int l2), (3, .int l3)] (v.toList ++ [.int l3]) M' Q))) :
    P 52 17 [(0, .ref 0), (1, .int l1), (2, .int l2), (3, .int l3)] [] M Q := by
  exact qRun_ok hG (ops := qo_52) (cuts := qc_sa_fill) rfl 65 17 _ _ _ _ hV
set_option maxRecDepth 100000 in
theorem v_sa_fill_21 (hG : qGood Ls xs P) {l1 l2 l3 s0 s1 : Int32} {M : qMem} {Q : qPost}
    (hV : ((s0 ≤ s1 → Q (some (.int l2)) M) ∧ (¬ (s0 ≤ s1) → (P 19 0 [(0, .ref 1), (1, .int (l3 - (1 : Int32)))] [] M (fun v M' => P 52 28 [(0, .ref 0), (1, .int l1), (2, .int l2), (3, .int l3)] (v.toList ++ []) M' Q))))) :
    P 52 21 [(0, .ref 0), (1, .int l1), (2, .int l2), (3, .int l3)] [.int s0, .int s1] M Q := by
  exact qRun_ok hG (ops := qo_52) (cuts := qc_sa_fill) rfl 65 21 _ _ _ _ hV
set_option maxRecDepth 100000 in
theorem v_sa_fill_28 (hG : qGood Ls xs P) {l1 l2 l3 s0 : Int32} {M : qMem} {Q : qPost}
    (hV : ((s0 = 0 → (P 52 17 [(0, .ref 0), (1, .int l1), (2, .int l2), (3, .int (l3 + (1 : Int32)))] [] M Q)) ∧ (¬ (s0 = 0) → (P 19 0 [(0, .ref 1), (1, .int l3)] [] M (fun v M' => P 52 33 [(0, .ref 0), (1, .int l1), (2, .int l2), (3, .int l3)] (v.toList ++ []) M' Q))))) :
    P 52 28 [(0, .ref 0), (1, .int l1), (2, .int l2), (3, .int l3)] [.int s0] M Q := by
  exact qRun_ok hG (ops := qo_52) (cuts := qc_sa_fill) rfl 65 28 _ _ _ _ hV
set_option maxRecDepth 100000 in
theorem v_sa_fill_33 (hG : qGood Ls xs P) {l1 l2 l3 s0 : Int32} {M : qMem} {Q : qPost}
    (hV : ((¬ s0 = 0 → (P 52 17 [(0, .ref 0), (1, .int l1), (2, .int l2), (3, .int (l3 + (1 : Int32)))] [] M Q)) ∧ (¬ (¬ s0 = 0) → (P 32 0 [(0, .ref 1), (1, .int l3)] [] M (fun v M' => P 52 38 [(0, .ref 0), (1, .int l1), (2, .int l2), (3, .int l3)] (v.toList ++ []) M' Q))))) :
    P 52 33 [(0, .ref 0), (1, .int l1), (2, .int l2), (3, .int l3)] [.int s0] M Q := by
  exact qRun_ok hG (ops := qo_52) (cuts := qc_sa_fill) rfl 65 33 _ _ _ _ hV
set_option maxRecDepth 100000 in
theorem v_sa_fill_38 (hG : qGood Ls xs P) {l1 l2 l3 s0 : Int32} {M : qMem} {Q : qPost}
    (hV : (P 17 0 [(0, .ref 1)] [] M (fun v M' => P 52 43 [(0, .ref 0), (1, .int l1), (2, .int l2), (3, .int l3), (4, .int s0)] (v.toList ++ [.int s0]) M' Q))) :
    P 52 38 [(0, .ref 0), (1, .int l1), (2, .int l2), (3, .int l3)] [.int s0] M Q := by
  exact qRun_ok hG (ops := qo_52) (cuts := qc_sa_fill) rfl 65 38 _ _ _ _ hV
set_option maxRecDepth 100000 in
theorem v_sa_fill_43 (hG : qGood Ls xs P) {l1 l2 l3 l4 s0 s1 : Int32} {M : qMem} {Q : qPost}
    (hV : ((s0 ≤ s1 → (P 52 17 [(0, .ref 0), (1, .int l1), (2, .int l2), (3, .int (l3 + (1 : Int32)))] [] M Q)) ∧ (¬ (s0 ≤ s1) → ((l1 < (l4 - l3) → (P 52 17 [(0, .ref 0), (1, .int l1), (2, .int l2), (3, .int (l3 + (1 : Int32)))] [] M Q)) ∧ (¬ (l1 < (l4 - l3)) → (P 81 0 [(0, .ref 0), (1, .int l3), (2, .int l4)] [] M (fun v M' => P 52 53 [(0, .ref 0), (1, .int l1), (2, .int l2), (3, .int l3), (4, .int l4)] (v.toList ++ []) M' Q))))))) :
    P 52 43 [(0, .ref 0), (1, .int l1), (2, .int l2), (3, .int l3), (4, .int l4)] [.int s0, .int s1] M Q := by
  exact qRun_ok hG (ops := qo_52) (cuts := qc_sa_fill) rfl 65 43 _ _ _ _ hV
set_option maxRecDepth 100000 in
theorem v_sa_fill_53 (hG : qGood Ls xs P) {l1 l2 l3 l4 : Int32} {M : qMem} {Q : qPost}
    (hV : (P 52 17 [(0, .ref 0), (1, .int l1), (2, .int (l2 + (l4 - l3))), (3, .int (l3 + (1 : Int32)))] [] M Q)) :
    P 52 53 [(0, .ref 0), (1, .int l1), (2, .int l2), (3, .int l3), (4, .int l4)] [] M Q := by
  exact qRun_ok hG (ops := qo_52) (cuts := qc_sa_fill) rfl 65 53 _ _ _ _ hV
def qc_sa_thin : List (Nat × List Nat) := [(16, [0, 1, 2]), (18, [0, 1, 3]), (22, [0, 1, 3]), (29, [0, 1, 3]), (30, [0, 1, 3]), (40, [0]), (45, [0]), (48, [])]
set_option maxRecDepth 100000 in
theorem v_sa_thin_0 (hG : qGood Ls xs P) {l1 l2 : Int32} {M : qMem} {Q : qPost}
    (hV : ((l1 < (1 : Int32) → Q (some (.int (-1000000002 : Int32))) M) ∧ (¬ (l1 < (1 : Int32)) → (((16 : Int32) < l1 → Q (some (.int (-1000000002 : Int32))) M) ∧ (¬ ((16 : Int32) < l1) → ((l2 < 0 → Q (some (.int (-1000000002 : Int32))) M) ∧ (¬ (l2 < 0) → ((l2 < l1 → (P 24 0 [(0, .ref 3)] [] M (fun v M' => P 53 16 [(0, .ref 0), (1, .int l1), (2, .int l2)] (v.toList ++ []) M' Q))) ∧ (¬ (l2 < l1) → Q (some (.int (-1000000002 : Int32))) M))))))))) :
    P 53 0 [(0, .ref 0), (1, .int l1), (2, .int l2)] [] M Q := by
  exact qRun_ok hG (ops := qo_53) (cuts := qc_sa_thin) rfl 51 0 _ _ _ _ hV
set_option maxRecDepth 100000 in
theorem v_sa_thin_16 (hG : qGood Ls xs P) {l1 l2 : Int32} {M : qMem} {Q : qPost}
    (hV : (P 53 18 [(0, .ref 0), (1, .int l1), (3, .int l2)] [] M Q)) :
    P 53 16 [(0, .ref 0), (1, .int l1), (2, .int l2)] [] M Q := by
  exact qRun_ok hG (ops := qo_53) (cuts := qc_sa_thin) rfl 51 16 _ _ _ _ hV
set_option maxRecDepth 100000 in
theorem v_sa_thin_18 (hG : qGood Ls xs P) {l1 l3 : Int32} {M : qMem} {Q : qPost}
    (hV : (P 17 0 [(0, .ref 1)] [] M (fun v M' => P 53 22 [(0, .ref 0), (1, .int l1), (3, .int l3)] (v.toList ++ [.int l3]) M' Q))) :
    P 53 18 [(0, .ref 0), (1, .int l1), (3, .int l3)] [] M Q := by
  exact qRun_ok hG (ops := qo_53) (cuts := qc_sa_thin) rfl 51 18 _ _ _ _ hV
set_option maxRecDepth 100000 in
theorem v_sa_thin_22 (hG : qGood Ls xs P) {l1 l3 s0 s1 : Int32} {M : qMem} {Q : qPost}
    (hV : ((s0 ≤ s1 → (P 7 0 [(0, .ref 6), (1, .ref 1)] [] M (fun v M' => P 53 40 [(0, .ref 0)] (v.toList ++ []) M' Q))) ∧ (¬ (s0 ≤ s1) → (P 20 0 [(0, .ref 1), (1, .int l3)] [] M (fun v M' => P 53 29 [(0, .ref 0), (1, .int l1), (3, .int l3)] (v.toList ++ [.ref 3]) M' Q))))) :
    P 53 22 [(0, .ref 0), (1, .int l1), (3, .int l3)] [.int s0, .int s1] M Q := by
  exact qRun_ok hG (ops := qo_53) (cuts := qc_sa_thin) rfl 51 22 _ _ _ _ hV
set_option maxRecDepth 100000 in
theorem v_sa_thin_40 (hG : qGood Ls xs P) {M : qMem} {Q : qPost}
    (hV : (P 25 0 [(0, .ref 1), (1, .ref 3)] [] M (fun v M' => P 53 45 [(0, .ref 0)] (v.toList ++ []) M' Q))) :
    P 53 40 [(0, .ref 0)] [] M Q := by
  exact qRun_ok hG (ops := qo_53) (cuts := qc_sa_thin) rfl 51 40 _ _ _ _ hV
set_option maxRecDepth 100000 in
theorem v_sa_thin_29 (hG : qGood Ls xs P) {l1 l3 s0 : Int32} {M : qMem} {Q : qPost}
    (hV : (P 22 0 [(0, .ref 3), (1, .int s0)] [] M (fun v M' => P 53 30 [(0, .ref 0), (1, .int l1), (3, .int l3)] (v.toList ++ []) M' Q))) :
    P 53 29 [(0, .ref 0), (1, .int l1), (3, .int l3)] [.int s0, .ref 3] M Q := by
  exact qRun_ok hG (ops := qo_53) (cuts := qc_sa_thin) rfl 51 29 _ _ _ _ hV
set_option maxRecDepth 100000 in
theorem v_sa_thin_45 (hG : qGood Ls xs P) {M : qMem} {Q : qPost}
    (hV : (P 17 0 [(0, .ref 1)] [] M (fun v M' => P 53 48 [] (v.toList ++ []) M' Q))) :
    P 53 45 [(0, .ref 0)] [] M Q := by
  exact qRun_ok hG (ops := qo_53) (cuts := qc_sa_thin) rfl 51 45 _ _ _ _ hV
set_option maxRecDepth 100000 in
theorem v_sa_thin_30 (hG : qGood Ls xs P) {l1 l3 : Int32} {M : qMem} {Q : qPost}
    (hV : (P 53 18 [(0, .ref 0), (1, .int l1), (3, .int (l3 + l1))] [] M Q)) :
    P 53 30 [(0, .ref 0), (1, .int l1), (3, .int l3)] [] M Q := by
  exact qRun_ok hG (ops := qo_53) (cuts := qc_sa_thin) rfl 51 30 _ _ _ _ hV
set_option maxRecDepth 100000 in
theorem v_sa_thin_48 (hG : qGood Ls xs P) {s0 : Int32} {M : qMem} {Q : qPost}
    (hV : Q (some (.int s0)) M) :
    P 53 48 [] [.int s0] M Q := by
  exact qRun_ok hG (ops := qo_53) (cuts := qc_sa_thin) rfl 51 48 _ _ _ _ hV
def qc_sa_undo : List (Nat × List Nat) := [(3, [0]), (11, [0]), (14, [])]
theorem v_sa_undo_0 (hG : qGood Ls xs P) {M : qMem} {Q : qPost}
    (hV : (P 6 0 [(0, .ref 6)] [] M (fun v M' => P 54 3 [(0, .ref 0)] (v.toList ++ []) M' Q))) :
    P 54 0 [(0, .ref 0)] [] M Q := by
  exact qRun_ok hG (ops := qo_54) (cuts := qc_sa_undo) rfl 17 0 _ _ _ _ hV
theorem v_sa_undo_3 (hG : qGood Ls xs P) {s0 : Int32} {M : qMem} {Q : qPost}
    (hV : ((¬ s0 = 0 → (P 8 0 [(0, .ref 6), (1, .ref 1)] [] M (fun v M' => P 54 11 [(0, .ref 0)] (v.toList ++ []) M' Q))) ∧ (¬ (¬ s0 = 0) → Q (some (.int (-1000000003 : Int32))) M))) :
    P 54 3 [(0, .ref 0)] [.int s0] M Q := by
  exact qRun_ok hG (ops := qo_54) (cuts := qc_sa_undo) rfl 17 3 _ _ _ _ hV
theorem v_sa_undo_11 (hG : qGood Ls xs P) {M : qMem} {Q : qPost}
    (hV : (P 6 0 [(0, .ref 6)] [] M (fun v M' => P 54 14 [] (v.toList ++ []) M' Q))) :
    P 54 11 [(0, .ref 0)] [] M Q := by
  exact qRun_ok hG (ops := qo_54) (cuts := qc_sa_undo) rfl 17 11 _ _ _ _ hV
theorem v_sa_undo_14 (hG : qGood Ls xs P) {s0 : Int32} {M : qMem} {Q : qPost}
    (hV : Q (some (.int s0)) M) :
    P 54 14 [] [.int s0] M Q := by
  exact qRun_ok hG (ops := qo_54) (cuts := qc_sa_undo) rfl 17 14 _ _ _ _ hV
def qc_sa_told : List (Nat × List Nat) := [(5, []), (9, []), (13, []), (17, []), (21, []), (25, []), (28, []), (32, []), (36, [])]
theorem v_sa_told_0 (hG : qGood Ls xs P) {l1 : Int32} {M : qMem} {Q : qPost}
    (hV : ((l1 = Int32.ofInt 0 → (P 17 0 [(0, .ref 1)] [] M (fun v M' => P 55 5 [] (v.toList ++ []) M' Q))) ∧ (¬ (l1 = Int32.ofInt 0) → ((l1 = Int32.ofInt 1 → (P 26 0 [(0, .ref 1)] [] M (fun v M' => P 55 9 [] (v.toList ++ []) M' Q))) ∧ (¬ (l1 = Int32.ofInt 1) → ((l1 = Int32.ofInt 2 → (P 27 0 [(0, .ref 1)] [] M (fun v M' => P 55 13 [] (v.toList ++ []) M' Q))) ∧ (¬ (l1 = Int32.ofInt 2) → ((l1 = Int32.ofInt 3 → (P 28 0 [(0, .ref 1)] [] M (fun v M' => P 55 17 [] (v.toList ++ []) M' Q))) ∧ (¬ (l1 = Int32.ofInt 3) → ((l1 = Int32.ofInt 4 → (P 29 0 [(0, .ref 1)] [] M (fun v M' => P 55 21 [] (v.toList ++ []) M' Q))) ∧ (¬ (l1 = Int32.ofInt 4) → ((l1 = Int32.ofInt 5 → (P 30 0 [(0, .ref 1)] [] M (fun v M' => P 55 25 [] (v.toList ++ []) M' Q))) ∧ (¬ (l1 = Int32.ofInt 5) → ((l1 = Int32.ofInt 6 → (P 82 0 [(0, .ref 0)] [] M (fun v M' => P 55 28 [] (v.toList ++ []) M' Q))) ∧ (¬ (l1 = Int32.ofInt 6) → ((l1 = Int32.ofInt 7 → (P 40 0 [(0, .ref 31)] [] M (fun v M' => P 55 32 [] (v.toList ++ []) M' Q))) ∧ (¬ (l1 = Int32.ofInt 7) → ((l1 = Int32.ofInt 8 → (P 6 0 [(0, .ref 6)] [] M (fun v M' => P 55 36 [] (v.toList ++ []) M' Q))) ∧ (¬ (l1 = Int32.ofInt 8) → Q (some (.int (-1000000002 : Int32))) M))))))))))))))))))) :
    P 55 0 [(0, .ref 0), (1, .int l1)] [] M Q := by
  exact qRun_ok hG (ops := qo_55) (cuts := qc_sa_told) rfl 41 0 _ _ _ _ hV
theorem v_sa_told_36 (hG : qGood Ls xs P) {s0 : Int32} {M : qMem} {Q : qPost}
    (hV : Q (some (.int s0)) M) :
    P 55 36 [] [.int s0] M Q := by
  exact qRun_ok hG (ops := qo_55) (cuts := qc_sa_told) rfl 41 36 _ _ _ _ hV
theorem v_sa_told_32 (hG : qGood Ls xs P) {s0 : Int32} {M : qMem} {Q : qPost}
    (hV : Q (some (.int s0)) M) :
    P 55 32 [] [.int s0] M Q := by
  exact qRun_ok hG (ops := qo_55) (cuts := qc_sa_told) rfl 41 32 _ _ _ _ hV
theorem v_sa_told_28 (hG : qGood Ls xs P) {s0 : Int32} {M : qMem} {Q : qPost}
    (hV : Q (some (.int s0)) M) :
    P 55 28 [] [.int s0] M Q := by
  exact qRun_ok hG (ops := qo_55) (cuts := qc_sa_told) rfl 41 28 _ _ _ _ hV
theorem v_sa_told_25 (hG : qGood Ls xs P) {s0 : Int32} {M : qMem} {Q : qPost}
    (hV : Q (some (.int s0)) M) :
    P 55 25 [] [.int s0] M Q := by
  exact qRun_ok hG (ops := qo_55) (cuts := qc_sa_told) rfl 41 25 _ _ _ _ hV
theorem v_sa_told_21 (hG : qGood Ls xs P) {s0 : Int32} {M : qMem} {Q : qPost}
    (hV : Q (some (.int s0)) M) :
    P 55 21 [] [.int s0] M Q := by
  exact qRun_ok hG (ops := qo_55) (cuts := qc_sa_told) rfl 41 21 _ _ _ _ hV
theorem v_sa_told_17 (hG : qGood Ls xs P) {s0 : Int32} {M : qMem} {Q : qPost}
    (hV : Q (some (.int s0)) M) :
    P 55 17 [] [.int s0] M Q := by
  exact qRun_ok hG (ops := qo_55) (cuts := qc_sa_told) rfl 41 17 _ _ _ _ hV
theorem v_sa_told_13 (hG : qGood Ls xs P) {s0 : Int32} {M : qMem} {Q : qPost}
    (hV : Q (some (.int s0)) M) :
    P 55 13 [] [.int s0] M Q := by
  exact qRun_ok hG (ops := qo_55) (cuts := qc_sa_told) rfl 41 13 _ _ _ _ hV
theorem v_sa_told_9 (hG : qGood Ls xs P) {s0 : Int32} {M : qMem} {Q : qPost}
    (hV : Q (some (.int s0)) M) :
    P 55 9 [] [.int s0] M Q := by
  exact qRun_ok hG (ops := qo_55) (cuts := qc_sa_told) rfl 41 9 _ _ _ _ hV
theorem v_sa_told_5 (hG : qGood Ls xs P) {s0 : Int32} {M : qMem} {Q : qPost}
    (hV : Q (some (.int s0)) M) :
    P 55 5 [] [.int s0] M Q := by
  exact qRun_ok hG (ops := qo_55) (cuts := qc_sa_told) rfl 41 5 _ _ _ _ hV
def qc_sa_reading : List (Nat × List Nat) := [(4, [0, 1]), (11, [])]
theorem v_sa_reading_0 (hG : qGood Ls xs P) {l1 : Int32} {M : qMem} {Q : qPost}
    (hV : (P 18 0 [(0, .ref 1), (1, .int l1)] [] M (fun v M' => P 56 4 [(0, .ref 0), (1, .int l1)] (v.toList ++ []) M' Q))) :
    P 56 0 [(0, .ref 0), (1, .int l1)] [] M Q := by
  exact qRun_ok hG (ops := qo_56) (cuts := qc_sa_reading) rfl 14 0 _ _ _ _ hV
theorem v_sa_reading_4 (hG : qGood Ls xs P) {l1 s0 : Int32} {M : qMem} {Q : qPost}
    (hV : ((¬ s0 = 0 → (P 20 0 [(0, .ref 1), (1, .int l1)] [] M (fun v M' => P 56 11 [] (v.toList ++ []) M' Q))) ∧ (¬ (¬ s0 = 0) → Q (some (.int (-1000000002 : Int32))) M))) :
    P 56 4 [(0, .ref 0), (1, .int l1)] [.int s0] M Q := by
  exact qRun_ok hG (ops := qo_56) (cuts := qc_sa_reading) rfl 14 4 _ _ _ _ hV
theorem v_sa_reading_11 (hG : qGood Ls xs P) {s0 : Int32} {M : qMem} {Q : qPost}
    (hV : Q (some (.int s0)) M) :
    P 56 11 [] [.int s0] M Q := by
  exact qRun_ok hG (ops := qo_56) (cuts := qc_sa_reading) rfl 14 11 _ _ _ _ hV
def qc_sa_difference : List (Nat × List Nat) := [(2, [0, 1, 2, 3]), (5, [0, 1, 2, 3]), (16, [])]
theorem v_sa_difference_0 (hG : qGood Ls xs P) {l1 l2 l3 : Int32} {M : qMem} {Q : qPost}
    (hV : (P 74 0 [(0, .int l1)] [] M (fun v M' => P 57 2 [(0, .ref 0), (1, .int l1), (2, .int l2), (3, .int l3)] (v.toList ++ []) M' Q))) :
    P 57 0 [(0, .ref 0), (1, .int l1), (2, .int l2), (3, .int l3)] [] M Q := by
  exact qRun_ok hG (ops := qo_57) (cuts := qc_sa_difference) rfl 19 0 _ _ _ _ hV
theorem v_sa_difference_2 (hG : qGood Ls xs P) {l1 l2 l3 s0 : Int32} {M : qMem} {Q : qPost}
    (hV : ((s0 = 0 → Q (some (.int (-1000000002 : Int32))) M) ∧ (¬ (s0 = 0) → (P 75 0 [(0, .int l2)] [] M (fun v M' => P 57 5 [(0, .ref 0), (1, .int l1), (2, .int l2), (3, .int l3)] (v.toList ++ []) M' Q))))) :
    P 57 2 [(0, .ref 0), (1, .int l1), (2, .int l2), (3, .int l3)] [.int s0] M Q := by
  exact qRun_ok hG (ops := qo_57) (cuts := qc_sa_difference) rfl 19 2 _ _ _ _ hV
theorem v_sa_difference_5 (hG : qGood Ls xs P) {l1 l2 l3 s0 : Int32} {M : qMem} {Q : qPost}
    (hV : ((s0 = 0 → Q (some (.int (-1000000002 : Int32))) M) ∧ (¬ (s0 = 0) → ((0 ≤ l3 → (P 36 0 [(0, .ref 1), (1, .int l1), (2, .int l2), (3, .int l3)] [] M (fun v M' => P 57 16 [] (v.toList ++ []) M' Q))) ∧ (¬ (0 ≤ l3) → Q (some (.int (-1000000002 : Int32))) M))))) :
    P 57 5 [(0, .ref 0), (1, .int l1), (2, .int l2), (3, .int l3)] [.int s0] M Q := by
  exact qRun_ok hG (ops := qo_57) (cuts := qc_sa_difference) rfl 19 5 _ _ _ _ hV
theorem v_sa_difference_16 (hG : qGood Ls xs P) {s0 : Int32} {M : qMem} {Q : qPost}
    (hV : Q (some (.int s0)) M) :
    P 57 16 [] [.int s0] M Q := by
  exact qRun_ok hG (ops := qo_57) (cuts := qc_sa_difference) rfl 19 16 _ _ _ _ hV
def qc_sa_count : List (Nat × List Nat) := [(2, [0, 1, 2]), (5, [0, 1, 2]), (13, [])]
theorem v_sa_count_0 (hG : qGood Ls xs P) {l1 l2 : Int32} {M : qMem} {Q : qPost}
    (hV : (P 74 0 [(0, .int l1)] [] M (fun v M' => P 58 2 [(0, .ref 0), (1, .int l1), (2, .int l2)] (v.toList ++ []) M' Q))) :
    P 58 0 [(0, .ref 0), (1, .int l1), (2, .int l2)] [] M Q := by
  exact qRun_ok hG (ops := qo_58) (cuts := qc_sa_count) rfl 16 0 _ _ _ _ hV
theorem v_sa_count_2 (hG : qGood Ls xs P) {l1 l2 s0 : Int32} {M : qMem} {Q : qPost}
    (hV : ((s0 = 0 → Q (some (.int (-1000000002 : Int32))) M) ∧ (¬ (s0 = 0) → (P 75 0 [(0, .int l2)] [] M (fun v M' => P 58 5 [(0, .ref 0), (1, .int l1), (2, .int l2)] (v.toList ++ []) M' Q))))) :
    P 58 2 [(0, .ref 0), (1, .int l1), (2, .int l2)] [.int s0] M Q := by
  exact qRun_ok hG (ops := qo_58) (cuts := qc_sa_count) rfl 16 2 _ _ _ _ hV
theorem v_sa_count_5 (hG : qGood Ls xs P) {l1 l2 s0 : Int32} {M : qMem} {Q : qPost}
    (hV : ((¬ s0 = 0 → (P 35 0 [(0, .ref 1), (1, .int l1), (2, .int l2)] [] M (fun v M' => P 58 13 [] (v.toList ++ []) M' Q))) ∧ (¬ (¬ s0 = 0) → Q (some (.int (-1000000002 : Int32))) M))) :
    P 58 5 [(0, .ref 0), (1, .int l1), (2, .int l2)] [.int s0] M Q := by
  exact qRun_ok hG (ops := qo_58) (cuts := qc_sa_count) rfl 16 5 _ _ _ _ hV
theorem v_sa_count_13 (hG : qGood Ls xs P) {s0 : Int32} {M : qMem} {Q : qPost}
    (hV : Q (some (.int s0)) M) :
    P 58 13 [] [.int s0] M Q := by
  exact qRun_ok hG (ops := qo_58) (cuts := qc_sa_count) rfl 16 13 _ _ _ _ hV
def qc_sa_variance : List (Nat × List Nat) := [(2, [0, 1, 2, 3]), (5, [0, 1, 2, 3]), (19, [0, 3]), (22, [0, 3])]
theorem v_sa_variance_0 (hG : qGood Ls xs P) {l1 l2 l3 : Int32} {M : qMem} {Q : qPost}
    (hV : (P 76 0 [(0, .int l1)] [] M (fun v M' => P 59 2 [(0, .ref 0), (1, .int l1), (2, .int l2), (3, .int l3)] (v.toList ++ []) M' Q))) :
    P 59 0 [(0, .ref 0), (1, .int l1), (2, .int l2), (3, .int l3)] [] M Q := by
  exact qRun_ok hG (ops := qo_59) (cuts := qc_sa_variance) rfl 37 0 _ _ _ _ hV
theorem v_sa_variance_2 (hG : qGood Ls xs P) {l1 l2 l3 s0 : Int32} {M : qMem} {Q : qPost}
    (hV : ((s0 = 0 → Q (some (.long (-1000000002 : Int64))) M) ∧ (¬ (s0 = 0) → (P 75 0 [(0, .int l2)] [] M (fun v M' => P 59 5 [(0, .ref 0), (1, .int l1), (2, .int l2), (3, .int l3)] (v.toList ++ []) M' Q))))) :
    P 59 2 [(0, .ref 0), (1, .int l1), (2, .int l2), (3, .int l3)] [.int s0] M Q := by
  exact qRun_ok hG (ops := qo_59) (cuts := qc_sa_variance) rfl 37 2 _ _ _ _ hV
theorem v_sa_variance_5 (hG : qGood Ls xs P) {l1 l2 l3 s0 : Int32} {M : qMem} {Q : qPost}
    (hV : ((s0 = 0 → Q (some (.long (-1000000002 : Int64))) M) ∧ (¬ (s0 = 0) → ((l3 < 0 → Q (some (.long (-1000000002 : Int64))) M) ∧ (¬ (l3 < 0) → ((l3 ≤ (1 : Int32) → (P 83 0 [(0, .ref 0), (1, .int l1), (2, .int l2), (3, .ref 34)] [] M (fun v M' => P 59 19 [(0, .ref 0), (3, .int l3)] (v.toList ++ []) M' Q))) ∧ (¬ (l3 ≤ (1 : Int32)) → Q (some (.long (-1000000002 : Int64))) M))))))) :
    P 59 5 [(0, .ref 0), (1, .int l1), (2, .int l2), (3, .int l3)] [.int s0] M Q := by
  exact qRun_ok hG (ops := qo_59) (cuts := qc_sa_variance) rfl 37 5 _ _ _ _ hV
theorem v_sa_variance_19 (hG : qGood Ls xs P) {l3 : Int32} {M : qMem} {Q : qPost}
    (hV : (P 0 0 [(0, .ref 34)] [] M (fun v M' => P 59 22 [(0, .ref 0), (3, .int l3)] (v.toList ++ []) M' Q))) :
    P 59 19 [(0, .ref 0), (3, .int l3)] [] M Q := by
  exact qRun_ok hG (ops := qo_59) (cuts := qc_sa_variance) rfl 37 19 _ _ _ _ hV
theorem v_sa_variance_22 (hG : qGood Ls xs P) {l3 s0 : Int32} {M : qMem} {Q : qPost}
    (hV : ((¬ s0 = 0 → ((¬ l3 = 0 → Q (some (.long (M.2 34 1))) M) ∧ (¬ (¬ l3 = 0) → Q (some (.long (M.2 34 0))) M))) ∧ (¬ (¬ s0 = 0) → Q (some (.long (-1000000001 : Int64))) M))) :
    P 59 22 [(0, .ref 0), (3, .int l3)] [.int s0] M Q := by
  exact qRun_ok hG (ops := qo_59) (cuts := qc_sa_variance) rfl 37 22 _ _ _ _ hV
def qc_sa_deviation : List (Nat × List Nat) := [(2, [0, 1, 2]), (5, [0, 1, 2]), (14, [0]), (17, [0]), (24, []), (25, [])]
theorem v_sa_deviation_0 (hG : qGood Ls xs P) {l1 l2 : Int32} {M : qMem} {Q : qPost}
    (hV : (P 76 0 [(0, .int l1)] [] M (fun v M' => P 60 2 [(0, .ref 0), (1, .int l1), (2, .int l2)] (v.toList ++ []) M' Q))) :
    P 60 0 [(0, .ref 0), (1, .int l1), (2, .int l2)] [] M Q := by
  exact qRun_ok hG (ops := qo_60) (cuts := qc_sa_deviation) rfl 28 0 _ _ _ _ hV
theorem v_sa_deviation_2 (hG : qGood Ls xs P) {l1 l2 s0 : Int32} {M : qMem} {Q : qPost}
    (hV : ((s0 = 0 → Q (some (.long (-1000000002 : Int64))) M) ∧ (¬ (s0 = 0) → (P 75 0 [(0, .int l2)] [] M (fun v M' => P 60 5 [(0, .ref 0), (1, .int l1), (2, .int l2)] (v.toList ++ []) M' Q))))) :
    P 60 2 [(0, .ref 0), (1, .int l1), (2, .int l2)] [.int s0] M Q := by
  exact qRun_ok hG (ops := qo_60) (cuts := qc_sa_deviation) rfl 28 2 _ _ _ _ hV
theorem v_sa_deviation_5 (hG : qGood Ls xs P) {l1 l2 s0 : Int32} {M : qMem} {Q : qPost}
    (hV : ((¬ s0 = 0 → (P 83 0 [(0, .ref 0), (1, .int l1), (2, .int l2), (3, .ref 34)] [] M (fun v M' => P 60 14 [(0, .ref 0)] (v.toList ++ []) M' Q))) ∧ (¬ (¬ s0 = 0) → Q (some (.long (-1000000002 : Int64))) M))) :
    P 60 5 [(0, .ref 0), (1, .int l1), (2, .int l2)] [.int s0] M Q := by
  exact qRun_ok hG (ops := qo_60) (cuts := qc_sa_deviation) rfl 28 5 _ _ _ _ hV
theorem v_sa_deviation_14 (hG : qGood Ls xs P) {M : qMem} {Q : qPost}
    (hV : (P 0 0 [(0, .ref 34)] [] M (fun v M' => P 60 17 [(0, .ref 0)] (v.toList ++ []) M' Q))) :
    P 60 14 [(0, .ref 0)] [] M Q := by
  exact qRun_ok hG (ops := qo_60) (cuts := qc_sa_deviation) rfl 28 14 _ _ _ _ hV
theorem v_sa_deviation_17 (hG : qGood Ls xs P) {s0 : Int32} {M : qMem} {Q : qPost}
    (hV : ((¬ s0 = 0 → (P 4 0 [(0, .ref 34), (1, .long (1000000 : Int64))] [] M (fun v M' => P 60 24 [] (v.toList ++ []) M' Q))) ∧ (¬ (¬ s0 = 0) → Q (some (.long (-1000000001 : Int64))) M))) :
    P 60 17 [(0, .ref 0)] [.int s0] M Q := by
  exact qRun_ok hG (ops := qo_60) (cuts := qc_sa_deviation) rfl 28 17 _ _ _ _ hV
theorem v_sa_deviation_24 (hG : qGood Ls xs P) {s0 : Int64} {M : qMem} {Q : qPost}
    (hV : (P 86 0 [(0, .long s0)] [] M (fun v M' => P 60 25 [] (v.toList ++ []) M' Q))) :
    P 60 24 [] [.long s0] M Q := by
  exact qRun_ok hG (ops := qo_60) (cuts := qc_sa_deviation) rfl 28 24 _ _ _ _ hV
theorem v_sa_deviation_25 (hG : qGood Ls xs P) {s0 : Int64} {M : qMem} {Q : qPost}
    (hV : Q (some (.long s0)) M) :
    P 60 25 [] [.long s0] M Q := by
  exact qRun_ok hG (ops := qo_60) (cuts := qc_sa_deviation) rfl 28 25 _ _ _ _ hV
def qc_sa_compare : List (Nat × List Nat) := [(2, [0, 1, 2, 3]), (5, [0, 1, 2, 3]), (8, [0, 1, 2, 3]), (17, [0, 1, 3]), (23, [0]), (26, [0]), (30, [0]), (40, [])]
set_option maxRecDepth 100000 in
theorem v_sa_compare_0 (hG : qGood Ls xs P) {l1 l2 l3 : Int32} {M : qMem} {Q : qPost}
    (hV : (P 76 0 [(0, .int l1)] [] M (fun v M' => P 61 2 [(0, .ref 0), (1, .int l1), (2, .int l2), (3, .int l3)] (v.toList ++ []) M' Q))) :
    P 61 0 [(0, .ref 0), (1, .int l1), (2, .int l2), (3, .int l3)] [] M Q := by
  exact qRun_ok hG (ops := qo_61) (cuts := qc_sa_compare) rfl 53 0 _ _ _ _ hV
set_option maxRecDepth 100000 in
theorem v_sa_compare_2 (hG : qGood Ls xs P) {l1 l2 l3 s0 : Int32} {M : qMem} {Q : qPost}
    (hV : ((s0 = 0 → Q (some (.int (-1000000002 : Int32))) M) ∧ (¬ (s0 = 0) → (P 75 0 [(0, .int l2)] [] M (fun v M' => P 61 5 [(0, .ref 0), (1, .int l1), (2, .int l2), (3, .int l3)] (v.toList ++ []) M' Q))))) :
    P 61 2 [(0, .ref 0), (1, .int l1), (2, .int l2), (3, .int l3)] [.int s0] M Q := by
  exact qRun_ok hG (ops := qo_61) (cuts := qc_sa_compare) rfl 53 2 _ _ _ _ hV
set_option maxRecDepth 100000 in
theorem v_sa_compare_5 (hG : qGood Ls xs P) {l1 l2 l3 s0 : Int32} {M : qMem} {Q : qPost}
    (hV : ((s0 = 0 → Q (some (.int (-1000000002 : Int32))) M) ∧ (¬ (s0 = 0) → (P 75 0 [(0, .int l3)] [] M (fun v M' => P 61 8 [(0, .ref 0), (1, .int l1), (2, .int l2), (3, .int l3)] (v.toList ++ []) M' Q))))) :
    P 61 5 [(0, .ref 0), (1, .int l1), (2, .int l2), (3, .int l3)] [.int s0] M Q := by
  exact qRun_ok hG (ops := qo_61) (cuts := qc_sa_compare) rfl 53 5 _ _ _ _ hV
set_option maxRecDepth 100000 in
theorem v_sa_compare_8 (hG : qGood Ls xs P) {l1 l2 l3 s0 : Int32} {M : qMem} {Q : qPost}
    (hV : ((¬ s0 = 0 → (P 83 0 [(0, .ref 0), (1, .int l1), (2, .int l2), (3, .ref 34)] [] M (fun v M' => P 61 17 [(0, .ref 0), (1, .int l1), (3, .int l3)] (v.toList ++ []) M' Q))) ∧ (¬ (¬ s0 = 0) → Q (some (.int (-1000000002 : Int32))) M))) :
    P 61 8 [(0, .ref 0), (1, .int l1), (2, .int l2), (3, .int l3)] [.int s0] M Q := by
  exact qRun_ok hG (ops := qo_61) (cuts := qc_sa_compare) rfl 53 8 _ _ _ _ hV
set_option maxRecDepth 100000 in
theorem v_sa_compare_17 (hG : qGood Ls xs P) {l1 l3 : Int32} {M : qMem} {Q : qPost}
    (hV : (P 83 0 [(0, .ref 0), (1, .int l1), (2, .int l3), (3, .ref 35)] [] M (fun v M' => P 61 23 [(0, .ref 0)] (v.toList ++ []) M' Q))) :
    P 61 17 [(0, .ref 0), (1, .int l1), (3, .int l3)] [] M Q := by
  exact qRun_ok hG (ops := qo_61) (cuts := qc_sa_compare) rfl 53 17 _ _ _ _ hV
set_option maxRecDepth 100000 in
theorem v_sa_compare_23 (hG : qGood Ls xs P) {M : qMem} {Q : qPost}
    (hV : (P 0 0 [(0, .ref 34)] [] M (fun v M' => P 61 26 [(0, .ref 0)] (v.toList ++ []) M' Q))) :
    P 61 23 [(0, .ref 0)] [] M Q := by
  exact qRun_ok hG (ops := qo_61) (cuts := qc_sa_compare) rfl 53 23 _ _ _ _ hV
set_option maxRecDepth 100000 in
theorem v_sa_compare_26 (hG : qGood Ls xs P) {s0 : Int32} {M : qMem} {Q : qPost}
    (hV : ((s0 = 0 → Q (some (.int (-1000000001 : Int32))) M) ∧ (¬ (s0 = 0) → (P 0 0 [(0, .ref 35)] [] M (fun v M' => P 61 30 [(0, .ref 0)] (v.toList ++ []) M' Q))))) :
    P 61 26 [(0, .ref 0)] [.int s0] M Q := by
  exact qRun_ok hG (ops := qo_61) (cuts := qc_sa_compare) rfl 53 26 _ _ _ _ hV
set_option maxRecDepth 100000 in
theorem v_sa_compare_30 (hG : qGood Ls xs P) {s0 : Int32} {M : qMem} {Q : qPost}
    (hV : ((¬ s0 = 0 → (P 3 0 [(0, .ref 34), (1, .long (1 : Int64)), (3, .ref 35), (4, .long (1 : Int64))] [] M (fun v M' => P 61 40 [] (v.toList ++ []) M' Q))) ∧ (¬ (¬ s0 = 0) → Q (some (.int (-1000000001 : Int32))) M))) :
    P 61 30 [(0, .ref 0)] [.int s0] M Q := by
  exact qRun_ok hG (ops := qo_61) (cuts := qc_sa_compare) rfl 53 30 _ _ _ _ hV
set_option maxRecDepth 100000 in
theorem v_sa_compare_40 (hG : qGood Ls xs P) {s0 : Int32} {M : qMem} {Q : qPost}
    (hV : ((¬ s0 = 0 → ((0 ≤ s0 → Q (some (.int (2 : Int32))) M) ∧ (¬ (0 ≤ s0) → Q (some (.int (1 : Int32))) M))) ∧ (¬ (¬ s0 = 0) → Q (some (.int (0 : Int32))) M))) :
    P 61 40 [] [.int s0] M Q := by
  exact qRun_ok hG (ops := qo_61) (cuts := qc_sa_compare) rfl 53 40 _ _ _ _ hV
def qc_sa_best : List (Nat × List Nat) := [(2, [0, 1]), (9, [0, 1, 2, 3]), (18, [0, 1, 2, 3]), (21, [0, 1, 2, 3]), (32, [0, 1, 2, 3]), (38, [0, 1, 3])]
set_option maxRecDepth 100000 in
theorem v_sa_best_0 (hG : qGood Ls xs P) {l1 : Int32} {M : qMem} {Q : qPost}
    (hV : (P 76 0 [(0, .int l1)] [] M (fun v M' => P 62 2 [(0, .ref 0), (1, .int l1)] (v.toList ++ []) M' Q))) :
    P 62 0 [(0, .ref 0), (1, .int l1)] [] M Q := by
  exact qRun_ok hG (ops := qo_62) (cuts := qc_sa_best) rfl 46 0 _ _ _ _ hV
set_option maxRecDepth 100000 in
theorem v_sa_best_2 (hG : qGood Ls xs P) {l1 s0 : Int32} {M : qMem} {Q : qPost}
    (hV : ((¬ s0 = 0 → (P 62 9 [(0, .ref 0), (1, .int l1), (2, .int (-1000000001 : Int32)), (3, .int (1 : Int32))] [] M Q)) ∧ (¬ (¬ s0 = 0) → Q (some (.int (-1000000002 : Int32))) M))) :
    P 62 2 [(0, .ref 0), (1, .int l1)] [.int s0] M Q := by
  exact qRun_ok hG (ops := qo_62) (cuts := qc_sa_best) rfl 46 2 _ _ _ _ hV
set_option maxRecDepth 100000 in
theorem v_sa_best_9 (hG : qGood Ls xs P) {l1 l2 l3 : Int32} {M : qMem} {Q : qPost}
    (hV : (((31 : Int32) < l3 → Q (some (.int l2)) M) ∧ (¬ ((31 : Int32) < l3) → (P 83 0 [(0, .ref 0), (1, .int l1), (2, .int l3), (3, .ref 34)] [] M (fun v M' => P 62 18 [(0, .ref 0), (1, .int l1), (2, .int l2), (3, .int l3)] (v.toList ++ []) M' Q))))) :
    P 62 9 [(0, .ref 0), (1, .int l1), (2, .int l2), (3, .int l3)] [] M Q := by
  exact qRun_ok hG (ops := qo_62) (cuts := qc_sa_best) rfl 46 9 _ _ _ _ hV
set_option maxRecDepth 100000 in
theorem v_sa_best_18 (hG : qGood Ls xs P) {l1 l2 l3 : Int32} {M : qMem} {Q : qPost}
    (hV : (P 0 0 [(0, .ref 34)] [] M (fun v M' => P 62 21 [(0, .ref 0), (1, .int l1), (2, .int l2), (3, .int l3)] (v.toList ++ []) M' Q))) :
    P 62 18 [(0, .ref 0), (1, .int l1), (2, .int l2), (3, .int l3)] [] M Q := by
  exact qRun_ok hG (ops := qo_62) (cuts := qc_sa_best) rfl 46 18 _ _ _ _ hV
set_option maxRecDepth 100000 in
theorem v_sa_best_21 (hG : qGood Ls xs P) {l1 l2 l3 s0 : Int32} {M : qMem} {Q : qPost}
    (hV : ((s0 = 0 → (P 62 9 [(0, .ref 0), (1, .int l1), (2, .int l2), (3, .int (l3 + (1 : Int32)))] [] M Q)) ∧ (¬ (s0 = 0) → ((l2 = (-1000000001 : Int32) → (P 2 0 [(0, .ref 35), (1, .ref 34)] [] M (fun v M' => P 62 38 [(0, .ref 0), (1, .int l1), (3, .int l3)] (v.toList ++ []) M' Q))) ∧ (¬ (l2 = (-1000000001 : Int32)) → (P 3 0 [(0, .ref 34), (1, .long (1 : Int64)), (3, .ref 35), (4, .long (1 : Int64))] [] M (fun v M' => P 62 32 [(0, .ref 0), (1, .int l1), (2, .int l2), (3, .int l3)] (v.toList ++ []) M' Q))))))) :
    P 62 21 [(0, .ref 0), (1, .int l1), (2, .int l2), (3, .int l3)] [.int s0] M Q := by
  exact qRun_ok hG (ops := qo_62) (cuts := qc_sa_best) rfl 46 21 _ _ _ _ hV
set_option maxRecDepth 100000 in
theorem v_sa_best_38 (hG : qGood Ls xs P) {l1 l3 : Int32} {M : qMem} {Q : qPost}
    (hV : (P 62 9 [(0, .ref 0), (1, .int l1), (2, .int l3), (3, .int (l3 + (1 : Int32)))] [] M Q)) :
    P 62 38 [(0, .ref 0), (1, .int l1), (3, .int l3)] [] M Q := by
  exact qRun_ok hG (ops := qo_62) (cuts := qc_sa_best) rfl 46 38 _ _ _ _ hV
set_option maxRecDepth 100000 in
theorem v_sa_best_32 (hG : qGood Ls xs P) {l1 l2 l3 s0 : Int32} {M : qMem} {Q : qPost}
    (hV : ((0 ≤ s0 → (P 62 9 [(0, .ref 0), (1, .int l1), (2, .int l2), (3, .int (l3 + (1 : Int32)))] [] M Q)) ∧ (¬ (0 ≤ s0) → (P 2 0 [(0, .ref 35), (1, .ref 34)] [] M (fun v M' => P 62 38 [(0, .ref 0), (1, .int l1), (3, .int l3)] (v.toList ++ []) M' Q))))) :
    P 62 32 [(0, .ref 0), (1, .int l1), (2, .int l2), (3, .int l3)] [.int s0] M Q := by
  exact qRun_ok hG (ops := qo_62) (cuts := qc_sa_best) rfl 46 32 _ _ _ _ hV
def qc_sa_noise : List (Nat × List Nat) := [(11, [])]
theorem v_sa_noise_0 (hG : qGood Ls xs P) {l1 : Int32} {M : qMem} {Q : qPost}
    (hV : ((l1 < (1 : Int32) → Q (some (.int (-1000000002 : Int32))) M) ∧ (¬ (l1 < (1 : Int32)) → ((l1 ≤ (15 : Int32) → (P 87 0 [(0, .ref 0), (1, .int l1)] [] M (fun v M' => P 63 11 [] (v.toList ++ []) M' Q))) ∧ (¬ (l1 ≤ (15 : Int32)) → Q (some (.int (-1000000002 : Int32))) M))))) :
    P 63 0 [(0, .ref 0), (1, .int l1)] [] M Q := by
  exact qRun_ok hG (ops := qo_63) (cuts := qc_sa_noise) rfl 14 0 _ _ _ _ hV
theorem v_sa_noise_11 (hG : qGood Ls xs P) {s0 : Int32} {M : qMem} {Q : qPost}
    (hV : Q (some (.int s0)) M) :
    P 63 11 [] [.int s0] M Q := by
  exact qRun_ok hG (ops := qo_63) (cuts := qc_sa_noise) rfl 14 11 _ _ _ _ hV
def qc_sa_freedom : List (Nat × List Nat) := [(11, [0, 1]), (24, [1]), (26, []), (27, [])]
theorem v_sa_freedom_0 (hG : qGood Ls xs P) {l1 : Int32} {M : qMem} {Q : qPost}
    (hV : ((l1 < (1 : Int32) → Q (some (.int (-1000000002 : Int32))) M) ∧ (¬ (l1 < (1 : Int32)) → ((l1 ≤ (15 : Int32) → (P 87 0 [(0, .ref 0), (1, .int l1)] [] M (fun v M' => P 64 11 [(0, .ref 0), (1, .int l1)] (v.toList ++ []) M' Q))) ∧ (¬ (l1 ≤ (15 : Int32)) → Q (some (.int (-1000000002 : Int32))) M))))) :
    P 64 0 [(0, .ref 0), (1, .int l1)] [] M Q := by
  exact qRun_ok hG (ops := qo_64) (cuts := qc_sa_freedom) rfl 30 0 _ _ _ _ hV
theorem v_sa_freedom_11 (hG : qGood Ls xs P) {l1 s0 : Int32} {M : qMem} {Q : qPost}
    (hV : ((¬ s0 = (-1000000001 : Int32) → (P 35 0 [(0, .ref 1), (1, .int (2 : Int32)), (2, .int l1)] [] M (fun v M' => P 64 24 [(1, .int l1)] (v.toList ++ [.int s0, .int (1 : Int32)]) M' Q))) ∧ (¬ (¬ s0 = (-1000000001 : Int32)) → Q (some (.int (-1000000001 : Int32))) M))) :
    P 64 11 [(0, .ref 0), (1, .int l1)] [.int s0] M Q := by
  exact qRun_ok hG (ops := qo_64) (cuts := qc_sa_freedom) rfl 30 11 _ _ _ _ hV
theorem v_sa_freedom_24 (hG : qGood Ls xs P) {l1 s0 s1 s2 : Int32} {M : qMem} {Q : qPost}
    (hV : (P 88 0 [(0, .int s1), (1, .int s0), (2, .int l1)] [] M (fun v M' => P 64 26 [] (v.toList ++ [.int s2]) M' Q))) :
    P 64 24 [(1, .int l1)] [.int s0, .int s1, .int s2] M Q := by
  exact qRun_ok hG (ops := qo_64) (cuts := qc_sa_freedom) rfl 30 24 _ _ _ _ hV
theorem v_sa_freedom_26 (hG : qGood Ls xs P) {s0 s1 : Int32} {M : qMem} {Q : qPost}
    (hV : (P 154 0 [(0, .int s1), (1, .int s0)] [] M (fun v M' => P 64 27 [] (v.toList ++ []) M' Q))) :
    P 64 26 [] [.int s0, .int s1] M Q := by
  exact qRun_ok hG (ops := qo_64) (cuts := qc_sa_freedom) rfl 30 26 _ _ _ _ hV
theorem v_sa_freedom_27 (hG : qGood Ls xs P) {s0 : Int32} {M : qMem} {Q : qPost}
    (hV : Q (some (.int s0)) M) :
    P 64 27 [] [.int s0] M Q := by
  exact qRun_ok hG (ops := qo_64) (cuts := qc_sa_freedom) rfl 30 27 _ _ _ _ hV
def qc_sa_outliers : List (Nat × List Nat) := [(2, [0, 1]), (9, [0, 1, 2, 3]), (13, [0, 1, 2, 3]), (19, [0, 1, 2, 3])]
theorem v_sa_outliers_0 (hG : qGood Ls xs P) {l1 : Int32} {M : qMem} {Q : qPost}
    (hV : (P 73 0 [(0, .int l1)] [] M (fun v M' => P 65 2 [(0, .ref 0), (1, .int l1)] (v.toList ++ []) M' Q))) :
    P 65 0 [(0, .ref 0), (1, .int l1)] [] M Q := by
  exact qRun_ok hG (ops := qo_65) (cuts := qc_sa_outliers) rfl 27 0 _ _ _ _ hV
theorem v_sa_outliers_2 (hG : qGood Ls xs P) {l1 s0 : Int32} {M : qMem} {Q : qPost}
    (hV : ((¬ s0 = 0 → (P 65 9 [(0, .ref 0), (1, .int l1), (2, .int (0 : Int32)), (3, .int (0 : Int32))] [] M Q)) ∧ (¬ (¬ s0 = 0) → Q (some (.int (-1000000002 : Int32))) M))) :
    P 65 2 [(0, .ref 0), (1, .int l1)] [.int s0] M Q := by
  exact qRun_ok hG (ops := qo_65) (cuts := qc_sa_outliers) rfl 27 2 _ _ _ _ hV
theorem v_sa_outliers_9 (hG : qGood Ls xs P) {l1 l2 l3 : Int32} {M : qMem} {Q : qPost}
    (hV : (P 17 0 [(0, .ref 1)] [] M (fun v M' => P 65 13 [(0, .ref 0), (1, .int l1), (2, .int l2), (3, .int l3)] (v.toList ++ [.int l3]) M' Q))) :
    P 65 9 [(0, .ref 0), (1, .int l1), (2, .int l2), (3, .int l3)] [] M Q := by
  exact qRun_ok hG (ops := qo_65) (cuts := qc_sa_outliers) rfl 27 9 _ _ _ _ hV
theorem v_sa_outliers_13 (hG : qGood Ls xs P) {l1 l2 l3 s0 s1 : Int32} {M : qMem} {Q : qPost}
    (hV : ((s0 ≤ s1 → Q (some (.int l2)) M) ∧ (¬ (s0 ≤ s1) → (P 34 0 [(0, .ref 1), (1, .int l3), (2, .int l1)] [] M (fun v M' => P 65 19 [(0, .ref 0), (1, .int l1), (2, .int l2), (3, .int l3)] (v.toList ++ []) M' Q))))) :
    P 65 13 [(0, .ref 0), (1, .int l1), (2, .int l2), (3, .int l3)] [.int s0, .int s1] M Q := by
  exact qRun_ok hG (ops := qo_65) (cuts := qc_sa_outliers) rfl 27 13 _ _ _ _ hV
theorem v_sa_outliers_19 (hG : qGood Ls xs P) {l1 l2 l3 s0 : Int32} {M : qMem} {Q : qPost}
    (hV : ((s0 = 0 → (P 65 9 [(0, .ref 0), (1, .int l1), (2, .int l2), (3, .int (l3 + (1 : Int32)))] [] M Q)) ∧ (¬ (s0 = 0) → (P 65 9 [(0, .ref 0), (1, .int l1), (2, .int (l2 + (1 : Int32))), (3, .int (l3 + (1 : Int32)))] [] M Q)))) :
    P 65 19 [(0, .ref 0), (1, .int l1), (2, .int l2), (3, .int l3)] [.int s0] M Q := by
  exact qRun_ok hG (ops := qo_65) (cuts := qc_sa_outliers) rfl 27 19 _ _ _ _ hV
def qc_sa_write : List (Nat × List Nat) := [(11, [0, 1]), (19, [0]), (22, [])]
theorem v_sa_write_0 (hG : qGood Ls xs P) {l1 : Int32} {M : qMem} {Q : qPost}
    (hV : ((l1 < (32 : Int32) → Q (some (.int (-1000000002 : Int32))) M) ∧ (¬ (l1 < (32 : Int32)) → ((l1 ≤ (126 : Int32) → (P 40 0 [(0, .ref 31)] [] M (fun v M' => P 66 11 [(0, .ref 0), (1, .int l1)] (v.toList ++ []) M' Q))) ∧ (¬ (l1 ≤ (126 : Int32)) → Q (some (.int (-1000000002 : Int32))) M))))) :
    P 66 0 [(0, .ref 0), (1, .int l1)] [] M Q := by
  exact qRun_ok hG (ops := qo_66) (cuts := qc_sa_write) rfl 25 0 _ _ _ _ hV
theorem v_sa_write_11 (hG : qGood Ls xs P) {l1 s0 : Int32} {M : qMem} {Q : qPost}
    (hV : ((s0 < (120 : Int32) → (P 42 0 [(0, .ref 31), (1, .int l1)] [] M (fun v M' => P 66 19 [(0, .ref 0)] (v.toList ++ []) M' Q))) ∧ (¬ (s0 < (120 : Int32)) → Q (some (.int (-1000000004 : Int32))) M))) :
    P 66 11 [(0, .ref 0), (1, .int l1)] [.int s0] M Q := by
  exact qRun_ok hG (ops := qo_66) (cuts := qc_sa_write) rfl 25 11 _ _ _ _ hV
theorem v_sa_write_19 (hG : qGood Ls xs P) {M : qMem} {Q : qPost}
    (hV : (P 40 0 [(0, .ref 31)] [] M (fun v M' => P 66 22 [] (v.toList ++ []) M' Q))) :
    P 66 19 [(0, .ref 0)] [] M Q := by
  exact qRun_ok hG (ops := qo_66) (cuts := qc_sa_write) rfl 25 19 _ _ _ _ hV
theorem v_sa_write_22 (hG : qGood Ls xs P) {s0 : Int32} {M : qMem} {Q : qPost}
    (hV : Q (some (.int s0)) M) :
    P 66 22 [] [.int s0] M Q := by
  exact qRun_ok hG (ops := qo_66) (cuts := qc_sa_write) rfl 25 22 _ _ _ _ hV
def qc_sa_wipe : List (Nat × List Nat) := [(3, [0]), (7, [1])]
theorem v_sa_wipe_0 (hG : qGood Ls xs P) {M : qMem} {Q : qPost}
    (hV : (P 40 0 [(0, .ref 31)] [] M (fun v M' => P 67 3 [(0, .ref 0)] (v.toList ++ []) M' Q))) :
    P 67 0 [(0, .ref 0)] [] M Q := by
  exact qRun_ok hG (ops := qo_67) (cuts := qc_sa_wipe) rfl 11 0 _ _ _ _ hV
theorem v_sa_wipe_3 (hG : qGood Ls xs P) {s0 : Int32} {M : qMem} {Q : qPost}
    (hV : (P 43 0 [(0, .ref 31)] [] M (fun v M' => P 67 7 [(1, .int s0)] (v.toList ++ []) M' Q))) :
    P 67 3 [(0, .ref 0)] [.int s0] M Q := by
  exact qRun_ok hG (ops := qo_67) (cuts := qc_sa_wipe) rfl 11 3 _ _ _ _ hV
theorem v_sa_wipe_7 (hG : qGood Ls xs P) {l1 : Int32} {M : qMem} {Q : qPost}
    (hV : Q (some (.int l1)) M) :
    P 67 7 [(1, .int l1)] [] M Q := by
  exact qRun_ok hG (ops := qo_67) (cuts := qc_sa_wipe) rfl 11 7 _ _ _ _ hV
def qc_sa_load : List (Nat × List Nat) := [(7, [0]), (15, [0]), (20, [0]), (23, [])]
theorem v_sa_load_0 (hG : qGood Ls xs P) {M : qMem} {Q : qPost}
    (hV : (P 10 0 [(0, .ref 33), (1, .ref 31), (2, .ref 3)] [] M (fun v M' => P 68 7 [(0, .ref 0)] (v.toList ++ []) M' Q))) :
    P 68 0 [(0, .ref 0)] [] M Q := by
  exact qRun_ok hG (ops := qo_68) (cuts := qc_sa_load) rfl 26 0 _ _ _ _ hV
theorem v_sa_load_7 (hG : qGood Ls xs P) {s0 : Int32} {M : qMem} {Q : qPost}
    (hV : ((¬ s0 = 0 → (P 7 0 [(0, .ref 6), (1, .ref 1)] [] M (fun v M' => P 68 15 [(0, .ref 0)] (v.toList ++ []) M' Q))) ∧ (¬ (¬ s0 = 0) → Q (some (.int (-1000000003 : Int32))) M))) :
    P 68 7 [(0, .ref 0)] [.int s0] M Q := by
  exact qRun_ok hG (ops := qo_68) (cuts := qc_sa_load) rfl 26 7 _ _ _ _ hV
theorem v_sa_load_15 (hG : qGood Ls xs P) {M : qMem} {Q : qPost}
    (hV : (P 25 0 [(0, .ref 1), (1, .ref 3)] [] M (fun v M' => P 68 20 [(0, .ref 0)] (v.toList ++ []) M' Q))) :
    P 68 15 [(0, .ref 0)] [] M Q := by
  exact qRun_ok hG (ops := qo_68) (cuts := qc_sa_load) rfl 26 15 _ _ _ _ hV
theorem v_sa_load_20 (hG : qGood Ls xs P) {M : qMem} {Q : qPost}
    (hV : (P 17 0 [(0, .ref 1)] [] M (fun v M' => P 68 23 [] (v.toList ++ []) M' Q))) :
    P 68 20 [(0, .ref 0)] [] M Q := by
  exact qRun_ok hG (ops := qo_68) (cuts := qc_sa_load) rfl 26 20 _ _ _ _ hV
theorem v_sa_load_23 (hG : qGood Ls xs P) {s0 : Int32} {M : qMem} {Q : qPost}
    (hV : Q (some (.int s0)) M) :
    P 68 23 [] [.int s0] M Q := by
  exact qRun_ok hG (ops := qo_68) (cuts := qc_sa_load) rfl 26 23 _ _ _ _ hV
def qc_sa_fault : List (Nat × List Nat) := []
theorem v_sa_fault_0 (hG : qGood Ls xs P) {l1 : Int32} {M : qMem} {Q : qPost}
    (hV : ((l1 < 0 → Q (some (.int (-1000000002 : Int32))) M) ∧ (¬ (l1 < 0) → ((l1 ≤ (1 : Int32) → ((¬ l1 = 0 → Q (some (.int (M.1 33 1))) M) ∧ (¬ (¬ l1 = 0) → Q (some (.int (M.1 33 0))) M))) ∧ (¬ (l1 ≤ (1 : Int32)) → Q (some (.int (-1000000002 : Int32))) M))))) :
    P 69 0 [(0, .ref 0), (1, .int l1)] [] M Q := by
  exact qRun_ok hG (ops := qo_69) (cuts := qc_sa_fault) rfl 19 0 _ _ _ _ hV
def qc_sa_keep : List (Nat × List Nat) := [(3, [0]), (13, [0, 2]), (19, [])]
theorem v_sa_keep_0 (hG : qGood Ls xs P) {l1 : Int32} {M : qMem} {Q : qPost}
    (hV : (P 77 0 [(0, .ref 0), (1, .int l1)] [] M (fun v M' => P 70 3 [(0, .ref 0)] (v.toList ++ []) M' Q))) :
    P 70 0 [(0, .ref 0), (1, .int l1)] [] M Q := by
  exact qRun_ok hG (ops := qo_70) (cuts := qc_sa_keep) rfl 22 0 _ _ _ _ hV
theorem v_sa_keep_3 (hG : qGood Ls xs P) {ks0 : Nat} {M : qMem} {Q : qPost} (hks0 : qIm ks0)
    (hV : (P 25 0 [(0, .ref (rf ks0 0)), (1, .ref 1)] [] M (fun v M' => P 70 13 [(0, .ref 0), (2, .ref ks0)] (v.toList ++ []) M' Q))) :
    P 70 3 [(0, .ref 0)] [.ref ks0] M Q := by
  refine qRun_ok hG (ops := qo_70) (cuts := qc_sa_keep) rfl 22 3 _ _ _ _ ?_
  have hF : bif Nat.beq (shT ks0) 2 then bif Nat.beq (shT (rf ks0 0)) 4 then (P 25 0 [(0, .ref (rf ks0 0)), (1, .ref 1)] [] M (fun v M' => P 70 13 [(0, .ref 0), (2, .ref ks0)] (v.toList ++ []) M' Q)) else False else False := by
    (try rw [hks0.1])
    (try rw [hks0.2.1])
    exact hV
  exact hF
theorem v_sa_keep_3n (hG : qGood Ls xs P) {M : qMem} {Q : qPost}
    (hV : Q (some (.int (-1000000002 : Int32))) M) :
    P 70 3 [(0, .ref 0)] [.null] M Q := by
  exact qRun_ok hG (ops := qo_70) (cuts := qc_sa_keep) rfl 22 3 _ _ _ _ hV
theorem v_sa_keep_13 (hG : qGood Ls xs P) {ks0 : Nat} {M : qMem} {Q : qPost} (hks0 : qIm ks0)
    (hV : (narrow .boolean (.int (1 : Int32)) = .int (1 : Int32) ∧ (P 17 0 [(0, .ref 1)] [] (pI M ks0 1 (1 : Int32)) (fun v M' => P 70 19 [] (v.toList ++ []) M' Q)))) :
    P 70 13 [(0, .ref 0), (2, .ref ks0)] [] M Q := by
  refine qRun_ok hG (ops := qo_70) (cuts := qc_sa_keep) rfl 22 13 _ _ _ _ ?_
  have hF : bif Nat.beq (shT ks0) 2 then (narrow .boolean (.int (1 : Int32)) = .int (1 : Int32) ∧ (P 17 0 [(0, .ref 1)] [] (pI M ks0 1 (1 : Int32)) (fun v M' => P 70 19 [] (v.toList ++ []) M' Q))) else False := by
    (try rw [hks0.1])
    (try rw [hks0.2.1])
    exact hV
  exact hF
theorem v_sa_keep_19 (hG : qGood Ls xs P) {s0 : Int32} {M : qMem} {Q : qPost}
    (hV : Q (some (.int s0)) M) :
    P 70 19 [] [.int s0] M Q := by
  exact qRun_ok hG (ops := qo_70) (cuts := qc_sa_keep) rfl 22 19 _ _ _ _ hV
def qc_sa_back : List (Nat × List Nat) := [(3, [0]), (18, [0, 2]), (23, [0]), (26, [])]
theorem v_sa_back_0 (hG : qGood Ls xs P) {l1 : Int32} {M : qMem} {Q : qPost}
    (hV : (P 77 0 [(0, .ref 0), (1, .int l1)] [] M (fun v M' => P 71 3 [(0, .ref 0)] (v.toList ++ []) M' Q))) :
    P 71 0 [(0, .ref 0), (1, .int l1)] [] M Q := by
  exact qRun_ok hG (ops := qo_71) (cuts := qc_sa_back) rfl 29 0 _ _ _ _ hV
theorem v_sa_back_3 (hG : qGood Ls xs P) {ks0 : Nat} {M : qMem} {Q : qPost} (hks0 : qIm ks0)
    (hV : ((¬ (M.1 ks0 1) = 0 → (P 7 0 [(0, .ref 6), (1, .ref 1)] [] M (fun v M' => P 71 18 [(0, .ref 0), (2, .ref ks0)] (v.toList ++ []) M' Q))) ∧ (¬ (¬ (M.1 ks0 1) = 0) → Q (some (.int (-1000000003 : Int32))) M))) :
    P 71 3 [(0, .ref 0)] [.ref ks0] M Q := by
  refine qRun_ok hG (ops := qo_71) (cuts := qc_sa_back) rfl 29 3 _ _ _ _ ?_
  have hF : bif Nat.beq (shT ks0) 2 then ((¬ (M.1 ks0 1) = 0 → (P 7 0 [(0, .ref 6), (1, .ref 1)] [] M (fun v M' => P 71 18 [(0, .ref 0), (2, .ref ks0)] (v.toList ++ []) M' Q))) ∧ (¬ (¬ (M.1 ks0 1) = 0) → Q (some (.int (-1000000003 : Int32))) M)) else False := by
    (try rw [hks0.1])
    (try rw [hks0.2.1])
    exact hV
  exact hF
theorem v_sa_back_3n (hG : qGood Ls xs P) {M : qMem} {Q : qPost}
    (hV : Q (some (.int (-1000000002 : Int32))) M) :
    P 71 3 [(0, .ref 0)] [.null] M Q := by
  exact qRun_ok hG (ops := qo_71) (cuts := qc_sa_back) rfl 29 3 _ _ _ _ hV
theorem v_sa_back_18 (hG : qGood Ls xs P) {ks0 : Nat} {M : qMem} {Q : qPost} (hks0 : qIm ks0)
    (hV : (P 25 0 [(0, .ref 1), (1, .ref (rf ks0 0))] [] M (fun v M' => P 71 23 [(0, .ref 0)] (v.toList ++ []) M' Q))) :
    P 71 18 [(0, .ref 0), (2, .ref ks0)] [] M Q := by
  refine qRun_ok hG (ops := qo_71) (cuts := qc_sa_back) rfl 29 18 _ _ _ _ ?_
  have hF : bif Nat.beq (shT ks0) 2 then (P 25 0 [(0, .ref 1), (1, .ref (rf ks0 0))] [] M (fun v M' => P 71 23 [(0, .ref 0)] (v.toList ++ []) M' Q)) else False := by
    (try rw [hks0.1])
    (try rw [hks0.2.1])
    exact hV
  exact hF
theorem v_sa_back_23 (hG : qGood Ls xs P) {M : qMem} {Q : qPost}
    (hV : (P 17 0 [(0, .ref 1)] [] M (fun v M' => P 71 26 [] (v.toList ++ []) M' Q))) :
    P 71 23 [(0, .ref 0)] [] M Q := by
  exact qRun_ok hG (ops := qo_71) (cuts := qc_sa_back) rfl 29 23 _ _ _ _ hV
theorem v_sa_back_26 (hG : qGood Ls xs P) {s0 : Int32} {M : qMem} {Q : qPost}
    (hV : Q (some (.int s0)) M) :
    P 71 26 [] [.int s0] M Q := by
  exact qRun_ok hG (ops := qo_71) (cuts := qc_sa_back) rfl 29 26 _ _ _ _ hV
def qc_sa_isPhase : List (Nat × List Nat) := []
theorem v_sa_isPhase_0 (hG : qGood Ls xs P) {l0 : Int64} {M : qMem} {Q : qPost}
    (hV : (((lg_cmp l0 (-99999 : Int64)) < 0 → (narrow .boolean (.int (0 : Int32)) = .int (0 : Int32) ∧ Q (some (.int (0 : Int32))) M)) ∧ (¬ ((lg_cmp l0 (-99999 : Int64)) < 0) → ((0 < (lg_cmp l0 (99999 : Int64)) → (narrow .boolean (.int (0 : Int32)) = .int (0 : Int32) ∧ Q (some (.int (0 : Int32))) M)) ∧ (¬ (0 < (lg_cmp l0 (99999 : Int64))) → (narrow .boolean (.int (1 : Int32)) = .int (1 : Int32) ∧ Q (some (.int (1 : Int32))) M)))))) :
    P 72 0 [(0, .long l0)] [] M Q := by
  exact qRun_ok hG (ops := qo_72) (cuts := qc_sa_isPhase) rfl 14 0 _ _ _ _ hV
def qc_sa_isLimit : List (Nat × List Nat) := []
theorem v_sa_isLimit_0 (hG : qGood Ls xs P) {l0 : Int32} {M : qMem} {Q : qPost}
    (hV : ((l0 < 0 → (narrow .boolean (.int (0 : Int32)) = .int (0 : Int32) ∧ Q (some (.int (0 : Int32))) M)) ∧ (¬ (l0 < 0) → (((99999 : Int32) < l0 → (narrow .boolean (.int (0 : Int32)) = .int (0 : Int32) ∧ Q (some (.int (0 : Int32))) M)) ∧ (¬ ((99999 : Int32) < l0) → (narrow .boolean (.int (1 : Int32)) = .int (1 : Int32) ∧ Q (some (.int (1 : Int32))) M)))))) :
    P 73 0 [(0, .int l0)] [] M Q := by
  exact qRun_ok hG (ops := qo_73) (cuts := qc_sa_isLimit) rfl 11 0 _ _ _ _ hV
def qc_sa_isOrder : List (Nat × List Nat) := []
theorem v_sa_isOrder_0 (hG : qGood Ls xs P) {l0 : Int32} {M : qMem} {Q : qPost}
    (hV : ((l0 < (2 : Int32) → (narrow .boolean (.int (0 : Int32)) = .int (0 : Int32) ∧ Q (some (.int (0 : Int32))) M)) ∧ (¬ (l0 < (2 : Int32)) → (((4 : Int32) < l0 → (narrow .boolean (.int (0 : Int32)) = .int (0 : Int32) ∧ Q (some (.int (0 : Int32))) M)) ∧ (¬ ((4 : Int32) < l0) → (narrow .boolean (.int (1 : Int32)) = .int (1 : Int32) ∧ Q (some (.int (1 : Int32))) M)))))) :
    P 74 0 [(0, .int l0)] [] M Q := by
  exact qRun_ok hG (ops := qo_74) (cuts := qc_sa_isOrder) rfl 12 0 _ _ _ _ hV
def qc_sa_isM : List (Nat × List Nat) := []
theorem v_sa_isM_0 (hG : qGood Ls xs P) {l0 : Int32} {M : qMem} {Q : qPost}
    (hV : ((l0 < (1 : Int32) → (narrow .boolean (.int (0 : Int32)) = .int (0 : Int32) ∧ Q (some (.int (0 : Int32))) M)) ∧ (¬ (l0 < (1 : Int32)) → (((31 : Int32) < l0 → (narrow .boolean (.int (0 : Int32)) = .int (0 : Int32) ∧ Q (some (.int (0 : Int32))) M)) ∧ (¬ ((31 : Int32) < l0) → (narrow .boolean (.int (1 : Int32)) = .int (1 : Int32) ∧ Q (some (.int (1 : Int32))) M)))))) :
    P 75 0 [(0, .int l0)] [] M Q := by
  exact qRun_ok hG (ops := qo_75) (cuts := qc_sa_isM) rfl 12 0 _ _ _ _ hV
def qc_sa_isVariance : List (Nat × List Nat) := []
theorem v_sa_isVariance_0 (hG : qGood Ls xs P) {l0 : Int32} {M : qMem} {Q : qPost}
    (hV : ((l0 < 0 → (narrow .boolean (.int (0 : Int32)) = .int (0 : Int32) ∧ Q (some (.int (0 : Int32))) M)) ∧ (¬ (l0 < 0) → (((3 : Int32) < l0 → (narrow .boolean (.int (0 : Int32)) = .int (0 : Int32) ∧ Q (some (.int (0 : Int32))) M)) ∧ (¬ ((3 : Int32) < l0) → (narrow .boolean (.int (1 : Int32)) = .int (1 : Int32) ∧ Q (some (.int (1 : Int32))) M)))))) :
    P 76 0 [(0, .int l0)] [] M Q := by
  exact qRun_ok hG (ops := qo_76) (cuts := qc_sa_isVariance) rfl 11 0 _ _ _ _ hV
def qc_sa_imageAt : List (Nat × List Nat) := []
theorem v_sa_imageAt_0 (hG : qGood Ls xs P) {l1 : Int32} {M : qMem} {Q : qPost}
    (hV : ((l1 < 0 → Q (some (.null)) M) ∧ (¬ (l1 < 0) → ((l1 < (Int32.ofNat 2) → (vp_in l1 2 ∧ Q (some (.ref (rf 24 l1.toNatClampNeg))) M)) ∧ (¬ (l1 < (Int32.ofNat 2)) → Q (some (.null)) M))))) :
    P 77 0 [(0, .ref 0), (1, .int l1)] [] M Q := by
  exact qRun_ok hG (ops := qo_77) (cuts := qc_sa_imageAt) rfl 16 0 _ _ _ _ hV
def qc_sa_subtractAmounts : List (Nat × List Nat) := [(2, [0]), (10, [0]), (14, [0, 1, 2]), (18, [0, 1, 2]), (28, [0, 1, 2]), (43, [0, 1, 2]), (51, [0, 1, 2])]
set_option maxRecDepth 100000 in
theorem v_sa_subtractAmounts_0 (hG : qGood Ls xs P) {M : qMem} {Q : qPost}
    (hV : (P 79 0 [(0, .ref 0)] [] M (fun v M' => P 78 2 [(0, .ref 0)] (v.toList ++ []) M' Q))) :
    P 78 0 [(0, .ref 0)] [] M Q := by
  exact qRun_ok hG (ops := qo_78) (cuts := qc_sa_subtractAmounts) rfl 58 0 _ _ _ _ hV
set_option maxRecDepth 100000 in
theorem v_sa_subtractAmounts_2 (hG : qGood Ls xs P) {s0 : Int32} {M : qMem} {Q : qPost}
    (hV : ((¬ s0 = 0 → (P 7 0 [(0, .ref 6), (1, .ref 1)] [] M (fun v M' => P 78 10 [(0, .ref 0)] (v.toList ++ []) M' Q))) ∧ (¬ (¬ s0 = 0) → Q (some (.int (-1000000005 : Int32))) M))) :
    P 78 2 [(0, .ref 0)] [.int s0] M Q := by
  exact qRun_ok hG (ops := qo_78) (cuts := qc_sa_subtractAmounts) rfl 58 2 _ _ _ _ hV
set_option maxRecDepth 100000 in
theorem v_sa_subtractAmounts_10 (hG : qGood Ls xs P) {M : qMem} {Q : qPost}
    (hV : (P 78 14 [(0, .ref 0), (1, .int (0 : Int32)), (2, .int (0 : Int32))] [] M Q)) :
    P 78 10 [(0, .ref 0)] [] M Q := by
  exact qRun_ok hG (ops := qo_78) (cuts := qc_sa_subtractAmounts) rfl 58 10 _ _ _ _ hV
set_option maxRecDepth 100000 in
theorem v_sa_subtractAmounts_14 (hG : qGood Ls xs P) {l1 l2 : Int32} {M : qMem} {Q : qPost}
    (hV : (P 17 0 [(0, .ref 1)] [] M (fun v M' => P 78 18 [(0, .ref 0), (1, .int l1), (2, .int l2)] (v.toList ++ [.int l2]) M' Q))) :
    P 78 14 [(0, .ref 0), (1, .int l1), (2, .int l2)] [] M Q := by
  exact qRun_ok hG (ops := qo_78) (cuts := qc_sa_subtractAmounts) rfl 58 14 _ _ _ _ hV
set_option maxRecDepth 100000 in
theorem v_sa_subtractAmounts_18 (hG : qGood Ls xs P) {l1 l2 s0 s1 : Int32} {M : qMem} {Q : qPost}
    (hV : ((s0 ≤ s1 → Q (some (.int l1)) M) ∧ (¬ (s0 ≤ s1) → (((Int32.ofNat 64) ≤ l2 → Q (some (.int l1)) M) ∧ (¬ ((Int32.ofNat 64) ≤ l2) → (P 19 0 [(0, .ref 1), (1, .int l2)] [] M (fun v M' => P 78 28 [(0, .ref 0), (1, .int l1), (2, .int l2)] (v.toList ++ []) M' Q))))))) :
    P 78 18 [(0, .ref 0), (1, .int l1), (2, .int l2)] [.int s0, .int s1] M Q := by
  exact qRun_ok hG (ops := qo_78) (cuts := qc_sa_subtractAmounts) rfl 58 18 _ _ _ _ hV
set_option maxRecDepth 100000 in
theorem v_sa_subtractAmounts_28 (hG : qGood Ls xs P) {l1 l2 s0 : Int32} {M : qMem} {Q : qPost}
    (hV : ((s0 = 0 → (P 78 14 [(0, .ref 0), (1, .int l1), (2, .int (l2 + (1 : Int32)))] [] M Q)) ∧ (¬ (s0 = 0) → (vp_in l2 64 ∧ (((lg_cmp (M.2 5 l2.toNatClampNeg) (0 : Int64)) = 0 → (P 78 14 [(0, .ref 0), (1, .int l1), (2, .int (l2 + (1 : Int32)))] [] M Q)) ∧ (¬ ((lg_cmp (M.2 5 l2.toNatClampNeg) (0 : Int64)) = 0) → (P 20 0 [(0, .ref 1), (1, .int l2)] [] M (fun v M' => P 78 43 [(0, .ref 0), (1, .int l1), (2, .int l2)] (v.toList ++ [.int l2, .ref 1]) M' Q)))))))) :
    P 78 28 [(0, .ref 0), (1, .int l1), (2, .int l2)] [.int s0] M Q := by
  exact qRun_ok hG (ops := qo_78) (cuts := qc_sa_subtractAmounts) rfl 58 28 _ _ _ _ hV
set_option maxRecDepth 100000 in
theorem v_sa_subtractAmounts_43 (hG : qGood Ls xs P) {l1 l2 s0 s1 : Int32} {M : qMem} {Q : qPost}
    (hV : (vp_in l2 64 ∧ (P 21 0 [(0, .ref 1), (1, .int s1), (2, .int (s0.toInt64 - (M.2 5 l2.toNatClampNeg)).toInt32)] [] M (fun v M' => P 78 51 [(0, .ref 0), (1, .int l1), (2, .int l2)] (v.toList ++ []) M' Q)))) :
    P 78 43 [(0, .ref 0), (1, .int l1), (2, .int l2)] [.int s0, .int s1, .ref 1] M Q := by
  exact qRun_ok hG (ops := qo_78) (cuts := qc_sa_subtractAmounts) rfl 58 43 _ _ _ _ hV
set_option maxRecDepth 100000 in
theorem v_sa_subtractAmounts_51 (hG : qGood Ls xs P) {l1 l2 : Int32} {M : qMem} {Q : qPost}
    (hV : (P 78 14 [(0, .ref 0), (1, .int (l1 + (1 : Int32))), (2, .int (l2 + (1 : Int32)))] [] M Q)) :
    P 78 51 [(0, .ref 0), (1, .int l1), (2, .int l2)] [] M Q := by
  exact qRun_ok hG (ops := qo_78) (cuts := qc_sa_subtractAmounts) rfl 58 51 _ _ _ _ hV
def qc_sa_allStayPhases : List (Nat × List Nat) := [(2, [0, 1]), (6, [0, 1]), (16, [0, 1]), (21, [0, 1]), (28, [0, 1])]
theorem v_sa_allStayPhases_0 (hG : qGood Ls xs P) {M : qMem} {Q : qPost}
    (hV : (P 79 2 [(0, .ref 0), (1, .int (0 : Int32))] [] M Q)) :
    P 79 0 [(0, .ref 0)] [] M Q := by
  exact qRun_ok hG (ops := qo_79) (cuts := qc_sa_allStayPhases) rfl 37 0 _ _ _ _ hV
theorem v_sa_allStayPhases_2 (hG : qGood Ls xs P) {l1 : Int32} {M : qMem} {Q : qPost}
    (hV : (P 17 0 [(0, .ref 1)] [] M (fun v M' => P 79 6 [(0, .ref 0), (1, .int l1)] (v.toList ++ [.int l1]) M' Q))) :
    P 79 2 [(0, .ref 0), (1, .int l1)] [] M Q := by
  exact qRun_ok hG (ops := qo_79) (cuts := qc_sa_allStayPhases) rfl 37 2 _ _ _ _ hV
theorem v_sa_allStayPhases_6 (hG : qGood Ls xs P) {l1 s0 s1 : Int32} {M : qMem} {Q : qPost}
    (hV : ((s0 ≤ s1 → (narrow .boolean (.int (1 : Int32)) = .int (1 : Int32) ∧ Q (some (.int (1 : Int32))) M)) ∧ (¬ (s0 ≤ s1) → (((Int32.ofNat 64) ≤ l1 → (narrow .boolean (.int (1 : Int32)) = .int (1 : Int32) ∧ Q (some (.int (1 : Int32))) M)) ∧ (¬ ((Int32.ofNat 64) ≤ l1) → (P 19 0 [(0, .ref 1), (1, .int l1)] [] M (fun v M' => P 79 16 [(0, .ref 0), (1, .int l1)] (v.toList ++ []) M' Q))))))) :
    P 79 6 [(0, .ref 0), (1, .int l1)] [.int s0, .int s1] M Q := by
  exact qRun_ok hG (ops := qo_79) (cuts := qc_sa_allStayPhases) rfl 37 6 _ _ _ _ hV
theorem v_sa_allStayPhases_16 (hG : qGood Ls xs P) {l1 s0 : Int32} {M : qMem} {Q : qPost}
    (hV : ((s0 = 0 → (P 79 2 [(0, .ref 0), (1, .int (l1 + (1 : Int32)))] [] M Q)) ∧ (¬ (s0 = 0) → (P 20 0 [(0, .ref 1), (1, .int l1)] [] M (fun v M' => P 79 21 [(0, .ref 0), (1, .int l1)] (v.toList ++ []) M' Q))))) :
    P 79 16 [(0, .ref 0), (1, .int l1)] [.int s0] M Q := by
  exact qRun_ok hG (ops := qo_79) (cuts := qc_sa_allStayPhases) rfl 37 16 _ _ _ _ hV
theorem v_sa_allStayPhases_21 (hG : qGood Ls xs P) {l1 s0 : Int32} {M : qMem} {Q : qPost}
    (hV : (vp_in l1 64 ∧ (P 72 0 [(0, .long (s0.toInt64 - (M.2 5 l1.toNatClampNeg)))] [] M (fun v M' => P 79 28 [(0, .ref 0), (1, .int l1)] (v.toList ++ []) M' Q)))) :
    P 79 21 [(0, .ref 0), (1, .int l1)] [.int s0] M Q := by
  exact qRun_ok hG (ops := qo_79) (cuts := qc_sa_allStayPhases) rfl 37 21 _ _ _ _ hV
theorem v_sa_allStayPhases_28 (hG : qGood Ls xs P) {l1 s0 : Int32} {M : qMem} {Q : qPost}
    (hV : ((¬ s0 = 0 → (P 79 2 [(0, .ref 0), (1, .int (l1 + (1 : Int32)))] [] M Q)) ∧ (¬ (¬ s0 = 0) → (narrow .boolean (.int (0 : Int32)) = .int (0 : Int32) ∧ Q (some (.int (0 : Int32))) M)))) :
    P 79 28 [(0, .ref 0), (1, .int l1)] [.int s0] M Q := by
  exact qRun_ok hG (ops := qo_79) (cuts := qc_sa_allStayPhases) rfl 37 28 _ _ _ _ hV
def qc_sa_sumOfSecondDifferences : List (Nat × List Nat) := [(4, [0, 1, 3]), (8, [0, 1, 3]), (15, [0, 1, 3])]
theorem v_sa_sumOfSecondDifferences_0 (hG : qGood Ls xs P) {M : qMem} {Q : qPost}
    (hV : (P 80 4 [(0, .ref 0), (1, .long (0 : Int64)), (3, .int (0 : Int32))] [] M Q)) :
    P 80 0 [(0, .ref 0)] [] M Q := by
  exact qRun_ok hG (ops := qo_80) (cuts := qc_sa_sumOfSecondDifferences) rfl 30 0 _ _ _ _ hV
theorem v_sa_sumOfSecondDifferences_4 (hG : qGood Ls xs P) {l1 : Int64} {l3 : Int32} {M : qMem} {Q : qPost}
    (hV : (P 17 0 [(0, .ref 1)] [] M (fun v M' => P 80 8 [(0, .ref 0), (1, .long l1), (3, .int l3)] (v.toList ++ [.int l3]) M' Q))) :
    P 80 4 [(0, .ref 0), (1, .long l1), (3, .int l3)] [] M Q := by
  exact qRun_ok hG (ops := qo_80) (cuts := qc_sa_sumOfSecondDifferences) rfl 30 4 _ _ _ _ hV
theorem v_sa_sumOfSecondDifferences_8 (hG : qGood Ls xs P) {l1 : Int64} {l3 s0 s1 : Int32} {M : qMem} {Q : qPost}
    (hV : ((s0 ≤ s1 → Q (some (.long l1)) M) ∧ (¬ (s0 ≤ s1) → (P 36 0 [(0, .ref 1), (1, .int (2 : Int32)), (2, .int (1 : Int32)), (3, .int l3)] [] M (fun v M' => P 80 15 [(0, .ref 0), (1, .long l1), (3, .int l3)] (v.toList ++ []) M' Q))))) :
    P 80 8 [(0, .ref 0), (1, .long l1), (3, .int l3)] [.int s0, .int s1] M Q := by
  exact qRun_ok hG (ops := qo_80) (cuts := qc_sa_sumOfSecondDifferences) rfl 30 8 _ _ _ _ hV
theorem v_sa_sumOfSecondDifferences_15 (hG : qGood Ls xs P) {l1 : Int64} {l3 s0 : Int32} {M : qMem} {Q : qPost}
    (hV : ((s0 = (-1000000001 : Int32) → (P 80 4 [(0, .ref 0), (1, .long l1), (3, .int (l3 + (1 : Int32)))] [] M Q)) ∧ (¬ (s0 = (-1000000001 : Int32)) → (P 80 4 [(0, .ref 0), (1, .long (l1 + s0.toInt64)), (3, .int (l3 + (1 : Int32)))] [] M Q)))) :
    P 80 15 [(0, .ref 0), (1, .long l1), (3, .int l3)] [.int s0] M Q := by
  exact qRun_ok hG (ops := qo_80) (cuts := qc_sa_sumOfSecondDifferences) rfl 30 15 _ _ _ _ hV
def qc_sa_fillGap : List (Nat × List Nat) := [(2, [0, 1, 2, 3]), (16, [0, 1, 2, 3]), (18, [0, 1, 2, 3])]
theorem v_sa_fillGap_0 (hG : qGood Ls xs P) {l1 l2 : Int32} {M : qMem} {Q : qPost}
    (hV : (P 81 2 [(0, .ref 0), (1, .int l1), (2, .int l2), (3, .int l1)] [] M Q)) :
    P 81 0 [(0, .ref 0), (1, .int l1), (2, .int l2)] [] M Q := by
  exact qRun_ok hG (ops := qo_81) (cuts := qc_sa_fillGap) rfl 23 0 _ _ _ _ hV
theorem v_sa_fillGap_2 (hG : qGood Ls xs P) {l1 l2 l3 : Int32} {M : qMem} {Q : qPost}
    (hV : ((l2 ≤ l3 → Q none M) ∧ (¬ (l2 ≤ l3) → (P 33 0 [(0, .ref 1), (1, .int (l1 - (1 : Int32))), (2, .int l2), (3, .int l3)] [] M (fun v M' => P 81 16 [(0, .ref 0), (1, .int l1), (2, .int l2), (3, .int l3)] (v.toList ++ [.int l3, .ref 1]) M' Q))))) :
    P 81 2 [(0, .ref 0), (1, .int l1), (2, .int l2), (3, .int l3)] [] M Q := by
  exact qRun_ok hG (ops := qo_81) (cuts := qc_sa_fillGap) rfl 23 2 _ _ _ _ hV
theorem v_sa_fillGap_16 (hG : qGood Ls xs P) {s0 : Int64} {l1 l2 l3 s1 : Int32} {M : qMem} {Q : qPost}
    (hV : (P 21 0 [(0, .ref 1), (1, .int s1), (2, .int s0.toInt32)] [] M (fun v M' => P 81 18 [(0, .ref 0), (1, .int l1), (2, .int l2), (3, .int l3)] (v.toList ++ []) M' Q))) :
    P 81 16 [(0, .ref 0), (1, .int l1), (2, .int l2), (3, .int l3)] [.long s0, .int s1, .ref 1] M Q := by
  exact qRun_ok hG (ops := qo_81) (cuts := qc_sa_fillGap) rfl 23 16 _ _ _ _ hV
theorem v_sa_fillGap_18 (hG : qGood Ls xs P) {l1 l2 l3 : Int32} {M : qMem} {Q : qPost}
    (hV : (P 81 2 [(0, .ref 0), (1, .int l1), (2, .int l2), (3, .int (l3 + (1 : Int32)))] [] M Q)) :
    P 81 18 [(0, .ref 0), (1, .int l1), (2, .int l2), (3, .int l3)] [] M Q := by
  exact qRun_ok hG (ops := qo_81) (cuts := qc_sa_fillGap) rfl 23 18 _ _ _ _ hV
def qc_sa_greatestM : List (Nat × List Nat) := [(2, [0, 1]), (10, [0, 1])]
theorem v_sa_greatestM_0 (hG : qGood Ls xs P) {M : qMem} {Q : qPost}
    (hV : (P 82 2 [(0, .ref 0), (1, .int (31 : Int32))] [] M Q)) :
    P 82 0 [(0, .ref 0)] [] M Q := by
  exact qRun_ok hG (ops := qo_82) (cuts := qc_sa_greatestM) rfl 19 0 _ _ _ _ hV
theorem v_sa_greatestM_2 (hG : qGood Ls xs P) {l1 : Int32} {M : qMem} {Q : qPost}
    (hV : ((l1 < (1 : Int32) → Q (some (.int (0 : Int32))) M) ∧ (¬ (l1 < (1 : Int32)) → (P 35 0 [(0, .ref 1), (1, .int (2 : Int32)), (2, .int l1)] [] M (fun v M' => P 82 10 [(0, .ref 0), (1, .int l1)] (v.toList ++ []) M' Q))))) :
    P 82 2 [(0, .ref 0), (1, .int l1)] [] M Q := by
  exact qRun_ok hG (ops := qo_82) (cuts := qc_sa_greatestM) rfl 19 2 _ _ _ _ hV
theorem v_sa_greatestM_10 (hG : qGood Ls xs P) {l1 s0 : Int32} {M : qMem} {Q : qPost}
    (hV : ((s0 ≤ 0 → (P 82 2 [(0, .ref 0), (1, .int (l1 + (-1 : Int32)))] [] M Q)) ∧ (¬ (s0 ≤ 0) → Q (some (.int l1)) M))) :
    P 82 10 [(0, .ref 0), (1, .int l1)] [.int s0] M Q := by
  exact qRun_ok hG (ops := qo_82) (cuts := qc_sa_greatestM) rfl 19 10 _ _ _ _ hV
def qc_sa_measure : List (Nat × List Nat) := [(2, [0, 1, 2, 3]), (9, [0, 1, 2, 3, 4, 5, 7, 9]), (13, [0, 1, 2, 3, 4, 5, 7, 9]), (20, [0, 1, 2, 3, 4, 5, 7, 9]), (44, [7]), (47, [])]
set_option maxRecDepth 100000 in
theorem v_sa_measure_0 (hG : qGood Ls xs P) {k3 : Nat} {l1 l2 : Int32} {M : qMem} {Q : qPost} (hk3 : qFq k3)
    (hV : (P 84 0 [(0, .int l1)] [] M (fun v M' => P 83 2 [(0, .ref 0), (1, .int l1), (2, .int l2), (3, .ref k3)] (v.toList ++ []) M' Q))) :
    P 83 0 [(0, .ref 0), (1, .int l1), (2, .int l2), (3, .ref k3)] [] M Q := by
  exact qRun_ok hG (ops := qo_83) (cuts := qc_sa_measure) rfl 50 0 _ _ _ _ hV
set_option maxRecDepth 100000 in
theorem v_sa_measure_2 (hG : qGood Ls xs P) {k3 : Nat} {l1 l2 s0 : Int32} {M : qMem} {Q : qPost} (hk3 : qFq k3)
    (hV : (P 83 9 [(0, .ref 0), (1, .int l1), (2, .int l2), (3, .ref k3), (4, .int s0), (5, .long (0 : Int64)), (7, .long (0 : Int64)), (9, .int (0 : Int32))] [] M Q)) :
    P 83 2 [(0, .ref 0), (1, .int l1), (2, .int l2), (3, .ref k3)] [.int s0] M Q := by
  exact qRun_ok hG (ops := qo_83) (cuts := qc_sa_measure) rfl 50 2 _ _ _ _ hV
set_option maxRecDepth 100000 in
theorem v_sa_measure_9 (hG : qGood Ls xs P) {k3 : Nat} {l5 l7 : Int64} {l1 l2 l4 l9 : Int32} {M : qMem} {Q : qPost} (hk3 : qFq k3)
    (hV : (P 17 0 [(0, .ref 1)] [] M (fun v M' => P 83 13 [(0, .ref 0), (1, .int l1), (2, .int l2), (3, .ref k3), (4, .int l4), (5, .long l5), (7, .long l7), (9, .int l9)] (v.toList ++ [.int l9]) M' Q))) :
    P 83 9 [(0, .ref 0), (1, .int l1), (2, .int l2), (3, .ref k3), (4, .int l4), (5, .long l5), (7, .long l7), (9, .int l9)] [] M Q := by
  exact qRun_ok hG (ops := qo_83) (cuts := qc_sa_measure) rfl 50 9 _ _ _ _ hV
set_option maxRecDepth 100000 in
theorem v_sa_measure_13 (hG : qGood Ls xs P) {k3 : Nat} {l5 l7 : Int64} {l1 l2 l4 l9 s0 s1 : Int32} {M : qMem} {Q : qPost} (hk3 : qFq k3)
    (hV : ((s0 ≤ s1 → (P 85 0 [(0, .int l1), (1, .long l2.toInt64)] [] M (fun v M' => P 83 44 [(7, .long l7)] (v.toList ++ [.long l5, .ref k3]) M' Q))) ∧ (¬ (s0 ≤ s1) → (P 36 0 [(0, .ref 1), (1, .int l4), (2, .int l2), (3, .int l9)] [] M (fun v M' => P 83 20 [(0, .ref 0), (1, .int l1), (2, .int l2), (3, .ref k3), (4, .int l4), (5, .long l5), (7, .long l7), (9, .int l9)] (v.toList ++ []) M' Q))))) :
    P 83 13 [(0, .ref 0), (1, .int l1), (2, .int l2), (3, .ref k3), (4, .int l4), (5, .long l5), (7, .long l7), (9, .int l9)] [.int s0, .int s1] M Q := by
  exact qRun_ok hG (ops := qo_83) (cuts := qc_sa_measure) rfl 50 13 _ _ _ _ hV
set_option maxRecDepth 100000 in
theorem v_sa_measure_44 (hG : qGood Ls xs P) {k3 : Nat} {l7 s0 s1 : Int64} {M : qMem} {Q : qPost} (hk3 : qFq k3)
    (hV : (P 1 0 [(0, .ref k3), (1, .long s1), (3, .long (s0 * l7))] [] M (fun v M' => P 83 47 [] (v.toList ++ []) M' Q))) :
    P 83 44 [(7, .long l7)] [.long s0, .long s1, .ref k3] M Q := by
  refine qRun_ok hG (ops := qo_83) (cuts := qc_sa_measure) rfl 50 44 _ _ _ _ ?_
  have hF : bif Nat.beq (shT k3) 0 then (P 1 0 [(0, .ref k3), (1, .long s1), (3, .long (s0 * l7))] [] M (fun v M' => P 83 47 [] (v.toList ++ []) M' Q)) else False := by
    (try rw [hk3])
    exact hV
  exact hF
set_option maxRecDepth 100000 in
theorem v_sa_measure_20 (hG : qGood Ls xs P) {k3 : Nat} {l5 l7 : Int64} {l1 l2 l4 l9 s0 : Int32} {M : qMem} {Q : qPost} (hk3 : qFq k3)
    (hV : (((lg_cmp s0.toInt64 (-1000000001 : Int64)) = 0 → (P 83 9 [(0, .ref 0), (1, .int l1), (2, .int l2), (3, .ref k3), (4, .int l4), (5, .long l5), (7, .long l7), (9, .int (l9 + (1 : Int32)))] [] M Q)) ∧ (¬ ((lg_cmp s0.toInt64 (-1000000001 : Int64)) = 0) → (P 83 9 [(0, .ref 0), (1, .int l1), (2, .int l2), (3, .ref k3), (4, .int l4), (5, .long (l5 + (s0.toInt64 * s0.toInt64))), (7, .long (l7 + (1 : Int64))), (9, .int (l9 + (1 : Int32)))] [] M Q)))) :
    P 83 20 [(0, .ref 0), (1, .int l1), (2, .int l2), (3, .ref k3), (4, .int l4), (5, .long l5), (7, .long l7), (9, .int l9)] [.int s0] M Q := by
  exact qRun_ok hG (ops := qo_83) (cuts := qc_sa_measure) rfl 50 20 _ _ _ _ hV
set_option maxRecDepth 100000 in
theorem v_sa_measure_47 (hG : qGood Ls xs P) {M : qMem} {Q : qPost}
    (hV : Q none M) :
    P 83 47 [] [] M Q := by
  exact qRun_ok hG (ops := qo_83) (cuts := qc_sa_measure) rfl 50 47 _ _ _ _ hV
def qc_sa_orderFor : List (Nat × List Nat) := []
theorem v_sa_orderFor_0 (hG : qGood Ls xs P) {l0 : Int32} {M : qMem} {Q : qPost}
    (hV : ((¬ l0 = 0 → ((¬ l0 = (1 : Int32) → Q (some (.int (4 : Int32))) M) ∧ (¬ (¬ l0 = (1 : Int32)) → Q (some (.int (3 : Int32))) M))) ∧ (¬ (¬ l0 = 0) → Q (some (.int (2 : Int32))) M))) :
    P 84 0 [(0, .int l0)] [] M Q := by
  exact qRun_ok hG (ops := qo_84) (cuts := qc_sa_orderFor) rfl 13 0 _ _ _ _ hV
def qc_sa_divisorFor : List (Nat × List Nat) := []
theorem v_sa_divisorFor_0 (hG : qGood Ls xs P) {l1 : Int64} {l0 : Int32} {M : qMem} {Q : qPost}
    (hV : ((l0 = Int32.ofInt 0 → Q (some (.long (((2 : Int64) * l1) * l1))) M) ∧ (¬ (l0 = Int32.ofInt 0) → ((l0 = Int32.ofInt 2 → Q (some (.long (((((2 : Int64) * l1) * l1) * l1) * l1))) M) ∧ (¬ (l0 = Int32.ofInt 2) → Q (some (.long (((6 : Int64) * l1) * l1))) M))))) :
    P 85 0 [(0, .int l0), (1, .long l1)] [] M Q := by
  exact qRun_ok hG (ops := qo_85) (cuts := qc_sa_divisorFor) rfl 26 0 _ _ _ _ hV
def qc_sa_squareRoot : List (Nat × List Nat) := [(4, [0, 2, 4])]
theorem v_sa_squareRoot_0 (hG : qGood Ls xs P) {l0 : Int64} {M : qMem} {Q : qPost}
    (hV : (P 86 4 [(0, .long l0), (2, .long (0 : Int64)), (4, .int (30 : Int32))] [] M Q)) :
    P 86 0 [(0, .long l0)] [] M Q := by
  exact qRun_ok hG (ops := qo_86) (cuts := qc_sa_squareRoot) rfl 26 0 _ _ _ _ hV
theorem v_sa_squareRoot_4 (hG : qGood Ls xs P) {l0 l2 : Int64} {l4 : Int32} {M : qMem} {Q : qPost}
    (hV : ((l4 < 0 → Q (some (.long l2)) M) ∧ (¬ (l4 < 0) → ((0 < (lg_cmp ((l2 + ((1 : Int64) <<< (l4.toInt64 &&& 63))) * (l2 + ((1 : Int64) <<< (l4.toInt64 &&& 63)))) l0) → (P 86 4 [(0, .long l0), (2, .long l2), (4, .int (l4 + (-1 : Int32)))] [] M Q)) ∧ (¬ (0 < (lg_cmp ((l2 + ((1 : Int64) <<< (l4.toInt64 &&& 63))) * (l2 + ((1 : Int64) <<< (l4.toInt64 &&& 63)))) l0)) → (P 86 4 [(0, .long l0), (2, .long (l2 + ((1 : Int64) <<< (l4.toInt64 &&& 63)))), (4, .int (l4 + (-1 : Int32)))] [] M Q)))))) :
    P 86 4 [(0, .long l0), (2, .long l2), (4, .int l4)] [] M Q := by
  exact qRun_ok hG (ops := qo_86) (cuts := qc_sa_squareRoot) rfl 26 4 _ _ _ _ hV
def qc_sa_kindOfNoise : List (Nat × List Nat) := [(6, [0, 1]), (14, [0]), (17, [0]), (21, [0]), (34, [0, 2, 3]), (45, [0, 2, 3])]
set_option maxRecDepth 100000 in
theorem v_sa_kindOfNoise_0 (hG : qGood Ls xs P) {l1 : Int32} {M : qMem} {Q : qPost}
    (hV : (P 83 0 [(0, .ref 0), (1, .int (0 : Int32)), (2, .int l1), (3, .ref 34)] [] M (fun v M' => P 87 6 [(0, .ref 0), (1, .int l1)] (v.toList ++ []) M' Q))) :
    P 87 0 [(0, .ref 0), (1, .int l1)] [] M Q := by
  exact qRun_ok hG (ops := qo_87) (cuts := qc_sa_kindOfNoise) rfl 58 0 _ _ _ _ hV
set_option maxRecDepth 100000 in
theorem v_sa_kindOfNoise_6 (hG : qGood Ls xs P) {l1 : Int32} {M : qMem} {Q : qPost}
    (hV : (P 83 0 [(0, .ref 0), (1, .int (0 : Int32)), (2, .int ((2 : Int32) * l1)), (3, .ref 35)] [] M (fun v M' => P 87 14 [(0, .ref 0)] (v.toList ++ []) M' Q))) :
    P 87 6 [(0, .ref 0), (1, .int l1)] [] M Q := by
  exact qRun_ok hG (ops := qo_87) (cuts := qc_sa_kindOfNoise) rfl 58 6 _ _ _ _ hV
set_option maxRecDepth 100000 in
theorem v_sa_kindOfNoise_14 (hG : qGood Ls xs P) {M : qMem} {Q : qPost}
    (hV : (P 0 0 [(0, .ref 34)] [] M (fun v M' => P 87 17 [(0, .ref 0)] (v.toList ++ []) M' Q))) :
    P 87 14 [(0, .ref 0)] [] M Q := by
  exact qRun_ok hG (ops := qo_87) (cuts := qc_sa_kindOfNoise) rfl 58 14 _ _ _ _ hV
set_option maxRecDepth 100000 in
theorem v_sa_kindOfNoise_17 (hG : qGood Ls xs P) {s0 : Int32} {M : qMem} {Q : qPost}
    (hV : ((s0 = 0 → Q (some (.int (-1000000001 : Int32))) M) ∧ (¬ (s0 = 0) → (P 0 0 [(0, .ref 35)] [] M (fun v M' => P 87 21 [(0, .ref 0)] (v.toList ++ []) M' Q))))) :
    P 87 17 [(0, .ref 0)] [.int s0] M Q := by
  exact qRun_ok hG (ops := qo_87) (cuts := qc_sa_kindOfNoise) rfl 58 17 _ _ _ _ hV
set_option maxRecDepth 100000 in
theorem v_sa_kindOfNoise_21 (hG : qGood Ls xs P) {s0 : Int32} {M : qMem} {Q : qPost}
    (hV : ((s0 = 0 → Q (some (.int (-1000000001 : Int32))) M) ∧ (¬ (s0 = 0) → ((¬ (lg_cmp (M.2 34 0) (0 : Int64)) = 0 → (P 87 34 [(0, .ref 0), (2, .int (0 : Int32)), (3, .int (8 : Int32))] [] M Q)) ∧ (¬ (¬ (lg_cmp (M.2 34 0) (0 : Int64)) = 0) → Q (some (.int (-1000000001 : Int32))) M))))) :
    P 87 21 [(0, .ref 0)] [.int s0] M Q := by
  exact qRun_ok hG (ops := qo_87) (cuts := qc_sa_kindOfNoise) rfl 58 21 _ _ _ _ hV
set_option maxRecDepth 100000 in
theorem v_sa_kindOfNoise_34 (hG : qGood Ls xs P) {l2 l3 : Int32} {M : qMem} {Q : qPost}
    (hV : ((l3 < (1 : Int32) → Q (some (.int l2)) M) ∧ (¬ (l3 < (1 : Int32)) → (P 3 0 [(0, .ref 35), (1, .long l3.toInt64), (3, .ref 34), (4, .long (3 : Int64))] [] M (fun v M' => P 87 45 [(0, .ref 0), (2, .int l2), (3, .int l3)] (v.toList ++ []) M' Q))))) :
    P 87 34 [(0, .ref 0), (2, .int l2), (3, .int l3)] [] M Q := by
  exact qRun_ok hG (ops := qo_87) (cuts := qc_sa_kindOfNoise) rfl 58 34 _ _ _ _ hV
set_option maxRecDepth 100000 in
theorem v_sa_kindOfNoise_45 (hG : qGood Ls xs P) {l2 l3 s0 : Int32} {M : qMem} {Q : qPost}
    (hV : ((0 < s0 → (¬ (2 : Int32) = 0 ∧ (P 87 34 [(0, .ref 0), (2, .int (l2 + (1 : Int32))), (3, .int (l3 / (2 : Int32)))] [] M Q))) ∧ (¬ (0 < s0) → Q (some (.int l2)) M))) :
    P 87 45 [(0, .ref 0), (2, .int l2), (3, .int l3)] [.int s0] M Q := by
  exact qRun_ok hG (ops := qo_87) (cuts := qc_sa_kindOfNoise) rfl 58 45 _ _ _ _ hV
def qc_sa_degreesOfFreedom : List (Nat × List Nat) := []
set_option maxRecDepth 100000 in
theorem v_sa_degreesOfFreedom_0 (hG : qGood Ls xs P) {l0 l1 l2 : Int32} {M : qMem} {Q : qPost}
    (hV : ((l1 < (1 : Int32) → Q (some (.int (0 : Int32))) M) ∧ (¬ (l1 < (1 : Int32)) → (((1 : Int32) ≤ l2 → ((l0 = Int32.ofInt 0 → (¬ ((2 : Int32) * (l1 + l2)) = 0 ∧ Q (some (.int (((l1 + (1 : Int32)) * (l1 + ((2 : Int32) * l2))) / ((2 : Int32) * (l1 + l2))))) M)) ∧ (¬ (l0 = Int32.ofInt 0) → ((l0 = Int32.ofInt 1 → (¬ ((2 : Int32) * (l1 + l2)) = 0 ∧ Q (some (.int ((((3 : Int32) * l1) * l1) / ((2 : Int32) * (l1 + l2))))) M)) ∧ (¬ (l0 = Int32.ofInt 1) → ((l0 = Int32.ofInt 2 → (¬ ((4 : Int32) * (l1 + ((3 : Int32) * l2))) = 0 ∧ Q (some (.int ((((5 : Int32) * l1) * l1) / ((4 : Int32) * (l1 + ((3 : Int32) * l2)))))) M)) ∧ (¬ (l0 = Int32.ofInt 2) → (¬ l2 = 0 ∧ Q (some (.int (l1 / l2))) M)))))))) ∧ (¬ ((1 : Int32) ≤ l2) → Q (some (.int (0 : Int32))) M))))) :
    P 88 0 [(0, .int l0), (1, .int l1), (2, .int l2)] [] M Q := by
  exact qRun_ok hG (ops := qo_88) (cuts := qc_sa_degreesOfFreedom) rfl 58 0 _ _ _ _ hV
end VC
end
section
/-! what is to be shown, segment by segment: md (printed by wip/genvc.py) -/
section VC
variable {Ls : Nat} {xs : Nat → Int32} {P : qSem}
def qc_md_isIn : List (Nat × List Nat) := []
theorem v_md_isIn_0 (hG : qGood Ls xs P) {l0 l1 l2 : Int32} {M : qMem} {Q : qPost}
    (hV : ((l0 < l1 → (narrow .boolean (.int (0 : Int32)) = .int (0 : Int32) ∧ Q (some (.int (0 : Int32))) M)) ∧ (¬ (l0 < l1) → ((l2 < l0 → (narrow .boolean (.int (0 : Int32)) = .int (0 : Int32) ∧ Q (some (.int (0 : Int32))) M)) ∧ (¬ (l2 < l0) → (narrow .boolean (.int (1 : Int32)) = .int (1 : Int32) ∧ Q (some (.int (1 : Int32))) M)))))) :
    P 89 0 [(0, .int l0), (1, .int l1), (2, .int l2)] [] M Q := by
  exact qRun_ok hG (ops := qo_89) (cuts := qc_md_isIn) rfl 12 0 _ _ _ _ hV
def qc_md_many : List (Nat × List Nat) := []
theorem v_md_many_0 (hG : qGood Ls xs P) {M : qMem} {Q : qPost}
    (hV : (vp_in (64 : Int32) 65 ∧ Q (some (.int (M.1 37 (64 : Int32).toNatClampNeg))) M)) :
    P 90 0 [(0, .ref 36)] [] M Q := by
  exact qRun_ok hG (ops := qo_90) (cuts := qc_md_many) rfl 7 0 _ _ _ _ hV
def qc_md_isReading : List (Nat × List Nat) := [(4, []), (7, [])]
theorem v_md_isReading_0 (hG : qGood Ls xs P) {l1 : Int32} {M : qMem} {Q : qPost}
    (hV : (P 90 0 [(0, .ref 36)] [] M (fun v M' => P 91 4 [] (v.toList ++ [.int (0 : Int32), .int l1]) M' Q))) :
    P 91 0 [(0, .ref 36), (1, .int l1)] [] M Q := by
  exact qRun_ok hG (ops := qo_91) (cuts := qc_md_isReading) rfl 10 0 _ _ _ _ hV
theorem v_md_isReading_4 (hG : qGood Ls xs P) {s0 s1 s2 : Int32} {M : qMem} {Q : qPost}
    (hV : (P 89 0 [(0, .int s2), (1, .int s1), (2, .int (s0 - (1 : Int32)))] [] M (fun v M' => P 91 7 [] (v.toList ++ []) M' Q))) :
    P 91 4 [] [.int s0, .int s1, .int s2] M Q := by
  exact qRun_ok hG (ops := qo_91) (cuts := qc_md_isReading) rfl 10 4 _ _ _ _ hV
theorem v_md_isReading_7 (hG : qGood Ls xs P) {s0 : Int32} {M : qMem} {Q : qPost}
    (hV : (narrow .boolean (.int s0) = .int s0 ∧ Q (some (.int s0)) M)) :
    P 91 7 [] [.int s0] M Q := by
  exact qRun_ok hG (ops := qo_91) (cuts := qc_md_isReading) rfl 10 7 _ _ _ _ hV
def qc_md_isThere : List (Nat × List Nat) := [(3, [0, 1])]
theorem v_md_isThere_0 (hG : qGood Ls xs P) {l1 : Int32} {M : qMem} {Q : qPost}
    (hV : (P 91 0 [(0, .ref 36), (1, .int l1)] [] M (fun v M' => P 92 3 [(0, .ref 36), (1, .int l1)] (v.toList ++ []) M' Q))) :
    P 92 0 [(0, .ref 36), (1, .int l1)] [] M Q := by
  exact qRun_ok hG (ops := qo_92) (cuts := qc_md_isThere) rfl 16 0 _ _ _ _ hV
theorem v_md_isThere_3 (hG : qGood Ls xs P) {l1 s0 : Int32} {M : qMem} {Q : qPost}
    (hV : ((s0 = 0 → (narrow .boolean (.int (0 : Int32)) = .int (0 : Int32) ∧ Q (some (.int (0 : Int32))) M)) ∧ (¬ (s0 = 0) → (vp_in l1 65 ∧ (((M.1 37 l1.toNatClampNeg) = (-1000000001 : Int32) → (narrow .boolean (.int (0 : Int32)) = .int (0 : Int32) ∧ Q (some (.int (0 : Int32))) M)) ∧ (¬ ((M.1 37 l1.toNatClampNeg) = (-1000000001 : Int32)) → (narrow .boolean (.int (1 : Int32)) = .int (1 : Int32) ∧ Q (some (.int (1 : Int32))) M))))))) :
    P 92 3 [(0, .ref 36), (1, .int l1)] [.int s0] M Q := by
  exact qRun_ok hG (ops := qo_92) (cuts := qc_md_isThere) rfl 16 3 _ _ _ _ hV
def qc_md_remember : List (Nat × List Nat) := [(6, [0, 1]), (29, [0, 1])]
set_option maxRecDepth 100000 in
theorem v_md_remember_0 (hG : qGood Ls xs P) {M : qMem} {Q : qPost}
    (hV : ((¬ (M.1 36 2) = (8 : Int32) → (P 93 29 [(0, .ref 36), (1, .int (0 : Int32))] [] M Q)) ∧ (¬ (¬ (M.1 36 2) = (8 : Int32)) → (P 93 6 [(0, .ref 36), (1, .int (0 : Int32))] [] M Q)))) :
    P 93 0 [(0, .ref 36)] [] M Q := by
  exact qRun_ok hG (ops := qo_93) (cuts := qc_md_remember) rfl 56 0 _ _ _ _ hV
set_option maxRecDepth 100000 in
theorem v_md_remember_29 (hG : qGood Ls xs P) {l1 : Int32} {M : qMem} {Q : qPost}
    (hV : (((65 : Int32) ≤ l1 → Q none (pI M 36 2 ((M.1 36 2) + (1 : Int32)))) ∧ (¬ ((65 : Int32) ≤ l1) → (vp_in l1 65 ∧ (vp_in (((65 : Int32) * (M.1 36 2)) + l1) 520 ∧ (P 93 29 [(0, .ref 36), (1, .int (l1 + (1 : Int32)))] [] (pI M 38 (((65 : Int32) * (M.1 36 2)) + l1).toNatClampNeg (M.1 37 l1.toNatClampNeg)) Q)))))) :
    P 93 29 [(0, .ref 36), (1, .int l1)] [] M Q := by
  exact qRun_ok hG (ops := qo_93) (cuts := qc_md_remember) rfl 56 29 _ _ _ _ hV
set_option maxRecDepth 100000 in
theorem v_md_remember_6 (hG : qGood Ls xs P) {l1 : Int32} {M : qMem} {Q : qPost}
    (hV : (((455 : Int32) ≤ l1 → (P 93 29 [(0, .ref 36), (1, .int (0 : Int32))] [] (pI M 36 2 ((M.1 36 2) - (1 : Int32))) Q)) ∧ (¬ ((455 : Int32) ≤ l1) → (vp_in (l1 + (65 : Int32)) 520 ∧ (vp_in l1 520 ∧ (P 93 6 [(0, .ref 36), (1, .int (l1 + (1 : Int32)))] [] (pI M 38 l1.toNatClampNeg (M.1 38 (l1 + (65 : Int32)).toNatClampNeg)) Q)))))) :
    P 93 6 [(0, .ref 36), (1, .int l1)] [] M Q := by
  exact qRun_ok hG (ops := qo_93) (cuts := qc_md_remember) rfl 56 6 _ _ _ _ hV
def qc_md_isPhase : List (Nat × List Nat) := []
theorem v_md_isPhase_0 (hG : qGood Ls xs P) {l0 : Int64} {M : qMem} {Q : qPost}
    (hV : (((lg_cmp l0 (-99999 : Int64)) < 0 → (narrow .boolean (.int (0 : Int32)) = .int (0 : Int32) ∧ Q (some (.int (0 : Int32))) M)) ∧ (¬ ((lg_cmp l0 (-99999 : Int64)) < 0) → ((0 < (lg_cmp l0 (99999 : Int64)) → (narrow .boolean (.int (0 : Int32)) = .int (0 : Int32) ∧ Q (some (.int (0 : Int32))) M)) ∧ (¬ (0 < (lg_cmp l0 (99999 : Int64))) → (narrow .boolean (.int (1 : Int32)) = .int (1 : Int32) ∧ Q (some (.int (1 : Int32))) M)))))) :
    P 94 0 [(0, .long l0)] [] M Q := by
  exact qRun_ok hG (ops := qo_94) (cuts := qc_md_isPhase) rfl 14 0 _ _ _ _ hV
def qc_md_floor : List (Nat × List Nat) := []
theorem v_md_floor_0 (hG : qGood Ls xs P) {l0 l2 : Int64} {M : qMem} {Q : qPost}
    (hV : (¬ l2 = 0 ∧ (¬ l2 = 0 ∧ ((0 ≤ (lg_cmp (l0 - l0 / l2 * l2) (0 : Int64)) → Q (some (.long (l0 / l2))) M) ∧ (¬ (0 ≤ (lg_cmp (l0 - l0 / l2 * l2) (0 : Int64))) → Q (some (.long ((l0 / l2) - (1 : Int64)))) M))))) :
    P 95 0 [(0, .long l0), (2, .long l2)] [] M Q := by
  exact qRun_ok hG (ops := qo_95) (cuts := qc_md_floor) rfl 18 0 _ _ _ _ hV
def qc_md_add : List (Nat × List Nat) := [(3, [0, 1]), (8, [0, 1]), (14, [0, 1]), (18, [0, 1]), (30, [])]
theorem v_md_add_0 (hG : qGood Ls xs P) {l1 : Int32} {M : qMem} {Q : qPost}
    (hV : (P 94 0 [(0, .long l1.toInt64)] [] M (fun v M' => P 96 3 [(0, .ref 36), (1, .int l1)] (v.toList ++ []) M' Q))) :
    P 96 0 [(0, .ref 36), (1, .int l1)] [] M Q := by
  exact qRun_ok hG (ops := qo_96) (cuts := qc_md_add) rfl 35 0 _ _ _ _ hV
theorem v_md_add_3 (hG : qGood Ls xs P) {l1 s0 : Int32} {M : qMem} {Q : qPost}
    (hV : ((¬ s0 = 0 → (P 90 0 [(0, .ref 36)] [] M (fun v M' => P 96 8 [(0, .ref 36), (1, .int l1)] (v.toList ++ []) M' Q))) ∧ (¬ (¬ s0 = 0) → Q (some (.int (-1000000002 : Int32))) M))) :
    P 96 3 [(0, .ref 36), (1, .int l1)] [.int s0] M Q := by
  exact qRun_ok hG (ops := qo_96) (cuts := qc_md_add) rfl 35 3 _ _ _ _ hV
theorem v_md_add_8 (hG : qGood Ls xs P) {l1 s0 : Int32} {M : qMem} {Q : qPost}
    (hV : ((¬ s0 = (64 : Int32) → (P 93 0 [(0, .ref 36)] [] M (fun v M' => P 96 14 [(0, .ref 36), (1, .int l1)] (v.toList ++ []) M' Q))) ∧ (¬ (¬ s0 = (64 : Int32)) → Q (some (.int (-1000000004 : Int32))) M))) :
    P 96 8 [(0, .ref 36), (1, .int l1)] [.int s0] M Q := by
  exact qRun_ok hG (ops := qo_96) (cuts := qc_md_add) rfl 35 8 _ _ _ _ hV
theorem v_md_add_14 (hG : qGood Ls xs P) {l1 : Int32} {M : qMem} {Q : qPost}
    (hV : (P 90 0 [(0, .ref 36)] [] M (fun v M' => P 96 18 [(0, .ref 36), (1, .int l1)] (v.toList ++ [.ref 37]) M' Q))) :
    P 96 14 [(0, .ref 36), (1, .int l1)] [] M Q := by
  exact qRun_ok hG (ops := qo_96) (cuts := qc_md_add) rfl 35 14 _ _ _ _ hV
theorem v_md_add_18 (hG : qGood Ls xs P) {l1 s0 : Int32} {M : qMem} {Q : qPost}
    (hV : (vp_in s0 65 ∧ (vp_in (64 : Int32) 65 ∧ (vp_in (64 : Int32) 65 ∧ (P 90 0 [(0, .ref 36)] [] (pI (pI M 37 s0.toNatClampNeg l1) 37 (64 : Int32).toNatClampNeg (((pI M 37 s0.toNatClampNeg l1).1 37 (64 : Int32).toNatClampNeg) + (1 : Int32))) (fun v M' => P 96 30 [] (v.toList ++ []) M' Q)))))) :
    P 96 18 [(0, .ref 36), (1, .int l1)] [.int s0, .ref 37] M Q := by
  exact qRun_ok hG (ops := qo_96) (cuts := qc_md_add) rfl 35 18 _ _ _ _ hV
theorem v_md_add_30 (hG : qGood Ls xs P) {s0 : Int32} {M : qMem} {Q : qPost}
    (hV : Q (some (.int (s0 - (1 : Int32)))) M) :
    P 96 30 [] [.int s0] M Q := by
  exact qRun_ok hG (ops := qo_96) (cuts := qc_md_add) rfl 35 30 _ _ _ _ hV
def qc_md_skip : List (Nat × List Nat) := [(4, [0, 1]), (9, [0, 1]), (17, [0, 1]), (19, [0, 1, 2]), (26, [0, 1, 2]), (42, [])]
set_option maxRecDepth 100000 in
theorem v_md_skip_0 (hG : qGood Ls xs P) {l1 : Int32} {M : qMem} {Q : qPost}
    (hV : (P 89 0 [(0, .int l1), (1, .int (1 : Int32)), (2, .int (64 : Int32))] [] M (fun v M' => P 97 4 [(0, .ref 36), (1, .int l1)] (v.toList ++ []) M' Q))) :
    P 97 0 [(0, .ref 36), (1, .int l1)] [] M Q := by
  exact qRun_ok hG (ops := qo_97) (cuts := qc_md_skip) rfl 45 0 _ _ _ _ hV
set_option maxRecDepth 100000 in
theorem v_md_skip_4 (hG : qGood Ls xs P) {l1 s0 : Int32} {M : qMem} {Q : qPost}
    (hV : ((¬ s0 = 0 → (P 90 0 [(0, .ref 36)] [] M (fun v M' => P 97 9 [(0, .ref 36), (1, .int l1)] (v.toList ++ []) M' Q))) ∧ (¬ (¬ s0 = 0) → Q (some (.int (-1000000002 : Int32))) M))) :
    P 97 4 [(0, .ref 36), (1, .int l1)] [.int s0] M Q := by
  exact qRun_ok hG (ops := qo_97) (cuts := qc_md_skip) rfl 45 4 _ _ _ _ hV
set_option maxRecDepth 100000 in
theorem v_md_skip_9 (hG : qGood Ls xs P) {l1 s0 : Int32} {M : qMem} {Q : qPost}
    (hV : (((s0 + l1) ≤ (64 : Int32) → (P 93 0 [(0, .ref 36)] [] M (fun v M' => P 97 17 [(0, .ref 36), (1, .int l1)] (v.toList ++ []) M' Q))) ∧ (¬ ((s0 + l1) ≤ (64 : Int32)) → Q (some (.int (-1000000004 : Int32))) M))) :
    P 97 9 [(0, .ref 36), (1, .int l1)] [.int s0] M Q := by
  exact qRun_ok hG (ops := qo_97) (cuts := qc_md_skip) rfl 45 9 _ _ _ _ hV
set_option maxRecDepth 100000 in
theorem v_md_skip_17 (hG : qGood Ls xs P) {l1 : Int32} {M : qMem} {Q : qPost}
    (hV : (P 97 19 [(0, .ref 36), (1, .int l1), (2, .int (0 : Int32))] [] M Q)) :
    P 97 17 [(0, .ref 36), (1, .int l1)] [] M Q := by
  exact qRun_ok hG (ops := qo_97) (cuts := qc_md_skip) rfl 45 17 _ _ _ _ hV
set_option maxRecDepth 100000 in
theorem v_md_skip_19 (hG : qGood Ls xs P) {l1 l2 : Int32} {M : qMem} {Q : qPost}
    (hV : ((l1 ≤ l2 → (vp_in (64 : Int32) 65 ∧ (vp_in (64 : Int32) 65 ∧ (P 90 0 [(0, .ref 36)] [] (pI M 37 (64 : Int32).toNatClampNeg ((M.1 37 (64 : Int32).toNatClampNeg) + l1)) (fun v M' => P 97 42 [] (v.toList ++ []) M' Q))))) ∧ (¬ (l1 ≤ l2) → (P 90 0 [(0, .ref 36)] [] M (fun v M' => P 97 26 [(0, .ref 36), (1, .int l1), (2, .int l2)] (v.toList ++ [.ref 37]) M' Q))))) :
    P 97 19 [(0, .ref 36), (1, .int l1), (2, .int l2)] [] M Q := by
  exact qRun_ok hG (ops := qo_97) (cuts := qc_md_skip) rfl 45 19 _ _ _ _ hV
set_option maxRecDepth 100000 in
theorem v_md_skip_42 (hG : qGood Ls xs P) {s0 : Int32} {M : qMem} {Q : qPost}
    (hV : Q (some (.int s0)) M) :
    P 97 42 [] [.int s0] M Q := by
  exact qRun_ok hG (ops := qo_97) (cuts := qc_md_skip) rfl 45 42 _ _ _ _ hV
set_option maxRecDepth 100000 in
theorem v_md_skip_26 (hG : qGood Ls xs P) {l1 l2 s0 : Int32} {M : qMem} {Q : qPost}
    (hV : (vp_in (s0 + l2) 65 ∧ (P 97 19 [(0, .ref 36), (1, .int l1), (2, .int (l2 + (1 : Int32)))] [] (pI M 37 (s0 + l2).toNatClampNeg (-1000000001 : Int32)) Q))) :
    P 97 26 [(0, .ref 36), (1, .int l1), (2, .int l2)] [.int s0, .ref 37] M Q := by
  exact qRun_ok hG (ops := qo_97) (cuts := qc_md_skip) rfl 45 26 _ _ _ _ hV
def qc_md_set : List (Nat × List Nat) := [(3, [0, 1, 2]), (7, [0, 1, 2]), (15, [0, 1, 2])]
theorem v_md_set_0 (hG : qGood Ls xs P) {l1 l2 : Int32} {M : qMem} {Q : qPost}
    (hV : (P 91 0 [(0, .ref 36), (1, .int l1)] [] M (fun v M' => P 98 3 [(0, .ref 36), (1, .int l1), (2, .int l2)] (v.toList ++ []) M' Q))) :
    P 98 0 [(0, .ref 36), (1, .int l1), (2, .int l2)] [] M Q := by
  exact qRun_ok hG (ops := qo_98) (cuts := qc_md_set) rfl 29 0 _ _ _ _ hV
theorem v_md_set_3 (hG : qGood Ls xs P) {l1 l2 s0 : Int32} {M : qMem} {Q : qPost}
    (hV : ((s0 = 0 → Q (some (.int (-1000000002 : Int32))) M) ∧ (¬ (s0 = 0) → (P 94 0 [(0, .long l2.toInt64)] [] M (fun v M' => P 98 7 [(0, .ref 36), (1, .int l1), (2, .int l2)] (v.toList ++ []) M' Q))))) :
    P 98 3 [(0, .ref 36), (1, .int l1), (2, .int l2)] [.int s0] M Q := by
  exact qRun_ok hG (ops := qo_98) (cuts := qc_md_set) rfl 29 3 _ _ _ _ hV
theorem v_md_set_7 (hG : qGood Ls xs P) {l1 l2 s0 : Int32} {M : qMem} {Q : qPost}
    (hV : ((¬ s0 = 0 → (P 93 0 [(0, .ref 36)] [] M (fun v M' => P 98 15 [(0, .ref 36), (1, .int l1), (2, .int l2)] (v.toList ++ []) M' Q))) ∧ (¬ (¬ s0 = 0) → ((l2 = (-1000000001 : Int32) → (P 93 0 [(0, .ref 36)] [] M (fun v M' => P 98 15 [(0, .ref 36), (1, .int l1), (2, .int l2)] (v.toList ++ []) M' Q))) ∧ (¬ (l2 = (-1000000001 : Int32)) → Q (some (.int (-1000000002 : Int32))) M))))) :
    P 98 7 [(0, .ref 36), (1, .int l1), (2, .int l2)] [.int s0] M Q := by
  exact qRun_ok hG (ops := qo_98) (cuts := qc_md_set) rfl 29 7 _ _ _ _ hV
theorem v_md_set_15 (hG : qGood Ls xs P) {l1 l2 : Int32} {M : qMem} {Q : qPost}
    (hV : (vp_in l1 65 ∧ (vp_in l1 65 ∧ Q (some (.int (M.1 37 l1.toNatClampNeg))) (pI M 37 l1.toNatClampNeg l2)))) :
    P 98 15 [(0, .ref 36), (1, .int l1), (2, .int l2)] [] M Q := by
  exact qRun_ok hG (ops := qo_98) (cuts := qc_md_set) rfl 29 15 _ _ _ _ hV
def qc_md_clear : List (Nat × List Nat) := [(2, [0]), (5, [0, 1])]
theorem v_md_clear_0 (hG : qGood Ls xs P) {M : qMem} {Q : qPost}
    (hV : (P 90 0 [(0, .ref 36)] [] M (fun v M' => P 99 2 [(0, .ref 36)] (v.toList ++ []) M' Q))) :
    P 99 0 [(0, .ref 36)] [] M Q := by
  exact qRun_ok hG (ops := qo_99) (cuts := qc_md_clear) rfl 14 0 _ _ _ _ hV
theorem v_md_clear_2 (hG : qGood Ls xs P) {s0 : Int32} {M : qMem} {Q : qPost}
    (hV : (P 93 0 [(0, .ref 36)] [] M (fun v M' => P 99 5 [(0, .ref 36), (1, .int s0)] (v.toList ++ []) M' Q))) :
    P 99 2 [(0, .ref 36)] [.int s0] M Q := by
  exact qRun_ok hG (ops := qo_99) (cuts := qc_md_clear) rfl 14 2 _ _ _ _ hV
theorem v_md_clear_5 (hG : qGood Ls xs P) {l1 : Int32} {M : qMem} {Q : qPost}
    (hV : (vp_in (64 : Int32) 65 ∧ Q (some (.int l1)) (pI M 37 (64 : Int32).toNatClampNeg (0 : Int32)))) :
    P 99 5 [(0, .ref 36), (1, .int l1)] [] M Q := by
  exact qRun_ok hG (ops := qo_99) (cuts := qc_md_clear) rfl 14 5 _ _ _ _ hV
def qc_md_subtract : List (Nat × List Nat) := [(4, [0, 1, 2]), (7, [0, 1, 2]), (11, [0, 1, 2]), (23, [0, 1, 2]), (30, [0, 2]), (47, [0, 1]), (49, [0, 1, 2]), (52, [0, 1, 2]), (59, [0, 1, 2])]
set_option maxRecDepth 100000 in
theorem v_md_subtract_0 (hG : qGood Ls xs P) {M : qMem} {Q : qPost}
    (hV : (P 100 4 [(0, .ref 36), (1, .int (0 : Int32)), (2, .int (0 : Int32))] [] M Q)) :
    P 100 0 [(0, .ref 36)] [] M Q := by
  exact qRun_ok hG (ops := qo_100) (cuts := qc_md_subtract) rfl 80 0 _ _ _ _ hV
set_option maxRecDepth 100000 in
theorem v_md_subtract_4 (hG : qGood Ls xs P) {l1 l2 : Int32} {M : qMem} {Q : qPost}
    (hV : (P 90 0 [(0, .ref 36)] [] M (fun v M' => P 100 7 [(0, .ref 36), (1, .int l1), (2, .int l2)] (v.toList ++ [.int l2]) M' Q))) :
    P 100 4 [(0, .ref 36), (1, .int l1), (2, .int l2)] [] M Q := by
  exact qRun_ok hG (ops := qo_100) (cuts := qc_md_subtract) rfl 80 4 _ _ _ _ hV
set_option maxRecDepth 100000 in
theorem v_md_subtract_7 (hG : qGood Ls xs P) {l1 l2 s0 s1 : Int32} {M : qMem} {Q : qPost}
    (hV : ((s0 ≤ s1 → (P 93 0 [(0, .ref 36)] [] M (fun v M' => P 100 47 [(0, .ref 36), (1, .int l1)] (v.toList ++ []) M' Q))) ∧ (¬ (s0 ≤ s1) → (P 92 0 [(0, .ref 36), (1, .int l2)] [] M (fun v M' => P 100 11 [(0, .ref 36), (1, .int l1), (2, .int l2)] (v.toList ++ []) M' Q))))) :
    P 100 7 [(0, .ref 36), (1, .int l1), (2, .int l2)] [.int s0, .int s1] M Q := by
  exact qRun_ok hG (ops := qo_100) (cuts := qc_md_subtract) rfl 80 7 _ _ _ _ hV
set_option maxRecDepth 100000 in
theorem v_md_subtract_47 (hG : qGood Ls xs P) {l1 : Int32} {M : qMem} {Q : qPost}
    (hV : (P 100 49 [(0, .ref 36), (1, .int l1), (2, .int (0 : Int32))] [] M Q)) :
    P 100 47 [(0, .ref 36), (1, .int l1)] [] M Q := by
  exact qRun_ok hG (ops := qo_100) (cuts := qc_md_subtract) rfl 80 47 _ _ _ _ hV
set_option maxRecDepth 100000 in
theorem v_md_subtract_11 (hG : qGood Ls xs P) {l1 l2 s0 : Int32} {M : qMem} {Q : qPost}
    (hV : ((s0 = 0 → (P 92 0 [(0, .ref 36), (1, .int l2)] [] M (fun v M' => P 100 30 [(0, .ref 36), (2, .int l2)] (v.toList ++ [.int l1]) M' Q))) ∧ (¬ (s0 = 0) → (vp_in l2 65 ∧ (vp_in l2 64 ∧ (P 94 0 [(0, .long ((M.1 37 l2.toNatClampNeg).toInt64 - (M.2 41 l2.toNatClampNeg)))] [] M (fun v M' => P 100 23 [(0, .ref 36), (1, .int l1), (2, .int l2)] (v.toList ++ []) M' Q))))))) :
    P 100 11 [(0, .ref 36), (1, .int l1), (2, .int l2)] [.int s0] M Q := by
  exact qRun_ok hG (ops := qo_100) (cuts := qc_md_subtract) rfl 80 11 _ _ _ _ hV
set_option maxRecDepth 100000 in
theorem v_md_subtract_49 (hG : qGood Ls xs P) {l1 l2 : Int32} {M : qMem} {Q : qPost}
    (hV : (P 90 0 [(0, .ref 36)] [] M (fun v M' => P 100 52 [(0, .ref 36), (1, .int l1), (2, .int l2)] (v.toList ++ [.int l2]) M' Q))) :
    P 100 49 [(0, .ref 36), (1, .int l1), (2, .int l2)] [] M Q := by
  exact qRun_ok hG (ops := qo_100) (cuts := qc_md_subtract) rfl 80 49 _ _ _ _ hV
set_option maxRecDepth 100000 in
theorem v_md_subtract_30 (hG : qGood Ls xs P) {l2 s0 s1 : Int32} {M : qMem} {Q : qPost}
    (hV : ((s0 = 0 → (P 100 4 [(0, .ref 36), (1, .int (s1 + (0 : Int32))), (2, .int (l2 + (1 : Int32)))] [] M Q)) ∧ (¬ (s0 = 0) → (vp_in l2 64 ∧ (((lg_cmp (M.2 41 l2.toNatClampNeg) (0 : Int64)) = 0 → (P 100 4 [(0, .ref 36), (1, .int (s1 + (0 : Int32))), (2, .int (l2 + (1 : Int32)))] [] M Q)) ∧ (¬ ((lg_cmp (M.2 41 l2.toNatClampNeg) (0 : Int64)) = 0) → (P 100 4 [(0, .ref 36), (1, .int (s1 + (1 : Int32))), (2, .int (l2 + (1 : Int32)))] [] M Q))))))) :
    P 100 30 [(0, .ref 36), (2, .int l2)] [.int s0, .int s1] M Q := by
  exact qRun_ok hG (ops := qo_100) (cuts := qc_md_subtract) rfl 80 30 _ _ _ _ hV
set_option maxRecDepth 100000 in
theorem v_md_subtract_23 (hG : qGood Ls xs P) {l1 l2 s0 : Int32} {M : qMem} {Q : qPost}
    (hV : ((¬ s0 = 0 → (P 92 0 [(0, .ref 36), (1, .int l2)] [] M (fun v M' => P 100 30 [(0, .ref 36), (2, .int l2)] (v.toList ++ [.int l1]) M' Q))) ∧ (¬ (¬ s0 = 0) → Q (some (.int (-1000000005 : Int32))) M))) :
    P 100 23 [(0, .ref 36), (1, .int l1), (2, .int l2)] [.int s0] M Q := by
  exact qRun_ok hG (ops := qo_100) (cuts := qc_md_subtract) rfl 80 23 _ _ _ _ hV
set_option maxRecDepth 100000 in
theorem v_md_subtract_52 (hG : qGood Ls xs P) {l1 l2 s0 s1 : Int32} {M : qMem} {Q : qPost}
    (hV : ((s0 ≤ s1 → Q (some (.int l1)) M) ∧ (¬ (s0 ≤ s1) → (P 92 0 [(0, .ref 36), (1, .int l2)] [] M (fun v M' => P 100 59 [(0, .ref 36), (1, .int l1), (2, .int l2)] (v.toList ++ [.int l2, .ref 37]) M' Q))))) :
    P 100 52 [(0, .ref 36), (1, .int l1), (2, .int l2)] [.int s0, .int s1] M Q := by
  exact qRun_ok hG (ops := qo_100) (cuts := qc_md_subtract) rfl 80 52 _ _ _ _ hV
set_option maxRecDepth 100000 in
theorem v_md_subtract_59 (hG : qGood Ls xs P) {l1 l2 s0 s1 : Int32} {M : qMem} {Q : qPost}
    (hV : ((s0 = 0 → (vp_in s1 65 ∧ (P 100 49 [(0, .ref 36), (1, .int l1), (2, .int (l2 + (1 : Int32)))] [] (pI M 37 s1.toNatClampNeg (-1000000001 : Int32)) Q))) ∧ (¬ (s0 = 0) → (vp_in l2 65 ∧ (vp_in l2 64 ∧ (vp_in s1 65 ∧ (P 100 49 [(0, .ref 36), (1, .int l1), (2, .int (l2 + (1 : Int32)))] [] (pI M 37 s1.toNatClampNeg ((M.1 37 l2.toNatClampNeg).toInt64 - (M.2 41 l2.toNatClampNeg)).toInt32) Q))))))) :
    P 100 59 [(0, .ref 36), (1, .int l1), (2, .int l2)] [.int s0, .int s1, .ref 37] M Q := by
  exact qRun_ok hG (ops := qo_100) (cuts := qc_md_subtract) rfl 80 59 _ _ _ _ hV
def qc_md_onLine : List (Nat × List Nat) := [(27, [])]
theorem v_md_onLine_0 (hG : qGood Ls xs P) {l1 l2 l3 : Int32} {M : qMem} {Q : qPost}
    (hV : (vp_in l2 65 ∧ (vp_in l1 65 ∧ (vp_in l1 65 ∧ (P 95 0 [(0, .long (((M.1 37 l2.toNatClampNeg) - (M.1 37 l1.toNatClampNeg)).toInt64 * (l3 - l1).toInt64)), (2, .long (l2 - l1).toInt64)] [] M (fun v M' => P 101 27 [] (v.toList ++ [.long (M.1 37 l1.toNatClampNeg).toInt64]) M' Q)))))) :
    P 101 0 [(0, .ref 36), (1, .int l1), (2, .int l2), (3, .int l3)] [] M Q := by
  exact qRun_ok hG (ops := qo_101) (cuts := qc_md_onLine) rfl 31 0 _ _ _ _ hV
theorem v_md_onLine_27 (hG : qGood Ls xs P) {s0 s1 : Int64} {M : qMem} {Q : qPost}
    (hV : Q (some (.long (s1 + s0))) M) :
    P 101 27 [] [.long s0, .long s1] M Q := by
  exact qRun_ok hG (ops := qo_101) (cuts := qc_md_onLine) rfl 31 27 _ _ _ _ hV
def qc_md_removeLine : List (Nat × List Nat) := [(3, [0, 1, 2]), (7, [0, 1, 2]), (16, [0, 1, 2]), (20, [0, 1, 2]), (25, [0, 1, 2, 3]), (28, [0, 1, 2, 3]), (37, [0, 1, 2, 3]), (42, [])]
set_option maxRecDepth 100000 in
theorem v_md_removeLine_0 (hG : qGood Ls xs P) {l1 l2 : Int32} {M : qMem} {Q : qPost}
    (hV : (P 91 0 [(0, .ref 36), (1, .int l1)] [] M (fun v M' => P 102 3 [(0, .ref 36), (1, .int l1), (2, .int l2)] (v.toList ++ []) M' Q))) :
    P 102 0 [(0, .ref 36), (1, .int l1), (2, .int l2)] [] M Q := by
  exact qRun_ok hG (ops := qo_102) (cuts := qc_md_removeLine) rfl 45 0 _ _ _ _ hV
set_option maxRecDepth 100000 in
theorem v_md_removeLine_3 (hG : qGood Ls xs P) {l1 l2 s0 : Int32} {M : qMem} {Q : qPost}
    (hV : ((s0 = 0 → Q (some (.int (-1000000002 : Int32))) M) ∧ (¬ (s0 = 0) → (P 91 0 [(0, .ref 36), (1, .int l2)] [] M (fun v M' => P 102 7 [(0, .ref 36), (1, .int l1), (2, .int l2)] (v.toList ++ []) M' Q))))) :
    P 102 3 [(0, .ref 36), (1, .int l1), (2, .int l2)] [.int s0] M Q := by
  exact qRun_ok hG (ops := qo_102) (cuts := qc_md_removeLine) rfl 45 3 _ _ _ _ hV
set_option maxRecDepth 100000 in
theorem v_md_removeLine_7 (hG : qGood Ls xs P) {l1 l2 s0 : Int32} {M : qMem} {Q : qPost}
    (hV : ((s0 = 0 → Q (some (.int (-1000000002 : Int32))) M) ∧ (¬ (s0 = 0) → ((l1 < l2 → (P 92 0 [(0, .ref 36), (1, .int l1)] [] M (fun v M' => P 102 16 [(0, .ref 36), (1, .int l1), (2, .int l2)] (v.toList ++ []) M' Q))) ∧ (¬ (l1 < l2) → Q (some (.int (-1000000002 : Int32))) M))))) :
    P 102 7 [(0, .ref 36), (1, .int l1), (2, .int l2)] [.int s0] M Q := by
  exact qRun_ok hG (ops := qo_102) (cuts := qc_md_removeLine) rfl 45 7 _ _ _ _ hV
set_option maxRecDepth 100000 in
theorem v_md_removeLine_16 (hG : qGood Ls xs P) {l1 l2 s0 : Int32} {M : qMem} {Q : qPost}
    (hV : ((s0 = 0 → Q (some (.int (-1000000003 : Int32))) M) ∧ (¬ (s0 = 0) → (P 92 0 [(0, .ref 36), (1, .int l2)] [] M (fun v M' => P 102 20 [(0, .ref 36), (1, .int l1), (2, .int l2)] (v.toList ++ []) M' Q))))) :
    P 102 16 [(0, .ref 36), (1, .int l1), (2, .int l2)] [.int s0] M Q := by
  exact qRun_ok hG (ops := qo_102) (cuts := qc_md_removeLine) rfl 45 16 _ _ _ _ hV
set_option maxRecDepth 100000 in
theorem v_md_removeLine_20 (hG : qGood Ls xs P) {l1 l2 s0 : Int32} {M : qMem} {Q : qPost}
    (hV : ((¬ s0 = 0 → (P 102 25 [(0, .ref 36), (1, .int l1), (2, .int l2), (3, .int (0 : Int32))] [] M Q)) ∧ (¬ (¬ s0 = 0) → Q (some (.int (-1000000003 : Int32))) M))) :
    P 102 20 [(0, .ref 36), (1, .int l1), (2, .int l2)] [.int s0] M Q := by
  exact qRun_ok hG (ops := qo_102) (cuts := qc_md_removeLine) rfl 45 20 _ _ _ _ hV
set_option maxRecDepth 100000 in
theorem v_md_removeLine_25 (hG : qGood Ls xs P) {l1 l2 l3 : Int32} {M : qMem} {Q : qPost}
    (hV : (P 90 0 [(0, .ref 36)] [] M (fun v M' => P 102 28 [(0, .ref 36), (1, .int l1), (2, .int l2), (3, .int l3)] (v.toList ++ [.int l3]) M' Q))) :
    P 102 25 [(0, .ref 36), (1, .int l1), (2, .int l2), (3, .int l3)] [] M Q := by
  exact qRun_ok hG (ops := qo_102) (cuts := qc_md_removeLine) rfl 45 25 _ _ _ _ hV
set_option maxRecDepth 100000 in
theorem v_md_removeLine_28 (hG : qGood Ls xs P) {l1 l2 l3 s0 s1 : Int32} {M : qMem} {Q : qPost}
    (hV : ((s0 ≤ s1 → (P 100 0 [(0, .ref 36)] [] M (fun v M' => P 102 42 [] (v.toList ++ []) M' Q))) ∧ (¬ (s0 ≤ s1) → (P 101 0 [(0, .ref 36), (1, .int l1), (2, .int l2), (3, .int l3)] [] M (fun v M' => P 102 37 [(0, .ref 36), (1, .int l1), (2, .int l2), (3, .int l3)] (v.toList ++ [.int l3, .ref 41]) M' Q))))) :
    P 102 28 [(0, .ref 36), (1, .int l1), (2, .int l2), (3, .int l3)] [.int s0, .int s1] M Q := by
  exact qRun_ok hG (ops := qo_102) (cuts := qc_md_removeLine) rfl 45 28 _ _ _ _ hV
set_option maxRecDepth 100000 in
theorem v_md_removeLine_42 (hG : qGood Ls xs P) {s0 : Int32} {M : qMem} {Q : qPost}
    (hV : Q (some (.int s0)) M) :
    P 102 42 [] [.int s0] M Q := by
  exact qRun_ok hG (ops := qo_102) (cuts := qc_md_removeLine) rfl 45 42 _ _ _ _ hV
set_option maxRecDepth 100000 in
theorem v_md_removeLine_37 (hG : qGood Ls xs P) {s0 : Int64} {l1 l2 l3 s1 : Int32} {M : qMem} {Q : qPost}
    (hV : (vp_in s1 64 ∧ (P 102 25 [(0, .ref 36), (1, .int l1), (2, .int l2), (3, .int (l3 + (1 : Int32)))] [] (pJ M 41 s1.toNatClampNeg s0) Q))) :
    P 102 37 [(0, .ref 36), (1, .int l1), (2, .int l2), (3, .int l3)] [.long s0, .int s1, .ref 41] M Q := by
  exact qRun_ok hG (ops := qo_102) (cuts := qc_md_removeLine) rfl 45 37 _ _ _ _ hV
def qc_md_addLine : List (Nat × List Nat) := [(4, [0, 1, 2]), (9, [0, 1, 2]), (14, [0, 1, 2, 3]), (17, [0, 1, 2, 3]), (35, [])]
theorem v_md_addLine_0 (hG : qGood Ls xs P) {l1 l2 : Int32} {M : qMem} {Q : qPost}
    (hV : (P 89 0 [(0, .int l1), (1, .int (-9999 : Int32)), (2, .int (9999 : Int32))] [] M (fun v M' => P 103 4 [(0, .ref 36), (1, .int l1), (2, .int l2)] (v.toList ++ []) M' Q))) :
    P 103 0 [(0, .ref 36), (1, .int l1), (2, .int l2)] [] M Q := by
  exact qRun_ok hG (ops := qo_103) (cuts := qc_md_addLine) rfl 38 0 _ _ _ _ hV
theorem v_md_addLine_4 (hG : qGood Ls xs P) {l1 l2 s0 : Int32} {M : qMem} {Q : qPost}
    (hV : ((s0 = 0 → Q (some (.int (-1000000002 : Int32))) M) ∧ (¬ (s0 = 0) → (P 89 0 [(0, .int l2), (1, .int (-99999 : Int32)), (2, .int (99999 : Int32))] [] M (fun v M' => P 103 9 [(0, .ref 36), (1, .int l1), (2, .int l2)] (v.toList ++ []) M' Q))))) :
    P 103 4 [(0, .ref 36), (1, .int l1), (2, .int l2)] [.int s0] M Q := by
  exact qRun_ok hG (ops := qo_103) (cuts := qc_md_addLine) rfl 38 4 _ _ _ _ hV
theorem v_md_addLine_9 (hG : qGood Ls xs P) {l1 l2 s0 : Int32} {M : qMem} {Q : qPost}
    (hV : ((¬ s0 = 0 → (P 103 14 [(0, .ref 36), (1, .int l1), (2, .int l2), (3, .int (0 : Int32))] [] M Q)) ∧ (¬ (¬ s0 = 0) → Q (some (.int (-1000000002 : Int32))) M))) :
    P 103 9 [(0, .ref 36), (1, .int l1), (2, .int l2)] [.int s0] M Q := by
  exact qRun_ok hG (ops := qo_103) (cuts := qc_md_addLine) rfl 38 9 _ _ _ _ hV
theorem v_md_addLine_14 (hG : qGood Ls xs P) {l1 l2 l3 : Int32} {M : qMem} {Q : qPost}
    (hV : (P 90 0 [(0, .ref 36)] [] M (fun v M' => P 103 17 [(0, .ref 36), (1, .int l1), (2, .int l2), (3, .int l3)] (v.toList ++ [.int l3]) M' Q))) :
    P 103 14 [(0, .ref 36), (1, .int l1), (2, .int l2), (3, .int l3)] [] M Q := by
  exact qRun_ok hG (ops := qo_103) (cuts := qc_md_addLine) rfl 38 14 _ _ _ _ hV
theorem v_md_addLine_17 (hG : qGood Ls xs P) {l1 l2 l3 s0 s1 : Int32} {M : qMem} {Q : qPost}
    (hV : ((s0 ≤ s1 → (P 100 0 [(0, .ref 36)] [] M (fun v M' => P 103 35 [] (v.toList ++ []) M' Q))) ∧ (¬ (s0 ≤ s1) → (vp_in l3 64 ∧ (P 103 14 [(0, .ref 36), (1, .int l1), (2, .int l2), (3, .int (l3 + (1 : Int32)))] [] (pJ M 41 l3.toNatClampNeg (-((l1.toInt64 * l3.toInt64) + l2.toInt64))) Q))))) :
    P 103 17 [(0, .ref 36), (1, .int l1), (2, .int l2), (3, .int l3)] [.int s0, .int s1] M Q := by
  exact qRun_ok hG (ops := qo_103) (cuts := qc_md_addLine) rfl 38 17 _ _ _ _ hV
theorem v_md_addLine_35 (hG : qGood Ls xs P) {s0 : Int32} {M : qMem} {Q : qPost}
    (hV : Q (some (.int s0)) M) :
    P 103 35 [] [.int s0] M Q := by
  exact qRun_ok hG (ops := qo_103) (cuts := qc_md_addLine) rfl 38 35 _ _ _ _ hV
def qc_md_removeDrift : List (Nat × List Nat) := [(4, [0]), (13, [0, 1, 2, 4]), (16, [0, 1, 2, 4]), (23, [0, 1, 4]), (29, [0, 1, 4]), (40, [0]), (43, [0, 4, 6]), (46, [0, 4, 6]), (65, [4])]
set_option maxRecDepth 100000 in
theorem v_md_removeDrift_0 (hG : qGood Ls xs P) {M : qMem} {Q : qPost}
    (hV : (P 125 0 [(0, .ref 36), (1, .int (2 : Int32)), (2, .int (1 : Int32))] [] M (fun v M' => P 104 4 [(0, .ref 36)] (v.toList ++ []) M' Q))) :
    P 104 0 [(0, .ref 36)] [] M Q := by
  exact qRun_ok hG (ops := qo_104) (cuts := qc_md_removeDrift) rfl 76 0 _ _ _ _ hV
set_option maxRecDepth 100000 in
theorem v_md_removeDrift_4 (hG : qGood Ls xs P) {s0 : Int32} {M : qMem} {Q : qPost}
    (hV : ((¬ s0 = 0 → (P 104 13 [(0, .ref 36), (1, .int s0), (2, .long (0 : Int64)), (4, .int (0 : Int32))] [] M Q)) ∧ (¬ (¬ s0 = 0) → Q (some (.int (-1000000003 : Int32))) M))) :
    P 104 4 [(0, .ref 36)] [.int s0] M Q := by
  exact qRun_ok hG (ops := qo_104) (cuts := qc_md_removeDrift) rfl 76 4 _ _ _ _ hV
set_option maxRecDepth 100000 in
theorem v_md_removeDrift_13 (hG : qGood Ls xs P) {l2 : Int64} {l1 l4 : Int32} {M : qMem} {Q : qPost}
    (hV : (P 90 0 [(0, .ref 36)] [] M (fun v M' => P 104 16 [(0, .ref 36), (1, .int l1), (2, .long l2), (4, .int l4)] (v.toList ++ [.int l4]) M' Q))) :
    P 104 13 [(0, .ref 36), (1, .int l1), (2, .long l2), (4, .int l4)] [] M Q := by
  exact qRun_ok hG (ops := qo_104) (cuts := qc_md_removeDrift) rfl 76 13 _ _ _ _ hV
set_option maxRecDepth 100000 in
theorem v_md_removeDrift_16 (hG : qGood Ls xs P) {l2 : Int64} {l1 l4 s0 s1 : Int32} {M : qMem} {Q : qPost}
    (hV : ((s0 ≤ s1 → (P 95 0 [(0, .long l2), (2, .long l1.toInt64)] [] M (fun v M' => P 104 40 [(0, .ref 36)] (v.toList ++ []) M' Q))) ∧ (¬ (s0 ≤ s1) → (P 119 0 [(0, .ref 36), (1, .int (2 : Int32)), (2, .int (1 : Int32)), (3, .int l4)] [] M (fun v M' => P 104 23 [(0, .ref 36), (1, .int l1), (4, .int l4)] (v.toList ++ [.long l2]) M' Q))))) :
    P 104 16 [(0, .ref 36), (1, .int l1), (2, .long l2), (4, .int l4)] [.int s0, .int s1] M Q := by
  exact qRun_ok hG (ops := qo_104) (cuts := qc_md_removeDrift) rfl 76 16 _ _ _ _ hV
set_option maxRecDepth 100000 in
theorem v_md_removeDrift_40 (hG : qGood Ls xs P) {s0 : Int64} {M : qMem} {Q : qPost}
    (hV : (P 104 43 [(0, .ref 36), (4, .long s0), (6, .int (0 : Int32))] [] M Q)) :
    P 104 40 [(0, .ref 36)] [.long s0] M Q := by
  exact qRun_ok hG (ops := qo_104) (cuts := qc_md_removeDrift) rfl 76 40 _ _ _ _ hV
set_option maxRecDepth 100000 in
theorem v_md_removeDrift_23 (hG : qGood Ls xs P) {s1 : Int64} {l1 l4 s0 : Int32} {M : qMem} {Q : qPost}
    (hV : ((s0 = 0 → (P 104 13 [(0, .ref 36), (1, .int l1), (2, .long (s1 + (0 : Int64))), (4, .int (l4 + (1 : Int32)))] [] M Q)) ∧ (¬ (s0 = 0) → (P 122 0 [(0, .ref 36), (1, .int (2 : Int32)), (2, .int (1 : Int32)), (3, .int l4)] [] M (fun v M' => P 104 29 [(0, .ref 36), (1, .int l1), (4, .int l4)] (v.toList ++ [.long s1]) M' Q))))) :
    P 104 23 [(0, .ref 36), (1, .int l1), (4, .int l4)] [.int s0, .long s1] M Q := by
  exact qRun_ok hG (ops := qo_104) (cuts := qc_md_removeDrift) rfl 76 23 _ _ _ _ hV
set_option maxRecDepth 100000 in
theorem v_md_removeDrift_43 (hG : qGood Ls xs P) {l4 : Int64} {l6 : Int32} {M : qMem} {Q : qPost}
    (hV : (P 90 0 [(0, .ref 36)] [] M (fun v M' => P 104 46 [(0, .ref 36), (4, .long l4), (6, .int l6)] (v.toList ++ [.int l6]) M' Q))) :
    P 104 43 [(0, .ref 36), (4, .long l4), (6, .int l6)] [] M Q := by
  exact qRun_ok hG (ops := qo_104) (cuts := qc_md_removeDrift) rfl 76 43 _ _ _ _ hV
set_option maxRecDepth 100000 in
theorem v_md_removeDrift_29 (hG : qGood Ls xs P) {s1 : Int64} {l1 l4 s0 : Int32} {M : qMem} {Q : qPost}
    (hV : (P 104 13 [(0, .ref 36), (1, .int l1), (2, .long (s1 + s0.toInt64)), (4, .int (l4 + (1 : Int32)))] [] M Q)) :
    P 104 29 [(0, .ref 36), (1, .int l1), (4, .int l4)] [.int s0, .long s1] M Q := by
  exact qRun_ok hG (ops := qo_104) (cuts := qc_md_removeDrift) rfl 76 29 _ _ _ _ hV
set_option maxRecDepth 100000 in
theorem v_md_removeDrift_46 (hG : qGood Ls xs P) {l4 : Int64} {l6 s0 s1 : Int32} {M : qMem} {Q : qPost}
    (hV : ((s0 ≤ s1 → (P 100 0 [(0, .ref 36)] [] M (fun v M' => P 104 65 [(4, .long l4)] (v.toList ++ []) M' Q))) ∧ (¬ (s0 ≤ s1) → (¬ (2 : Int32) = 0 ∧ (vp_in l6 64 ∧ (P 104 43 [(0, .ref 36), (4, .long l4), (6, .int (l6 + (1 : Int32)))] [] (pJ M 41 l6.toNatClampNeg (l4 * ((l6 * (l6 - (1 : Int32))) / (2 : Int32)).toInt64)) Q)))))) :
    P 104 46 [(0, .ref 36), (4, .long l4), (6, .int l6)] [.int s0, .int s1] M Q := by
  exact qRun_ok hG (ops := qo_104) (cuts := qc_md_removeDrift) rfl 76 46 _ _ _ _ hV
set_option maxRecDepth 100000 in
theorem v_md_removeDrift_65 (hG : qGood Ls xs P) {l4 : Int64} {s0 : Int32} {M : qMem} {Q : qPost}
    (hV : ((¬ s0 = (-1000000005 : Int32) → Q (some (.int l4.toInt32)) M) ∧ (¬ (¬ s0 = (-1000000005 : Int32)) → Q (some (.int (-1000000005 : Int32))) M))) :
    P 104 65 [(4, .long l4)] [.int s0] M Q := by
  exact qRun_ok hG (ops := qo_104) (cuts := qc_md_removeDrift) rfl 76 65 _ _ _ _ hV
def qc_md_isOutlier : List (Nat × List Nat) := [(3, [0, 1, 2]), (9, [0, 1, 2]), (15, [0, 1, 2])]
set_option maxRecDepth 100000 in
theorem v_md_isOutlier_0 (hG : qGood Ls xs P) {l1 l2 : Int32} {M : qMem} {Q : qPost}
    (hV : (P 92 0 [(0, .ref 36), (1, .int l1)] [] M (fun v M' => P 105 3 [(0, .ref 36), (1, .int l1), (2, .int l2)] (v.toList ++ []) M' Q))) :
    P 105 0 [(0, .ref 36), (1, .int l1), (2, .int l2)] [] M Q := by
  exact qRun_ok hG (ops := qo_105) (cuts := qc_md_isOutlier) rfl 55 0 _ _ _ _ hV
set_option maxRecDepth 100000 in
theorem v_md_isOutlier_3 (hG : qGood Ls xs P) {l1 l2 s0 : Int32} {M : qMem} {Q : qPost}
    (hV : ((s0 = 0 → (narrow .boolean (.int (0 : Int32)) = .int (0 : Int32) ∧ Q (some (.int (0 : Int32))) M)) ∧ (¬ (s0 = 0) → (P 92 0 [(0, .ref 36), (1, .int (l1 - (1 : Int32)))] [] M (fun v M' => P 105 9 [(0, .ref 36), (1, .int l1), (2, .int l2)] (v.toList ++ []) M' Q))))) :
    P 105 3 [(0, .ref 36), (1, .int l1), (2, .int l2)] [.int s0] M Q := by
  exact qRun_ok hG (ops := qo_105) (cuts := qc_md_isOutlier) rfl 55 3 _ _ _ _ hV
set_option maxRecDepth 100000 in
theorem v_md_isOutlier_9 (hG : qGood Ls xs P) {l1 l2 s0 : Int32} {M : qMem} {Q : qPost}
    (hV : ((s0 = 0 → (narrow .boolean (.int (0 : Int32)) = .int (0 : Int32) ∧ Q (some (.int (0 : Int32))) M)) ∧ (¬ (s0 = 0) → (P 92 0 [(0, .ref 36), (1, .int (l1 + (1 : Int32)))] [] M (fun v M' => P 105 15 [(0, .ref 36), (1, .int l1), (2, .int l2)] (v.toList ++ []) M' Q))))) :
    P 105 9 [(0, .ref 36), (1, .int l1), (2, .int l2)] [.int s0] M Q := by
  exact qRun_ok hG (ops := qo_105) (cuts := qc_md_isOutlier) rfl 55 9 _ _ _ _ hV
set_option maxRecDepth 100000 in
theorem v_md_isOutlier_15 (hG : qGood Ls xs P) {l1 l2 s0 : Int32} {M : qMem} {Q : qPost}
    (hV : ((¬ s0 = 0 → (vp_in l1 65 ∧ (vp_in (l1 - (1 : Int32)) 65 ∧ (vp_in (l1 + (1 : Int32)) 65 ∧ ((((2 : Int32) * l2) < ((((2 : Int32) * (M.1 37 l1.toNatClampNeg)) - (M.1 37 (l1 - (1 : Int32)).toNatClampNeg)) - (M.1 37 (l1 + (1 : Int32)).toNatClampNeg)) → (narrow .boolean (.int (1 : Int32)) = .int (1 : Int32) ∧ Q (some (.int (1 : Int32))) M)) ∧ (¬ (((2 : Int32) * l2) < ((((2 : Int32) * (M.1 37 l1.toNatClampNeg)) - (M.1 37 (l1 - (1 : Int32)).toNatClampNeg)) - (M.1 37 (l1 + (1 : Int32)).toNatClampNeg))) → ((((-2 : Int32) * l2) ≤ ((((2 : Int32) * (M.1 37 l1.toNatClampNeg)) - (M.1 37 (l1 - (1 : Int32)).toNatClampNeg)) - (M.1 37 (l1 + (1 : Int32)).toNatClampNeg)) → (narrow .boolean (.int (0 : Int32)) = .int (0 : Int32) ∧ Q (some (.int (0 : Int32))) M)) ∧ (¬ (((-2 : Int32) * l2) ≤ ((((2 : Int32) * (M.1 37 l1.toNatClampNeg)) - (M.1 37 (l1 - (1 : Int32)).toNatClampNeg)) - (M.1 37 (l1 + (1 : Int32)).toNatClampNeg))) → (narrow .boolean (.int (1 : Int32)) = .int (1 : Int32) ∧ Q (some (.int (1 : Int32))) M))))))))) ∧ (¬ (¬ s0 = 0) → (narrow .boolean (.int (0 : Int32)) = .int (0 : Int32) ∧ Q (some (.int (0 : Int32))) M)))) :
    P 105 15 [(0, .ref 36), (1, .int l1), (2, .int l2)] [.int s0] M Q := by
  exact qRun_ok hG (ops := qo_105) (cuts := qc_md_isOutlier) rfl 55 15 _ _ _ _ hV
def qc_md_layOutliers : List (Nat × List Nat) := [(4, [0, 1, 2, 3]), (7, [0, 1, 2, 3]), (15, [0, 1, 2, 3])]
theorem v_md_layOutliers_0 (hG : qGood Ls xs P) {l1 : Int32} {M : qMem} {Q : qPost}
    (hV : (P 106 4 [(0, .ref 36), (1, .int l1), (2, .int (0 : Int32)), (3, .int (0 : Int32))] [] M Q)) :
    P 106 0 [(0, .ref 36), (1, .int l1)] [] M Q := by
  exact qRun_ok hG (ops := qo_106) (cuts := qc_md_layOutliers) rfl 33 0 _ _ _ _ hV
theorem v_md_layOutliers_4 (hG : qGood Ls xs P) {l1 l2 l3 : Int32} {M : qMem} {Q : qPost}
    (hV : (P 90 0 [(0, .ref 36)] [] M (fun v M' => P 106 7 [(0, .ref 36), (1, .int l1), (2, .int l2), (3, .int l3)] (v.toList ++ [.int l3]) M' Q))) :
    P 106 4 [(0, .ref 36), (1, .int l1), (2, .int l2), (3, .int l3)] [] M Q := by
  exact qRun_ok hG (ops := qo_106) (cuts := qc_md_layOutliers) rfl 33 4 _ _ _ _ hV
theorem v_md_layOutliers_7 (hG : qGood Ls xs P) {l1 l2 l3 s0 s1 : Int32} {M : qMem} {Q : qPost}
    (hV : ((s0 ≤ s1 → Q (some (.int l2)) M) ∧ (¬ (s0 ≤ s1) → (P 105 0 [(0, .ref 36), (1, .int l3), (2, .int l1)] [] M (fun v M' => P 106 15 [(0, .ref 36), (1, .int l1), (2, .int l2), (3, .int l3)] (v.toList ++ [.int l3, .ref 42]) M' Q))))) :
    P 106 7 [(0, .ref 36), (1, .int l1), (2, .int l2), (3, .int l3)] [.int s0, .int s1] M Q := by
  exact qRun_ok hG (ops := qo_106) (cuts := qc_md_layOutliers) rfl 33 7 _ _ _ _ hV
theorem v_md_layOutliers_15 (hG : qGood Ls xs P) {l1 l2 l3 s0 s1 : Int32} {M : qMem} {Q : qPost}
    (hV : (vp_in s1 64 ∧ (vp_in l3 64 ∧ ((((pI M 42 s1.toNatClampNeg (vp_nar .boolean s0)).1 42 l3.toNatClampNeg) = 0 → (P 106 4 [(0, .ref 36), (1, .int l1), (2, .int (l2 + (0 : Int32))), (3, .int (l3 + (1 : Int32)))] [] (pI M 42 s1.toNatClampNeg (vp_nar .boolean s0)) Q)) ∧ (¬ (((pI M 42 s1.toNatClampNeg (vp_nar .boolean s0)).1 42 l3.toNatClampNeg) = 0) → (P 106 4 [(0, .ref 36), (1, .int l1), (2, .int (l2 + (1 : Int32))), (3, .int (l3 + (1 : Int32)))] [] (pI M 42 s1.toNatClampNeg (vp_nar .boolean s0)) Q)))))) :
    P 106 15 [(0, .ref 36), (1, .int l1), (2, .int l2), (3, .int l3)] [.int s0, .int s1, .ref 42] M Q := by
  exact qRun_ok hG (ops := qo_106) (cuts := qc_md_layOutliers) rfl 33 15 _ _ _ _ hV
def qc_md_removeOutliers : List (Nat × List Nat) := [(4, [0, 1]), (9, [0, 1]), (12, [0]), (15, [0, 2, 3]), (18, [0, 2, 3])]
theorem v_md_removeOutliers_0 (hG : qGood Ls xs P) {l1 : Int32} {M : qMem} {Q : qPost}
    (hV : (P 89 0 [(0, .int l1), (1, .int (0 : Int32)), (2, .int (99999 : Int32))] [] M (fun v M' => P 107 4 [(0, .ref 36), (1, .int l1)] (v.toList ++ []) M' Q))) :
    P 107 0 [(0, .ref 36), (1, .int l1)] [] M Q := by
  exact qRun_ok hG (ops := qo_107) (cuts := qc_md_removeOutliers) rfl 40 0 _ _ _ _ hV
theorem v_md_removeOutliers_4 (hG : qGood Ls xs P) {l1 s0 : Int32} {M : qMem} {Q : qPost}
    (hV : ((¬ s0 = 0 → (P 93 0 [(0, .ref 36)] [] M (fun v M' => P 107 9 [(0, .ref 36), (1, .int l1)] (v.toList ++ []) M' Q))) ∧ (¬ (¬ s0 = 0) → Q (some (.int (-1000000002 : Int32))) M))) :
    P 107 4 [(0, .ref 36), (1, .int l1)] [.int s0] M Q := by
  exact qRun_ok hG (ops := qo_107) (cuts := qc_md_removeOutliers) rfl 40 4 _ _ _ _ hV
theorem v_md_removeOutliers_9 (hG : qGood Ls xs P) {l1 : Int32} {M : qMem} {Q : qPost}
    (hV : (P 106 0 [(0, .ref 36), (1, .int l1)] [] M (fun v M' => P 107 12 [(0, .ref 36)] (v.toList ++ []) M' Q))) :
    P 107 9 [(0, .ref 36), (1, .int l1)] [] M Q := by
  exact qRun_ok hG (ops := qo_107) (cuts := qc_md_removeOutliers) rfl 40 9 _ _ _ _ hV
theorem v_md_removeOutliers_12 (hG : qGood Ls xs P) {s0 : Int32} {M : qMem} {Q : qPost}
    (hV : (P 107 15 [(0, .ref 36), (2, .int s0), (3, .int (0 : Int32))] [] M Q)) :
    P 107 12 [(0, .ref 36)] [.int s0] M Q := by
  exact qRun_ok hG (ops := qo_107) (cuts := qc_md_removeOutliers) rfl 40 12 _ _ _ _ hV
theorem v_md_removeOutliers_15 (hG : qGood Ls xs P) {l2 l3 : Int32} {M : qMem} {Q : qPost}
    (hV : (P 90 0 [(0, .ref 36)] [] M (fun v M' => P 107 18 [(0, .ref 36), (2, .int l2), (3, .int l3)] (v.toList ++ [.int l3]) M' Q))) :
    P 107 15 [(0, .ref 36), (2, .int l2), (3, .int l3)] [] M Q := by
  exact qRun_ok hG (ops := qo_107) (cuts := qc_md_removeOutliers) rfl 40 15 _ _ _ _ hV
theorem v_md_removeOutliers_18 (hG : qGood Ls xs P) {l2 l3 s0 s1 : Int32} {M : qMem} {Q : qPost}
    (hV : ((s0 ≤ s1 → Q (some (.int l2)) M) ∧ (¬ (s0 ≤ s1) → (vp_in l3 64 ∧ (((M.1 42 l3.toNatClampNeg) = 0 → (vp_in l3 65 ∧ (vp_in l3 65 ∧ (P 107 15 [(0, .ref 36), (2, .int l2), (3, .int (l3 + (1 : Int32)))] [] (pI M 37 l3.toNatClampNeg (M.1 37 l3.toNatClampNeg)) Q)))) ∧ (¬ ((M.1 42 l3.toNatClampNeg) = 0) → (vp_in l3 65 ∧ (P 107 15 [(0, .ref 36), (2, .int l2), (3, .int (l3 + (1 : Int32)))] [] (pI M 37 l3.toNatClampNeg (-1000000001 : Int32)) Q)))))))) :
    P 107 18 [(0, .ref 36), (2, .int l2), (3, .int l3)] [.int s0, .int s1] M Q := by
  exact qRun_ok hG (ops := qo_107) (cuts := qc_md_removeOutliers) rfl 40 18 _ _ _ _ hV
def qc_md_endOfGap : List (Nat × List Nat) := [(2, [0, 2]), (5, [0, 2])]
theorem v_md_endOfGap_0 (hG : qGood Ls xs P) {l1 : Int32} {M : qMem} {Q : qPost}
    (hV : (P 108 2 [(0, .ref 36), (2, .int l1)] [] M Q)) :
    P 108 0 [(0, .ref 36), (1, .int l1)] [] M Q := by
  exact qRun_ok hG (ops := qo_108) (cuts := qc_md_endOfGap) rfl 18 0 _ _ _ _ hV
theorem v_md_endOfGap_2 (hG : qGood Ls xs P) {l2 : Int32} {M : qMem} {Q : qPost}
    (hV : (P 91 0 [(0, .ref 36), (1, .int l2)] [] M (fun v M' => P 108 5 [(0, .ref 36), (2, .int l2)] (v.toList ++ []) M' Q))) :
    P 108 2 [(0, .ref 36), (2, .int l2)] [] M Q := by
  exact qRun_ok hG (ops := qo_108) (cuts := qc_md_endOfGap) rfl 18 2 _ _ _ _ hV
theorem v_md_endOfGap_5 (hG : qGood Ls xs P) {l2 s0 : Int32} {M : qMem} {Q : qPost}
    (hV : ((s0 = 0 → Q (some (.int l2)) M) ∧ (¬ (s0 = 0) → (vp_in l2 65 ∧ ((¬ (M.1 37 l2.toNatClampNeg) = (-1000000001 : Int32) → Q (some (.int l2)) M) ∧ (¬ (¬ (M.1 37 l2.toNatClampNeg) = (-1000000001 : Int32)) → (P 108 2 [(0, .ref 36), (2, .int (l2 + (1 : Int32)))] [] M Q))))))) :
    P 108 5 [(0, .ref 36), (2, .int l2)] [.int s0] M Q := by
  exact qRun_ok hG (ops := qo_108) (cuts := qc_md_endOfGap) rfl 18 5 _ _ _ _ hV
def qc_md_beginsGap : List (Nat × List Nat) := []
theorem v_md_beginsGap_0 (hG : qGood Ls xs P) {l1 : Int32} {M : qMem} {Q : qPost}
    (hV : (vp_in l1 65 ∧ ((¬ (M.1 37 l1.toNatClampNeg) = (-1000000001 : Int32) → (narrow .boolean (.int (0 : Int32)) = .int (0 : Int32) ∧ Q (some (.int (0 : Int32))) M)) ∧ (¬ (¬ (M.1 37 l1.toNatClampNeg) = (-1000000001 : Int32)) → ((l1 = 0 → (narrow .boolean (.int (1 : Int32)) = .int (1 : Int32) ∧ Q (some (.int (1 : Int32))) M)) ∧ (¬ (l1 = 0) → (vp_in (l1 - (1 : Int32)) 65 ∧ (((M.1 37 (l1 - (1 : Int32)).toNatClampNeg) = (-1000000001 : Int32) → (narrow .boolean (.int (0 : Int32)) = .int (0 : Int32) ∧ Q (some (.int (0 : Int32))) M)) ∧ (¬ ((M.1 37 (l1 - (1 : Int32)).toNatClampNeg) = (-1000000001 : Int32)) → (narrow .boolean (.int (1 : Int32)) = .int (1 : Int32) ∧ Q (some (.int (1 : Int32))) M)))))))))) :
    P 109 0 [(0, .ref 36), (1, .int l1)] [] M Q := by
  exact qRun_ok hG (ops := qo_109) (cuts := qc_md_beginsGap) rfl 22 0 _ _ _ _ hV
def qc_md_fill : List (Nat × List Nat) := [(4, [0, 1]), (9, [0, 1]), (13, [0, 1, 2, 3]), (16, [0, 1, 2, 3]), (20, [0, 1, 2, 3]), (24, [0, 1, 2, 3, 4]), (28, [0, 1, 2, 3, 4]), (36, [0, 1, 2, 3, 4, 5]), (49, [0, 1, 2, 3, 4, 5])]
set_option maxRecDepth 100000 in
theorem v_md_fill_0 (hG : qGood Ls xs P) {l1 : Int32} {M : qMem} {Q : qPost}
    (hV : (P 89 0 [(0, .int l1), (1, .int (1 : Int32)), (2, .int (64 : Int32))] [] M (fun v M' => P 110 4 [(0, .ref 36), (1, .int l1)] (v.toList ++ []) M' Q))) :
    P 110 0 [(0, .ref 36), (1, .int l1)] [] M Q := by
  exact qRun_ok hG (ops := qo_110) (cuts := qc_md_fill) rfl 60 0 _ _ _ _ hV
set_option maxRecDepth 100000 in
theorem v_md_fill_4 (hG : qGood Ls xs P) {l1 s0 : Int32} {M : qMem} {Q : qPost}
    (hV : ((¬ s0 = 0 → (P 93 0 [(0, .ref 36)] [] M (fun v M' => P 110 9 [(0, .ref 36), (1, .int l1)] (v.toList ++ []) M' Q))) ∧ (¬ (¬ s0 = 0) → Q (some (.int (-1000000002 : Int32))) M))) :
    P 110 4 [(0, .ref 36), (1, .int l1)] [.int s0] M Q := by
  exact qRun_ok hG (ops := qo_110) (cuts := qc_md_fill) rfl 60 4 _ _ _ _ hV
set_option maxRecDepth 100000 in
theorem v_md_fill_9 (hG : qGood Ls xs P) {l1 : Int32} {M : qMem} {Q : qPost}
    (hV : (P 110 13 [(0, .ref 36), (1, .int l1), (2, .int (0 : Int32)), (3, .int (1 : Int32))] [] M Q)) :
    P 110 9 [(0, .ref 36), (1, .int l1)] [] M Q := by
  exact qRun_ok hG (ops := qo_110) (cuts := qc_md_fill) rfl 60 9 _ _ _ _ hV
set_option maxRecDepth 100000 in
theorem v_md_fill_13 (hG : qGood Ls xs P) {l1 l2 l3 : Int32} {M : qMem} {Q : qPost}
    (hV : (P 90 0 [(0, .ref 36)] [] M (fun v M' => P 110 16 [(0, .ref 36), (1, .int l1), (2, .int l2), (3, .int l3)] (v.toList ++ [.int l3]) M' Q))) :
    P 110 13 [(0, .ref 36), (1, .int l1), (2, .int l2), (3, .int l3)] [] M Q := by
  exact qRun_ok hG (ops := qo_110) (cuts := qc_md_fill) rfl 60 13 _ _ _ _ hV
set_option maxRecDepth 100000 in
theorem v_md_fill_16 (hG : qGood Ls xs P) {l1 l2 l3 s0 s1 : Int32} {M : qMem} {Q : qPost}
    (hV : ((s0 ≤ s1 → Q (some (.int l2)) M) ∧ (¬ (s0 ≤ s1) → (P 108 0 [(0, .ref 36), (1, .int l3)] [] M (fun v M' => P 110 20 [(0, .ref 36), (1, .int l1), (2, .int l2), (3, .int l3)] (v.toList ++ []) M' Q))))) :
    P 110 16 [(0, .ref 36), (1, .int l1), (2, .int l2), (3, .int l3)] [.int s0, .int s1] M Q := by
  exact qRun_ok hG (ops := qo_110) (cuts := qc_md_fill) rfl 60 16 _ _ _ _ hV
set_option maxRecDepth 100000 in
theorem v_md_fill_20 (hG : qGood Ls xs P) {l1 l2 l3 s0 : Int32} {M : qMem} {Q : qPost}
    (hV : (P 109 0 [(0, .ref 36), (1, .int l3)] [] M (fun v M' => P 110 24 [(0, .ref 36), (1, .int l1), (2, .int l2), (3, .int l3), (4, .int s0)] (v.toList ++ []) M' Q))) :
    P 110 20 [(0, .ref 36), (1, .int l1), (2, .int l2), (3, .int l3)] [.int s0] M Q := by
  exact qRun_ok hG (ops := qo_110) (cuts := qc_md_fill) rfl 60 20 _ _ _ _ hV
set_option maxRecDepth 100000 in
theorem v_md_fill_24 (hG : qGood Ls xs P) {l1 l2 l3 l4 s0 : Int32} {M : qMem} {Q : qPost}
    (hV : ((s0 = 0 → (P 110 13 [(0, .ref 36), (1, .int l1), (2, .int l2), (3, .int (l3 + (1 : Int32)))] [] M Q)) ∧ (¬ (s0 = 0) → (P 92 0 [(0, .ref 36), (1, .int l4)] [] M (fun v M' => P 110 28 [(0, .ref 36), (1, .int l1), (2, .int l2), (3, .int l3), (4, .int l4)] (v.toList ++ []) M' Q))))) :
    P 110 24 [(0, .ref 36), (1, .int l1), (2, .int l2), (3, .int l3), (4, .int l4)] [.int s0] M Q := by
  exact qRun_ok hG (ops := qo_110) (cuts := qc_md_fill) rfl 60 24 _ _ _ _ hV
set_option maxRecDepth 100000 in
theorem v_md_fill_28 (hG : qGood Ls xs P) {l1 l2 l3 l4 s0 : Int32} {M : qMem} {Q : qPost}
    (hV : ((s0 = 0 → (P 110 13 [(0, .ref 36), (1, .int l1), (2, .int l2), (3, .int (l3 + (1 : Int32)))] [] M Q)) ∧ (¬ (s0 = 0) → ((l1 < (l4 - l3) → (P 110 13 [(0, .ref 36), (1, .int l1), (2, .int l2), (3, .int (l3 + (1 : Int32)))] [] M Q)) ∧ (¬ (l1 < (l4 - l3)) → (P 110 36 [(0, .ref 36), (1, .int l1), (2, .int l2), (3, .int l3), (4, .int l4), (5, .int l3)] [] M Q)))))) :
    P 110 28 [(0, .ref 36), (1, .int l1), (2, .int l2), (3, .int l3), (4, .int l4)] [.int s0] M Q := by
  exact qRun_ok hG (ops := qo_110) (cuts := qc_md_fill) rfl 60 28 _ _ _ _ hV
set_option maxRecDepth 100000 in
theorem v_md_fill_36 (hG : qGood Ls xs P) {l1 l2 l3 l4 l5 : Int32} {M : qMem} {Q : qPost}
    (hV : ((l4 ≤ l5 → (P 110 13 [(0, .ref 36), (1, .int l1), (2, .int l2), (3, .int (l3 + (1 : Int32)))] [] M Q)) ∧ (¬ (l4 ≤ l5) → (P 101 0 [(0, .ref 36), (1, .int (l3 - (1 : Int32))), (2, .int l4), (3, .int l5)] [] M (fun v M' => P 110 49 [(0, .ref 36), (1, .int l1), (2, .int l2), (3, .int l3), (4, .int l4), (5, .int l5)] (v.toList ++ [.int l5, .ref 37]) M' Q))))) :
    P 110 36 [(0, .ref 36), (1, .int l1), (2, .int l2), (3, .int l3), (4, .int l4), (5, .int l5)] [] M Q := by
  exact qRun_ok hG (ops := qo_110) (cuts := qc_md_fill) rfl 60 36 _ _ _ _ hV
set_option maxRecDepth 100000 in
theorem v_md_fill_49 (hG : qGood Ls xs P) {s0 : Int64} {l1 l2 l3 l4 l5 s1 : Int32} {M : qMem} {Q : qPost}
    (hV : (vp_in s1 65 ∧ (P 110 36 [(0, .ref 36), (1, .int l1), (2, .int (l2 + (1 : Int32))), (3, .int l3), (4, .int l4), (5, .int (l5 + (1 : Int32)))] [] (pI M 37 s1.toNatClampNeg s0.toInt32) Q))) :
    P 110 49 [(0, .ref 36), (1, .int l1), (2, .int l2), (3, .int l3), (4, .int l4), (5, .int l5)] [.long s0, .int s1, .ref 37] M Q := by
  exact qRun_ok hG (ops := qo_110) (cuts := qc_md_fill) rfl 60 49 _ _ _ _ hV
def qc_md_thin : List (Nat × List Nat) := [(4, [0, 1, 2]), (11, [0, 1, 2]), (16, [0, 1, 2]), (20, [0, 1, 3, 4]), (23, [0, 1, 3, 4])]
set_option maxRecDepth 100000 in
theorem v_md_thin_0 (hG : qGood Ls xs P) {l1 l2 : Int32} {M : qMem} {Q : qPost}
    (hV : (P 89 0 [(0, .int l1), (1, .int (1 : Int32)), (2, .int (16 : Int32))] [] M (fun v M' => P 111 4 [(0, .ref 36), (1, .int l1), (2, .int l2)] (v.toList ++ []) M' Q))) :
    P 111 0 [(0, .ref 36), (1, .int l1), (2, .int l2)] [] M Q := by
  exact qRun_ok hG (ops := qo_111) (cuts := qc_md_thin) rfl 47 0 _ _ _ _ hV
set_option maxRecDepth 100000 in
theorem v_md_thin_4 (hG : qGood Ls xs P) {l1 l2 s0 : Int32} {M : qMem} {Q : qPost}
    (hV : ((s0 = 0 → Q (some (.int (-1000000002 : Int32))) M) ∧ (¬ (s0 = 0) → (P 89 0 [(0, .int l2), (1, .int (0 : Int32)), (2, .int (l1 - (1 : Int32)))] [] M (fun v M' => P 111 11 [(0, .ref 36), (1, .int l1), (2, .int l2)] (v.toList ++ []) M' Q))))) :
    P 111 4 [(0, .ref 36), (1, .int l1), (2, .int l2)] [.int s0] M Q := by
  exact qRun_ok hG (ops := qo_111) (cuts := qc_md_thin) rfl 47 4 _ _ _ _ hV
set_option maxRecDepth 100000 in
theorem v_md_thin_11 (hG : qGood Ls xs P) {l1 l2 s0 : Int32} {M : qMem} {Q : qPost}
    (hV : ((¬ s0 = 0 → (P 93 0 [(0, .ref 36)] [] M (fun v M' => P 111 16 [(0, .ref 36), (1, .int l1), (2, .int l2)] (v.toList ++ []) M' Q))) ∧ (¬ (¬ s0 = 0) → Q (some (.int (-1000000002 : Int32))) M))) :
    P 111 11 [(0, .ref 36), (1, .int l1), (2, .int l2)] [.int s0] M Q := by
  exact qRun_ok hG (ops := qo_111) (cuts := qc_md_thin) rfl 47 11 _ _ _ _ hV
set_option maxRecDepth 100000 in
theorem v_md_thin_16 (hG : qGood Ls xs P) {l1 l2 : Int32} {M : qMem} {Q : qPost}
    (hV : (P 111 20 [(0, .ref 36), (1, .int l1), (3, .int (0 : Int32)), (4, .int l2)] [] M Q)) :
    P 111 16 [(0, .ref 36), (1, .int l1), (2, .int l2)] [] M Q := by
  exact qRun_ok hG (ops := qo_111) (cuts := qc_md_thin) rfl 47 16 _ _ _ _ hV
set_option maxRecDepth 100000 in
theorem v_md_thin_20 (hG : qGood Ls xs P) {l1 l3 l4 : Int32} {M : qMem} {Q : qPost}
    (hV : (P 90 0 [(0, .ref 36)] [] M (fun v M' => P 111 23 [(0, .ref 36), (1, .int l1), (3, .int l3), (4, .int l4)] (v.toList ++ [.int l4]) M' Q))) :
    P 111 20 [(0, .ref 36), (1, .int l1), (3, .int l3), (4, .int l4)] [] M Q := by
  exact qRun_ok hG (ops := qo_111) (cuts := qc_md_thin) rfl 47 20 _ _ _ _ hV
set_option maxRecDepth 100000 in
theorem v_md_thin_23 (hG : qGood Ls xs P) {l1 l3 l4 s0 s1 : Int32} {M : qMem} {Q : qPost}
    (hV : ((s0 ≤ s1 → (vp_in (64 : Int32) 65 ∧ Q (some (.int l3)) (pI M 37 (64 : Int32).toNatClampNeg l3))) ∧ (¬ (s0 ≤ s1) → (vp_in l4 65 ∧ (vp_in l3 65 ∧ (P 111 20 [(0, .ref 36), (1, .int l1), (3, .int (l3 + (1 : Int32))), (4, .int (l4 + l1))] [] (pI M 37 l3.toNatClampNeg (M.1 37 l4.toNatClampNeg)) Q)))))) :
    P 111 23 [(0, .ref 36), (1, .int l1), (3, .int l3), (4, .int l4)] [.int s0, .int s1] M Q := by
  exact qRun_ok hG (ops := qo_111) (cuts := qc_md_thin) rfl 47 23 _ _ _ _ hV
def qc_md_undo : List (Nat × List Nat) := [(13, [0, 1])]
theorem v_md_undo_0 (hG : qGood Ls xs P) {M : qMem} {Q : qPost}
    (hV : ((¬ (M.1 36 2) = 0 → (P 112 13 [(0, .ref 36), (1, .int (0 : Int32))] [] (pI M 36 2 ((M.1 36 2) - (1 : Int32))) Q)) ∧ (¬ (¬ (M.1 36 2) = 0) → Q (some (.int (-1000000003 : Int32))) M))) :
    P 112 0 [(0, .ref 36)] [] M Q := by
  exact qRun_ok hG (ops := qo_112) (cuts := qc_md_undo) rfl 36 0 _ _ _ _ hV
theorem v_md_undo_13 (hG : qGood Ls xs P) {l1 : Int32} {M : qMem} {Q : qPost}
    (hV : (((65 : Int32) ≤ l1 → Q (some (.int (M.1 36 2))) M) ∧ (¬ ((65 : Int32) ≤ l1) → (vp_in (((65 : Int32) * (M.1 36 2)) + l1) 520 ∧ (vp_in l1 65 ∧ (P 112 13 [(0, .ref 36), (1, .int (l1 + (1 : Int32)))] [] (pI M 37 l1.toNatClampNeg (M.1 38 (((65 : Int32) * (M.1 36 2)) + l1).toNatClampNeg)) Q)))))) :
    P 112 13 [(0, .ref 36), (1, .int l1)] [] M Q := by
  exact qRun_ok hG (ops := qo_112) (cuts := qc_md_undo) rfl 36 13 _ _ _ _ hV
def qc_md_gaps : List (Nat × List Nat) := [(6, [0, 1, 2, 3, 4]), (9, [0, 1, 2, 3, 4]), (13, [0, 1, 2, 3, 4]), (18, [0, 1, 2, 3, 4]), (25, [0, 1, 2, 4])]
theorem v_md_gaps_0 (hG : qGood Ls xs P) {l1 : Int32} {M : qMem} {Q : qPost}
    (hV : (P 113 6 [(0, .ref 36), (1, .int l1), (2, .int (0 : Int32)), (3, .int (0 : Int32)), (4, .int (0 : Int32))] [] M Q)) :
    P 113 0 [(0, .ref 36), (1, .int l1)] [] M Q := by
  exact qRun_ok hG (ops := qo_113) (cuts := qc_md_gaps) rfl 40 0 _ _ _ _ hV
theorem v_md_gaps_6 (hG : qGood Ls xs P) {l1 l2 l3 l4 : Int32} {M : qMem} {Q : qPost}
    (hV : (P 90 0 [(0, .ref 36)] [] M (fun v M' => P 113 9 [(0, .ref 36), (1, .int l1), (2, .int l2), (3, .int l3), (4, .int l4)] (v.toList ++ [.int l4]) M' Q))) :
    P 113 6 [(0, .ref 36), (1, .int l1), (2, .int l2), (3, .int l3), (4, .int l4)] [] M Q := by
  exact qRun_ok hG (ops := qo_113) (cuts := qc_md_gaps) rfl 40 6 _ _ _ _ hV
theorem v_md_gaps_9 (hG : qGood Ls xs P) {l1 l2 l3 l4 s0 s1 : Int32} {M : qMem} {Q : qPost}
    (hV : ((s0 ≤ s1 → ((l1 = 0 → Q (some (.int l2)) M) ∧ (¬ (l1 = 0) → Q (some (.int l3)) M))) ∧ (¬ (s0 ≤ s1) → (P 109 0 [(0, .ref 36), (1, .int l4)] [] M (fun v M' => P 113 13 [(0, .ref 36), (1, .int l1), (2, .int l2), (3, .int l3), (4, .int l4)] (v.toList ++ []) M' Q))))) :
    P 113 9 [(0, .ref 36), (1, .int l1), (2, .int l2), (3, .int l3), (4, .int l4)] [.int s0, .int s1] M Q := by
  exact qRun_ok hG (ops := qo_113) (cuts := qc_md_gaps) rfl 40 9 _ _ _ _ hV
theorem v_md_gaps_13 (hG : qGood Ls xs P) {l1 l2 l3 l4 s0 : Int32} {M : qMem} {Q : qPost}
    (hV : ((s0 = 0 → (P 113 6 [(0, .ref 36), (1, .int l1), (2, .int l2), (3, .int l3), (4, .int (l4 + (1 : Int32)))] [] M Q)) ∧ (¬ (s0 = 0) → (P 108 0 [(0, .ref 36), (1, .int l4)] [] M (fun v M' => P 113 18 [(0, .ref 36), (1, .int l1), (2, .int (l2 + (1 : Int32))), (3, .int l3), (4, .int l4)] (v.toList ++ []) M' Q))))) :
    P 113 13 [(0, .ref 36), (1, .int l1), (2, .int l2), (3, .int l3), (4, .int l4)] [.int s0] M Q := by
  exact qRun_ok hG (ops := qo_113) (cuts := qc_md_gaps) rfl 40 13 _ _ _ _ hV
theorem v_md_gaps_18 (hG : qGood Ls xs P) {l1 l2 l3 l4 s0 : Int32} {M : qMem} {Q : qPost}
    (hV : (((s0 - l4) ≤ l3 → (P 113 6 [(0, .ref 36), (1, .int l1), (2, .int l2), (3, .int l3), (4, .int (l4 + (1 : Int32)))] [] M Q)) ∧ (¬ ((s0 - l4) ≤ l3) → (P 108 0 [(0, .ref 36), (1, .int l4)] [] M (fun v M' => P 113 25 [(0, .ref 36), (1, .int l1), (2, .int l2), (4, .int l4)] (v.toList ++ []) M' Q))))) :
    P 113 18 [(0, .ref 36), (1, .int l1), (2, .int l2), (3, .int l3), (4, .int l4)] [.int s0] M Q := by
  exact qRun_ok hG (ops := qo_113) (cuts := qc_md_gaps) rfl 40 18 _ _ _ _ hV
theorem v_md_gaps_25 (hG : qGood Ls xs P) {l1 l2 l4 s0 : Int32} {M : qMem} {Q : qPost}
    (hV : (P 113 6 [(0, .ref 36), (1, .int l1), (2, .int l2), (3, .int (s0 - l4)), (4, .int (l4 + (1 : Int32)))] [] M Q)) :
    P 113 25 [(0, .ref 36), (1, .int l1), (2, .int l2), (4, .int l4)] [.int s0] M Q := by
  exact qRun_ok hG (ops := qo_113) (cuts := qc_md_gaps) rfl 40 25 _ _ _ _ hV
def qc_md_present : List (Nat × List Nat) := [(4, [0, 1, 2]), (7, [0, 1, 2]), (12, [0, 2])]
theorem v_md_present_0 (hG : qGood Ls xs P) {M : qMem} {Q : qPost}
    (hV : (P 114 4 [(0, .ref 36), (1, .int (0 : Int32)), (2, .int (0 : Int32))] [] M Q)) :
    P 114 0 [(0, .ref 36)] [] M Q := by
  exact qRun_ok hG (ops := qo_114) (cuts := qc_md_present) rfl 24 0 _ _ _ _ hV
theorem v_md_present_4 (hG : qGood Ls xs P) {l1 l2 : Int32} {M : qMem} {Q : qPost}
    (hV : (P 90 0 [(0, .ref 36)] [] M (fun v M' => P 114 7 [(0, .ref 36), (1, .int l1), (2, .int l2)] (v.toList ++ [.int l2]) M' Q))) :
    P 114 4 [(0, .ref 36), (1, .int l1), (2, .int l2)] [] M Q := by
  exact qRun_ok hG (ops := qo_114) (cuts := qc_md_present) rfl 24 4 _ _ _ _ hV
theorem v_md_present_7 (hG : qGood Ls xs P) {l1 l2 s0 s1 : Int32} {M : qMem} {Q : qPost}
    (hV : ((s0 ≤ s1 → Q (some (.int l1)) M) ∧ (¬ (s0 ≤ s1) → (P 92 0 [(0, .ref 36), (1, .int l2)] [] M (fun v M' => P 114 12 [(0, .ref 36), (2, .int l2)] (v.toList ++ [.int l1]) M' Q))))) :
    P 114 7 [(0, .ref 36), (1, .int l1), (2, .int l2)] [.int s0, .int s1] M Q := by
  exact qRun_ok hG (ops := qo_114) (cuts := qc_md_present) rfl 24 7 _ _ _ _ hV
theorem v_md_present_12 (hG : qGood Ls xs P) {l2 s0 s1 : Int32} {M : qMem} {Q : qPost}
    (hV : ((s0 = 0 → (P 114 4 [(0, .ref 36), (1, .int (s1 + (0 : Int32))), (2, .int (l2 + (1 : Int32)))] [] M Q)) ∧ (¬ (s0 = 0) → (P 114 4 [(0, .ref 36), (1, .int (s1 + (1 : Int32))), (2, .int (l2 + (1 : Int32)))] [] M Q)))) :
    P 114 12 [(0, .ref 36), (2, .int l2)] [.int s0, .int s1] M Q := by
  exact qRun_ok hG (ops := qo_114) (cuts := qc_md_present) rfl 24 12 _ _ _ _ hV
def qc_md_end : List (Nat × List Nat) := [(4, [0, 1, 2, 3]), (7, [0, 1, 2, 3]), (11, [0, 1, 2, 3])]
set_option maxRecDepth 100000 in
theorem v_md_end_0 (hG : qGood Ls xs P) {l1 : Int32} {M : qMem} {Q : qPost}
    (hV : (P 115 4 [(0, .ref 36), (1, .int l1), (2, .int (-1000000001 : Int32)), (3, .int (0 : Int32))] [] M Q)) :
    P 115 0 [(0, .ref 36), (1, .int l1)] [] M Q := by
  exact qRun_ok hG (ops := qo_115) (cuts := qc_md_end) rfl 49 0 _ _ _ _ hV
set_option maxRecDepth 100000 in
theorem v_md_end_4 (hG : qGood Ls xs P) {l1 l2 l3 : Int32} {M : qMem} {Q : qPost}
    (hV : (P 90 0 [(0, .ref 36)] [] M (fun v M' => P 115 7 [(0, .ref 36), (1, .int l1), (2, .int l2), (3, .int l3)] (v.toList ++ [.int l3]) M' Q))) :
    P 115 4 [(0, .ref 36), (1, .int l1), (2, .int l2), (3, .int l3)] [] M Q := by
  exact qRun_ok hG (ops := qo_115) (cuts := qc_md_end) rfl 49 4 _ _ _ _ hV
set_option maxRecDepth 100000 in
theorem v_md_end_7 (hG : qGood Ls xs P) {l1 l2 l3 s0 s1 : Int32} {M : qMem} {Q : qPost}
    (hV : ((s0 ≤ s1 → Q (some (.int l2)) M) ∧ (¬ (s0 ≤ s1) → (P 92 0 [(0, .ref 36), (1, .int l3)] [] M (fun v M' => P 115 11 [(0, .ref 36), (1, .int l1), (2, .int l2), (3, .int l3)] (v.toList ++ []) M' Q))))) :
    P 115 7 [(0, .ref 36), (1, .int l1), (2, .int l2), (3, .int l3)] [.int s0, .int s1] M Q := by
  exact qRun_ok hG (ops := qo_115) (cuts := qc_md_end) rfl 49 7 _ _ _ _ hV
set_option maxRecDepth 100000 in
theorem v_md_end_11 (hG : qGood Ls xs P) {l1 l2 l3 s0 : Int32} {M : qMem} {Q : qPost}
    (hV : ((s0 = 0 → (((0 : Int32) = 0 → (P 115 4 [(0, .ref 36), (1, .int l1), (2, .int l2), (3, .int (l3 + (1 : Int32)))] [] M Q)) ∧ (¬ ((0 : Int32) = 0) → (vp_in l3 65 ∧ (P 115 4 [(0, .ref 36), (1, .int l1), (2, .int (M.1 37 l3.toNatClampNeg)), (3, .int (l3 + (1 : Int32)))] [] M Q))))) ∧ (¬ (s0 = 0) → ((l2 = (-1000000001 : Int32) → (((1 : Int32) = 0 → (P 115 4 [(0, .ref 36), (1, .int l1), (2, .int l2), (3, .int (l3 + (1 : Int32)))] [] M Q)) ∧ (¬ ((1 : Int32) = 0) → (vp_in l3 65 ∧ (P 115 4 [(0, .ref 36), (1, .int l1), (2, .int (M.1 37 l3.toNatClampNeg)), (3, .int (l3 + (1 : Int32)))] [] M Q))))) ∧ (¬ (l2 = (-1000000001 : Int32)) → ((l1 = 0 → (vp_in l3 65 ∧ (((M.1 37 l3.toNatClampNeg) ≤ l2 → (((0 : Int32) = 0 → (P 115 4 [(0, .ref 36), (1, .int l1), (2, .int l2), (3, .int (l3 + (1 : Int32)))] [] M Q)) ∧ (¬ ((0 : Int32) = 0) → (vp_in l3 65 ∧ (P 115 4 [(0, .ref 36), (1, .int l1), (2, .int (M.1 37 l3.toNatClampNeg)), (3, .int (l3 + (1 : Int32)))] [] M Q))))) ∧ (¬ ((M.1 37 l3.toNatClampNeg) ≤ l2) → (((1 : Int32) = 0 → (P 115 4 [(0, .ref 36), (1, .int l1), (2, .int l2), (3, .int (l3 + (1 : Int32)))] [] M Q)) ∧ (¬ ((1 : Int32) = 0) → (vp_in l3 65 ∧ (P 115 4 [(0, .ref 36), (1, .int l1), (2, .int (M.1 37 l3.toNatClampNeg)), (3, .int (l3 + (1 : Int32)))] [] M Q)))))))) ∧ (¬ (l1 = 0) → (vp_in l3 65 ∧ ((l2 ≤ (M.1 37 l3.toNatClampNeg) → (((0 : Int32) = 0 → (P 115 4 [(0, .ref 36), (1, .int l1), (2, .int l2), (3, .int (l3 + (1 : Int32)))] [] M Q)) ∧ (¬ ((0 : Int32) = 0) → (vp_in l3 65 ∧ (P 115 4 [(0, .ref 36), (1, .int l1), (2, .int (M.1 37 l3.toNatClampNeg)), (3, .int (l3 + (1 : Int32)))] [] M Q))))) ∧ (¬ (l2 ≤ (M.1 37 l3.toNatClampNeg)) → (((1 : Int32) = 0 → (P 115 4 [(0, .ref 36), (1, .int l1), (2, .int l2), (3, .int (l3 + (1 : Int32)))] [] M Q)) ∧ (¬ ((1 : Int32) = 0) → (vp_in l3 65 ∧ (P 115 4 [(0, .ref 36), (1, .int l1), (2, .int (M.1 37 l3.toNatClampNeg)), (3, .int (l3 + (1 : Int32)))] [] M Q)))))))))))))) :
    P 115 11 [(0, .ref 36), (1, .int l1), (2, .int l2), (3, .int l3)] [.int s0] M Q := by
  exact qRun_ok hG (ops := qo_115) (cuts := qc_md_end) rfl 49 11 _ _ _ _ hV
def qc_md_widest : List (Nat × List Nat) := [(4, [0, 1, 2]), (11, [0, 1, 2])]
theorem v_md_widest_0 (hG : qGood Ls xs P) {M : qMem} {Q : qPost}
    (hV : (P 116 4 [(0, .ref 36), (1, .int (0 : Int32)), (2, .int (1 : Int32))] [] M Q)) :
    P 116 0 [(0, .ref 36)] [] M Q := by
  exact qRun_ok hG (ops := qo_116) (cuts := qc_md_widest) rfl 22 0 _ _ _ _ hV
theorem v_md_widest_4 (hG : qGood Ls xs P) {l1 l2 : Int32} {M : qMem} {Q : qPost}
    (hV : (((31 : Int32) < l2 → Q (some (.int l1)) M) ∧ (¬ ((31 : Int32) < l2) → (P 125 0 [(0, .ref 36), (1, .int (2 : Int32)), (2, .int l2)] [] M (fun v M' => P 116 11 [(0, .ref 36), (1, .int l1), (2, .int l2)] (v.toList ++ []) M' Q))))) :
    P 116 4 [(0, .ref 36), (1, .int l1), (2, .int l2)] [] M Q := by
  exact qRun_ok hG (ops := qo_116) (cuts := qc_md_widest) rfl 22 4 _ _ _ _ hV
theorem v_md_widest_11 (hG : qGood Ls xs P) {l1 l2 s0 : Int32} {M : qMem} {Q : qPost}
    (hV : ((s0 ≤ 0 → (P 116 4 [(0, .ref 36), (1, .int l1), (2, .int (l2 + (1 : Int32)))] [] M Q)) ∧ (¬ (s0 ≤ 0) → (P 116 4 [(0, .ref 36), (1, .int l2), (2, .int (l2 + (1 : Int32)))] [] M Q)))) :
    P 116 11 [(0, .ref 36), (1, .int l1), (2, .int l2)] [.int s0] M Q := by
  exact qRun_ok hG (ops := qo_116) (cuts := qc_md_widest) rfl 22 11 _ _ _ _ hV
def qc_md_told : List (Nat × List Nat) := [(4, []), (7, []), (11, []), (15, []), (19, []), (23, []), (26, [])]
theorem v_md_told_0 (hG : qGood Ls xs P) {l1 : Int32} {M : qMem} {Q : qPost}
    (hV : ((l1 = Int32.ofInt 0 → (P 90 0 [(0, .ref 36)] [] M (fun v M' => P 117 4 [] (v.toList ++ []) M' Q))) ∧ (¬ (l1 = Int32.ofInt 0) → ((l1 = Int32.ofInt 1 → (P 114 0 [(0, .ref 36)] [] M (fun v M' => P 117 7 [] (v.toList ++ []) M' Q))) ∧ (¬ (l1 = Int32.ofInt 1) → ((l1 = Int32.ofInt 2 → (P 115 0 [(0, .ref 36), (1, .int (1 : Int32))] [] M (fun v M' => P 117 11 [] (v.toList ++ []) M' Q))) ∧ (¬ (l1 = Int32.ofInt 2) → ((l1 = Int32.ofInt 3 → (P 115 0 [(0, .ref 36), (1, .int (0 : Int32))] [] M (fun v M' => P 117 15 [] (v.toList ++ []) M' Q))) ∧ (¬ (l1 = Int32.ofInt 3) → ((l1 = Int32.ofInt 4 → (P 113 0 [(0, .ref 36), (1, .int (0 : Int32))] [] M (fun v M' => P 117 19 [] (v.toList ++ []) M' Q))) ∧ (¬ (l1 = Int32.ofInt 4) → ((l1 = Int32.ofInt 5 → (P 113 0 [(0, .ref 36), (1, .int (1 : Int32))] [] M (fun v M' => P 117 23 [] (v.toList ++ []) M' Q))) ∧ (¬ (l1 = Int32.ofInt 5) → ((l1 = Int32.ofInt 6 → (P 116 0 [(0, .ref 36)] [] M (fun v M' => P 117 26 [] (v.toList ++ []) M' Q))) ∧ (¬ (l1 = Int32.ofInt 6) → ((l1 = Int32.ofInt 7 → Q (some (.int (M.1 36 6))) M) ∧ (¬ (l1 = Int32.ofInt 7) → ((l1 = Int32.ofInt 8 → Q (some (.int (M.1 36 2))) M) ∧ (¬ (l1 = Int32.ofInt 8) → Q (some (.int (-1000000002 : Int32))) M))))))))))))))))))) :
    P 117 0 [(0, .ref 36), (1, .int l1)] [] M Q := by
  exact qRun_ok hG (ops := qo_117) (cuts := qc_md_told) rfl 37 0 _ _ _ _ hV
theorem v_md_told_26 (hG : qGood Ls xs P) {s0 : Int32} {M : qMem} {Q : qPost}
    (hV : Q (some (.int s0)) M) :
    P 117 26 [] [.int s0] M Q := by
  exact qRun_ok hG (ops := qo_117) (cuts := qc_md_told) rfl 37 26 _ _ _ _ hV
theorem v_md_told_23 (hG : qGood Ls xs P) {s0 : Int32} {M : qMem} {Q : qPost}
    (hV : Q (some (.int s0)) M) :
    P 117 23 [] [.int s0] M Q := by
  exact qRun_ok hG (ops := qo_117) (cuts := qc_md_told) rfl 37 23 _ _ _ _ hV
theorem v_md_told_19 (hG : qGood Ls xs P) {s0 : Int32} {M : qMem} {Q : qPost}
    (hV : Q (some (.int s0)) M) :
    P 117 19 [] [.int s0] M Q := by
  exact qRun_ok hG (ops := qo_117) (cuts := qc_md_told) rfl 37 19 _ _ _ _ hV
theorem v_md_told_15 (hG : qGood Ls xs P) {s0 : Int32} {M : qMem} {Q : qPost}
    (hV : Q (some (.int s0)) M) :
    P 117 15 [] [.int s0] M Q := by
  exact qRun_ok hG (ops := qo_117) (cuts := qc_md_told) rfl 37 15 _ _ _ _ hV
theorem v_md_told_11 (hG : qGood Ls xs P) {s0 : Int32} {M : qMem} {Q : qPost}
    (hV : Q (some (.int s0)) M) :
    P 117 11 [] [.int s0] M Q := by
  exact qRun_ok hG (ops := qo_117) (cuts := qc_md_told) rfl 37 11 _ _ _ _ hV
theorem v_md_told_7 (hG : qGood Ls xs P) {s0 : Int32} {M : qMem} {Q : qPost}
    (hV : Q (some (.int s0)) M) :
    P 117 7 [] [.int s0] M Q := by
  exact qRun_ok hG (ops := qo_117) (cuts := qc_md_told) rfl 37 7 _ _ _ _ hV
theorem v_md_told_4 (hG : qGood Ls xs P) {s0 : Int32} {M : qMem} {Q : qPost}
    (hV : Q (some (.int s0)) M) :
    P 117 4 [] [.int s0] M Q := by
  exact qRun_ok hG (ops := qo_117) (cuts := qc_md_told) rfl 37 4 _ _ _ _ hV
def qc_md_reading : List (Nat × List Nat) := [(3, [0, 1])]
theorem v_md_reading_0 (hG : qGood Ls xs P) {l1 : Int32} {M : qMem} {Q : qPost}
    (hV : (P 91 0 [(0, .ref 36), (1, .int l1)] [] M (fun v M' => P 118 3 [(0, .ref 36), (1, .int l1)] (v.toList ++ []) M' Q))) :
    P 118 0 [(0, .ref 36), (1, .int l1)] [] M Q := by
  exact qRun_ok hG (ops := qo_118) (cuts := qc_md_reading) rfl 13 0 _ _ _ _ hV
theorem v_md_reading_3 (hG : qGood Ls xs P) {l1 s0 : Int32} {M : qMem} {Q : qPost}
    (hV : ((s0 = 0 → Q (some (.int (-1000000002 : Int32))) M) ∧ (¬ (s0 = 0) → (vp_in l1 65 ∧ Q (some (.int (M.1 37 l1.toNatClampNeg))) M)))) :
    P 118 3 [(0, .ref 36), (1, .int l1)] [.int s0] M Q := by
  exact qRun_ok hG (ops := qo_118) (cuts := qc_md_reading) rfl 13 3 _ _ _ _ hV
def qc_md_exists : List (Nat × List Nat) := [(7, [0, 2, 3, 4, 5]), (18, [0, 2, 3, 5]), (27, [0, 1, 2, 3]), (38, [])]
set_option maxRecDepth 100000 in
theorem v_md_exists_0 (hG : qGood Ls xs P) {l1 l2 l3 : Int32} {M : qMem} {Q : qPost}
    (hV : ((¬ l1 = (4 : Int32) → (P 120 0 [(0, .ref 36), (1, .int l2), (2, .int l3)] [] M (fun v M' => P 119 27 [(0, .ref 36), (1, .int l1), (2, .int l2), (3, .int l3)] (v.toList ++ []) M' Q))) ∧ (¬ (¬ l1 = (4 : Int32)) → (P 119 7 [(0, .ref 36), (2, .int l2), (3, .int l3), (4, .int (1 : Int32)), (5, .int (0 : Int32))] [] M Q)))) :
    P 119 0 [(0, .ref 36), (1, .int l1), (2, .int l2), (3, .int l3)] [] M Q := by
  exact qRun_ok hG (ops := qo_119) (cuts := qc_md_exists) rfl 45 0 _ _ _ _ hV
set_option maxRecDepth 100000 in
theorem v_md_exists_27 (hG : qGood Ls xs P) {l1 l2 l3 s0 : Int32} {M : qMem} {Q : qPost}
    (hV : ((s0 = 0 → (narrow .boolean (.int (0 : Int32)) = .int (0 : Int32) ∧ Q (some (.int (0 : Int32))) M)) ∧ (¬ (s0 = 0) → ((l1 = (2 : Int32) → (narrow .boolean (.int (1 : Int32)) = .int (1 : Int32) ∧ Q (some (.int (1 : Int32))) M)) ∧ (¬ (l1 = (2 : Int32)) → (P 92 0 [(0, .ref 36), (1, .int (l3 + ((3 : Int32) * l2)))] [] M (fun v M' => P 119 38 [] (v.toList ++ []) M' Q))))))) :
    P 119 27 [(0, .ref 36), (1, .int l1), (2, .int l2), (3, .int l3)] [.int s0] M Q := by
  exact qRun_ok hG (ops := qo_119) (cuts := qc_md_exists) rfl 45 27 _ _ _ _ hV
set_option maxRecDepth 100000 in
theorem v_md_exists_7 (hG : qGood Ls xs P) {l2 l3 l4 l5 : Int32} {M : qMem} {Q : qPost}
    (hV : ((l2 ≤ l5 → (narrow .boolean (.int l4) = .int l4 ∧ Q (some (.int l4)) M)) ∧ (¬ (l2 ≤ l5) → ((l4 = 0 → (narrow .boolean (.int l4) = .int l4 ∧ Q (some (.int l4)) M)) ∧ (¬ (l4 = 0) → (P 120 0 [(0, .ref 36), (1, .int l2), (2, .int (l3 + l5))] [] M (fun v M' => P 119 18 [(0, .ref 36), (2, .int l2), (3, .int l3), (5, .int l5)] (v.toList ++ []) M' Q))))))) :
    P 119 7 [(0, .ref 36), (2, .int l2), (3, .int l3), (4, .int l4), (5, .int l5)] [] M Q := by
  exact qRun_ok hG (ops := qo_119) (cuts := qc_md_exists) rfl 45 7 _ _ _ _ hV
set_option maxRecDepth 100000 in
theorem v_md_exists_38 (hG : qGood Ls xs P) {s0 : Int32} {M : qMem} {Q : qPost}
    (hV : ((s0 = 0 → (narrow .boolean (.int (0 : Int32)) = .int (0 : Int32) ∧ Q (some (.int (0 : Int32))) M)) ∧ (¬ (s0 = 0) → (narrow .boolean (.int (1 : Int32)) = .int (1 : Int32) ∧ Q (some (.int (1 : Int32))) M)))) :
    P 119 38 [] [.int s0] M Q := by
  exact qRun_ok hG (ops := qo_119) (cuts := qc_md_exists) rfl 45 38 _ _ _ _ hV
set_option maxRecDepth 100000 in
theorem v_md_exists_18 (hG : qGood Ls xs P) {l2 l3 l5 s0 : Int32} {M : qMem} {Q : qPost}
    (hV : (P 119 7 [(0, .ref 36), (2, .int l2), (3, .int l3), (4, .int s0), (5, .int (l5 + (1 : Int32)))] [] M Q)) :
    P 119 18 [(0, .ref 36), (2, .int l2), (3, .int l3), (5, .int l5)] [.int s0] M Q := by
  exact qRun_ok hG (ops := qo_119) (cuts := qc_md_exists) rfl 45 18 _ _ _ _ hV
def qc_md_exists2 : List (Nat × List Nat) := [(3, [0, 1, 2]), (9, [0, 1, 2]), (17, [])]
theorem v_md_exists2_0 (hG : qGood Ls xs P) {l1 l2 : Int32} {M : qMem} {Q : qPost}
    (hV : (P 92 0 [(0, .ref 36), (1, .int l2)] [] M (fun v M' => P 120 3 [(0, .ref 36), (1, .int l1), (2, .int l2)] (v.toList ++ []) M' Q))) :
    P 120 0 [(0, .ref 36), (1, .int l1), (2, .int l2)] [] M Q := by
  exact qRun_ok hG (ops := qo_120) (cuts := qc_md_exists2) rfl 24 0 _ _ _ _ hV
theorem v_md_exists2_3 (hG : qGood Ls xs P) {l1 l2 s0 : Int32} {M : qMem} {Q : qPost}
    (hV : ((s0 = 0 → (narrow .boolean (.int (0 : Int32)) = .int (0 : Int32) ∧ Q (some (.int (0 : Int32))) M)) ∧ (¬ (s0 = 0) → (P 92 0 [(0, .ref 36), (1, .int (l2 + l1))] [] M (fun v M' => P 120 9 [(0, .ref 36), (1, .int l1), (2, .int l2)] (v.toList ++ []) M' Q))))) :
    P 120 3 [(0, .ref 36), (1, .int l1), (2, .int l2)] [.int s0] M Q := by
  exact qRun_ok hG (ops := qo_120) (cuts := qc_md_exists2) rfl 24 3 _ _ _ _ hV
theorem v_md_exists2_9 (hG : qGood Ls xs P) {l1 l2 s0 : Int32} {M : qMem} {Q : qPost}
    (hV : ((s0 = 0 → (narrow .boolean (.int (0 : Int32)) = .int (0 : Int32) ∧ Q (some (.int (0 : Int32))) M)) ∧ (¬ (s0 = 0) → (P 92 0 [(0, .ref 36), (1, .int (l2 + ((2 : Int32) * l1)))] [] M (fun v M' => P 120 17 [] (v.toList ++ []) M' Q))))) :
    P 120 9 [(0, .ref 36), (1, .int l1), (2, .int l2)] [.int s0] M Q := by
  exact qRun_ok hG (ops := qo_120) (cuts := qc_md_exists2) rfl 24 9 _ _ _ _ hV
theorem v_md_exists2_17 (hG : qGood Ls xs P) {s0 : Int32} {M : qMem} {Q : qPost}
    (hV : ((s0 = 0 → (narrow .boolean (.int (0 : Int32)) = .int (0 : Int32) ∧ Q (some (.int (0 : Int32))) M)) ∧ (¬ (s0 = 0) → (narrow .boolean (.int (1 : Int32)) = .int (1 : Int32) ∧ Q (some (.int (1 : Int32))) M)))) :
    P 120 17 [] [.int s0] M Q := by
  exact qRun_ok hG (ops := qo_120) (cuts := qc_md_exists2) rfl 24 17 _ _ _ _ hV
def qc_md_second : List (Nat × List Nat) := []
theorem v_md_second_0 (hG : qGood Ls xs P) {l1 l2 : Int32} {M : qMem} {Q : qPost}
    (hV : (vp_in (l2 + ((2 : Int32) * l1)) 65 ∧ (vp_in (l2 + l1) 65 ∧ (vp_in l2 65 ∧ Q (some (.int (((M.1 37 (l2 + ((2 : Int32) * l1)).toNatClampNeg) - ((2 : Int32) * (M.1 37 (l2 + l1).toNatClampNeg))) + (M.1 37 l2.toNatClampNeg)))) M)))) :
    P 121 0 [(0, .ref 36), (1, .int l1), (2, .int l2)] [] M Q := by
  exact qRun_ok hG (ops := qo_121) (cuts := qc_md_second) rfl 25 0 _ _ _ _ hV
def qc_md_differenceAt : List (Nat × List Nat) := [(7, []), (49, [0, 2, 3, 4, 5]), (59, [0, 2, 3, 5])]
set_option maxRecDepth 100000 in
theorem v_md_differenceAt_0 (hG : qGood Ls xs P) {l1 l2 l3 : Int32} {M : qMem} {Q : qPost}
    (hV : ((¬ l1 = (2 : Int32) → ((¬ l1 = (3 : Int32) → (P 122 49 [(0, .ref 36), (2, .int l2), (3, .int l3), (4, .int (0 : Int32)), (5, .int (0 : Int32))] [] M Q)) ∧ (¬ (¬ l1 = (3 : Int32)) → (vp_in (l3 + ((3 : Int32) * l2)) 65 ∧ (vp_in (l3 + ((2 : Int32) * l2)) 65 ∧ (vp_in (l3 + l2) 65 ∧ (vp_in l3 65 ∧ Q (some (.int ((((M.1 37 (l3 + ((3 : Int32) * l2)).toNatClampNeg) - ((3 : Int32) * (M.1 37 (l3 + ((2 : Int32) * l2)).toNatClampNeg))) + ((3 : Int32) * (M.1 37 (l3 + l2).toNatClampNeg))) - (M.1 37 l3.toNatClampNeg)))) M))))))) ∧ (¬ (¬ l1 = (2 : Int32)) → (P 121 0 [(0, .ref 36), (1, .int l2), (2, .int l3)] [] M (fun v M' => P 122 7 [] (v.toList ++ []) M' Q))))) :
    P 122 0 [(0, .ref 36), (1, .int l1), (2, .int l2), (3, .int l3)] [] M Q := by
  exact qRun_ok hG (ops := qo_122) (cuts := qc_md_differenceAt) rfl 67 0 _ _ _ _ hV
set_option maxRecDepth 100000 in
theorem v_md_differenceAt_49 (hG : qGood Ls xs P) {l2 l3 l4 l5 : Int32} {M : qMem} {Q : qPost}
    (hV : ((l2 ≤ l5 → Q (some (.int l4)) M) ∧ (¬ (l2 ≤ l5) → (P 121 0 [(0, .ref 36), (1, .int l2), (2, .int (l3 + l5))] [] M (fun v M' => P 122 59 [(0, .ref 36), (2, .int l2), (3, .int l3), (5, .int l5)] (v.toList ++ [.int l4]) M' Q))))) :
    P 122 49 [(0, .ref 36), (2, .int l2), (3, .int l3), (4, .int l4), (5, .int l5)] [] M Q := by
  exact qRun_ok hG (ops := qo_122) (cuts := qc_md_differenceAt) rfl 67 49 _ _ _ _ hV
set_option maxRecDepth 100000 in
theorem v_md_differenceAt_7 (hG : qGood Ls xs P) {s0 : Int32} {M : qMem} {Q : qPost}
    (hV : Q (some (.int s0)) M) :
    P 122 7 [] [.int s0] M Q := by
  exact qRun_ok hG (ops := qo_122) (cuts := qc_md_differenceAt) rfl 67 7 _ _ _ _ hV
set_option maxRecDepth 100000 in
theorem v_md_differenceAt_59 (hG : qGood Ls xs P) {l2 l3 l5 s0 s1 : Int32} {M : qMem} {Q : qPost}
    (hV : (P 122 49 [(0, .ref 36), (2, .int l2), (3, .int l3), (4, .int (s1 + s0)), (5, .int (l5 + (1 : Int32)))] [] M Q)) :
    P 122 59 [(0, .ref 36), (2, .int l2), (3, .int l3), (5, .int l5)] [.int s0, .int s1] M Q := by
  exact qRun_ok hG (ops := qo_122) (cuts := qc_md_differenceAt) rfl 67 59 _ _ _ _ hV
def qc_md_isWide : List (Nat × List Nat) := [(4, [])]
theorem v_md_isWide_0 (hG : qGood Ls xs P) {l0 : Int32} {M : qMem} {Q : qPost}
    (hV : (P 89 0 [(0, .int l0), (1, .int (1 : Int32)), (2, .int (31 : Int32))] [] M (fun v M' => P 123 4 [] (v.toList ++ []) M' Q))) :
    P 123 0 [(0, .int l0)] [] M Q := by
  exact qRun_ok hG (ops := qo_123) (cuts := qc_md_isWide) rfl 7 0 _ _ _ _ hV
theorem v_md_isWide_4 (hG : qGood Ls xs P) {s0 : Int32} {M : qMem} {Q : qPost}
    (hV : (narrow .boolean (.int s0) = .int s0 ∧ Q (some (.int s0)) M)) :
    P 123 4 [] [.int s0] M Q := by
  exact qRun_ok hG (ops := qo_123) (cuts := qc_md_isWide) rfl 7 4 _ _ _ _ hV
def qc_md_difference : List (Nat × List Nat) := [(4, [0, 1, 2, 3]), (7, [0, 1, 2, 3]), (15, [0, 1, 2, 3]), (21, [0, 1, 2, 3]), (27, [])]
theorem v_md_difference_0 (hG : qGood Ls xs P) {l1 l2 l3 : Int32} {M : qMem} {Q : qPost}
    (hV : (P 89 0 [(0, .int l1), (1, .int (2 : Int32)), (2, .int (4 : Int32))] [] M (fun v M' => P 124 4 [(0, .ref 36), (1, .int l1), (2, .int l2), (3, .int l3)] (v.toList ++ []) M' Q))) :
    P 124 0 [(0, .ref 36), (1, .int l1), (2, .int l2), (3, .int l3)] [] M Q := by
  exact qRun_ok hG (ops := qo_124) (cuts := qc_md_difference) rfl 32 0 _ _ _ _ hV
theorem v_md_difference_4 (hG : qGood Ls xs P) {l1 l2 l3 s0 : Int32} {M : qMem} {Q : qPost}
    (hV : ((s0 = 0 → Q (some (.int (-1000000002 : Int32))) M) ∧ (¬ (s0 = 0) → (P 123 0 [(0, .int l2)] [] M (fun v M' => P 124 7 [(0, .ref 36), (1, .int l1), (2, .int l2), (3, .int l3)] (v.toList ++ []) M' Q))))) :
    P 124 4 [(0, .ref 36), (1, .int l1), (2, .int l2), (3, .int l3)] [.int s0] M Q := by
  exact qRun_ok hG (ops := qo_124) (cuts := qc_md_difference) rfl 32 4 _ _ _ _ hV
theorem v_md_difference_7 (hG : qGood Ls xs P) {l1 l2 l3 s0 : Int32} {M : qMem} {Q : qPost}
    (hV : ((s0 = 0 → Q (some (.int (-1000000002 : Int32))) M) ∧ (¬ (s0 = 0) → ((0 ≤ l3 → (P 91 0 [(0, .ref 36), (1, .int l3)] [] M (fun v M' => P 124 15 [(0, .ref 36), (1, .int l1), (2, .int l2), (3, .int l3)] (v.toList ++ []) M' Q))) ∧ (¬ (0 ≤ l3) → Q (some (.int (-1000000002 : Int32))) M))))) :
    P 124 7 [(0, .ref 36), (1, .int l1), (2, .int l2), (3, .int l3)] [.int s0] M Q := by
  exact qRun_ok hG (ops := qo_124) (cuts := qc_md_difference) rfl 32 7 _ _ _ _ hV
theorem v_md_difference_15 (hG : qGood Ls xs P) {l1 l2 l3 s0 : Int32} {M : qMem} {Q : qPost}
    (hV : ((s0 = 0 → Q (some (.int (-1000000001 : Int32))) M) ∧ (¬ (s0 = 0) → (P 119 0 [(0, .ref 36), (1, .int l1), (2, .int l2), (3, .int l3)] [] M (fun v M' => P 124 21 [(0, .ref 36), (1, .int l1), (2, .int l2), (3, .int l3)] (v.toList ++ []) M' Q))))) :
    P 124 15 [(0, .ref 36), (1, .int l1), (2, .int l2), (3, .int l3)] [.int s0] M Q := by
  exact qRun_ok hG (ops := qo_124) (cuts := qc_md_difference) rfl 32 15 _ _ _ _ hV
theorem v_md_difference_21 (hG : qGood Ls xs P) {l1 l2 l3 s0 : Int32} {M : qMem} {Q : qPost}
    (hV : ((s0 = 0 → Q (some (.int (-1000000001 : Int32))) M) ∧ (¬ (s0 = 0) → (P 122 0 [(0, .ref 36), (1, .int l1), (2, .int l2), (3, .int l3)] [] M (fun v M' => P 124 27 [] (v.toList ++ []) M' Q))))) :
    P 124 21 [(0, .ref 36), (1, .int l1), (2, .int l2), (3, .int l3)] [.int s0] M Q := by
  exact qRun_ok hG (ops := qo_124) (cuts := qc_md_difference) rfl 32 21 _ _ _ _ hV
theorem v_md_difference_27 (hG : qGood Ls xs P) {s0 : Int32} {M : qMem} {Q : qPost}
    (hV : Q (some (.int s0)) M) :
    P 124 27 [] [.int s0] M Q := by
  exact qRun_ok hG (ops := qo_124) (cuts := qc_md_difference) rfl 32 27 _ _ _ _ hV
def qc_md_countOf : List (Nat × List Nat) := [(4, [0, 1, 2, 3, 4]), (7, [0, 1, 2, 3, 4]), (14, [0, 1, 2, 4])]
theorem v_md_countOf_0 (hG : qGood Ls xs P) {l1 l2 : Int32} {M : qMem} {Q : qPost}
    (hV : (P 125 4 [(0, .ref 36), (1, .int l1), (2, .int l2), (3, .int (0 : Int32)), (4, .int (0 : Int32))] [] M Q)) :
    P 125 0 [(0, .ref 36), (1, .int l1), (2, .int l2)] [] M Q := by
  exact qRun_ok hG (ops := qo_125) (cuts := qc_md_countOf) rfl 26 0 _ _ _ _ hV
theorem v_md_countOf_4 (hG : qGood Ls xs P) {l1 l2 l3 l4 : Int32} {M : qMem} {Q : qPost}
    (hV : (P 90 0 [(0, .ref 36)] [] M (fun v M' => P 125 7 [(0, .ref 36), (1, .int l1), (2, .int l2), (3, .int l3), (4, .int l4)] (v.toList ++ [.int l4]) M' Q))) :
    P 125 4 [(0, .ref 36), (1, .int l1), (2, .int l2), (3, .int l3), (4, .int l4)] [] M Q := by
  exact qRun_ok hG (ops := qo_125) (cuts := qc_md_countOf) rfl 26 4 _ _ _ _ hV
theorem v_md_countOf_7 (hG : qGood Ls xs P) {l1 l2 l3 l4 s0 s1 : Int32} {M : qMem} {Q : qPost}
    (hV : ((s0 ≤ s1 → Q (some (.int l3)) M) ∧ (¬ (s0 ≤ s1) → (P 119 0 [(0, .ref 36), (1, .int l1), (2, .int l2), (3, .int l4)] [] M (fun v M' => P 125 14 [(0, .ref 36), (1, .int l1), (2, .int l2), (4, .int l4)] (v.toList ++ [.int l3]) M' Q))))) :
    P 125 7 [(0, .ref 36), (1, .int l1), (2, .int l2), (3, .int l3), (4, .int l4)] [.int s0, .int s1] M Q := by
  exact qRun_ok hG (ops := qo_125) (cuts := qc_md_countOf) rfl 26 7 _ _ _ _ hV
theorem v_md_countOf_14 (hG : qGood Ls xs P) {l1 l2 l4 s0 s1 : Int32} {M : qMem} {Q : qPost}
    (hV : ((s0 = 0 → (P 125 4 [(0, .ref 36), (1, .int l1), (2, .int l2), (3, .int (s1 + (0 : Int32))), (4, .int (l4 + (1 : Int32)))] [] M Q)) ∧ (¬ (s0 = 0) → (P 125 4 [(0, .ref 36), (1, .int l1), (2, .int l2), (3, .int (s1 + (1 : Int32))), (4, .int (l4 + (1 : Int32)))] [] M Q)))) :
    P 125 14 [(0, .ref 36), (1, .int l1), (2, .int l2), (4, .int l4)] [.int s0, .int s1] M Q := by
  exact qRun_ok hG (ops := qo_125) (cuts := qc_md_countOf) rfl 26 14 _ _ _ _ hV
def qc_md_count : List (Nat × List Nat) := [(4, [0, 1, 2]), (7, [0, 1, 2]), (12, [])]
theorem v_md_count_0 (hG : qGood Ls xs P) {l1 l2 : Int32} {M : qMem} {Q : qPost}
    (hV : (P 89 0 [(0, .int l1), (1, .int (2 : Int32)), (2, .int (4 : Int32))] [] M (fun v M' => P 126 4 [(0, .ref 36), (1, .int l1), (2, .int l2)] (v.toList ++ []) M' Q))) :
    P 126 0 [(0, .ref 36), (1, .int l1), (2, .int l2)] [] M Q := by
  exact qRun_ok hG (ops := qo_126) (cuts := qc_md_count) rfl 17 0 _ _ _ _ hV
theorem v_md_count_4 (hG : qGood Ls xs P) {l1 l2 s0 : Int32} {M : qMem} {Q : qPost}
    (hV : ((s0 = 0 → Q (some (.int (-1000000002 : Int32))) M) ∧ (¬ (s0 = 0) → (P 123 0 [(0, .int l2)] [] M (fun v M' => P 126 7 [(0, .ref 36), (1, .int l1), (2, .int l2)] (v.toList ++ []) M' Q))))) :
    P 126 4 [(0, .ref 36), (1, .int l1), (2, .int l2)] [.int s0] M Q := by
  exact qRun_ok hG (ops := qo_126) (cuts := qc_md_count) rfl 17 4 _ _ _ _ hV
theorem v_md_count_7 (hG : qGood Ls xs P) {l1 l2 s0 : Int32} {M : qMem} {Q : qPost}
    (hV : ((s0 = 0 → Q (some (.int (-1000000002 : Int32))) M) ∧ (¬ (s0 = 0) → (P 125 0 [(0, .ref 36), (1, .int l1), (2, .int l2)] [] M (fun v M' => P 126 12 [] (v.toList ++ []) M' Q))))) :
    P 126 7 [(0, .ref 36), (1, .int l1), (2, .int l2)] [.int s0] M Q := by
  exact qRun_ok hG (ops := qo_126) (cuts := qc_md_count) rfl 17 7 _ _ _ _ hV
theorem v_md_count_12 (hG : qGood Ls xs P) {s0 : Int32} {M : qMem} {Q : qPost}
    (hV : Q (some (.int s0)) M) :
    P 126 12 [] [.int s0] M Q := by
  exact qRun_ok hG (ops := qo_126) (cuts := qc_md_count) rfl 17 12 _ _ _ _ hV
def qc_md_common : List (Nat × List Nat) := [(4, [4, 6])]
theorem v_md_common_0 (hG : qGood Ls xs P) {l0 l2 : Int64} {M : qMem} {Q : qPost}
    (hV : (P 127 4 [(4, .long l0), (6, .long l2)] [] M Q)) :
    P 127 0 [(0, .long l0), (2, .long l2)] [] M Q := by
  exact qRun_ok hG (ops := qo_127) (cuts := qc_md_common) rfl 21 0 _ _ _ _ hV
theorem v_md_common_4 (hG : qGood Ls xs P) {l4 l6 : Int64} {M : qMem} {Q : qPost}
    (hV : (((lg_cmp l6 (0 : Int64)) = 0 → Q (some (.long l4)) M) ∧ (¬ ((lg_cmp l6 (0 : Int64)) = 0) → (¬ l6 = 0 ∧ (P 127 4 [(4, .long l6), (6, .long (l4 - l4 / l6 * l6))] [] M Q))))) :
    P 127 4 [(4, .long l4), (6, .long l6)] [] M Q := by
  exact qRun_ok hG (ops := qo_127) (cuts := qc_md_common) rfl 21 4 _ _ _ _ hV
def qc_md_layVariance : List (Nat × List Nat) := [(18, [0, 1, 2, 3, 4, 6]), (21, [0, 1, 2, 3, 4, 6]), (27, [0, 1, 2, 3, 4, 6]), (33, [0, 1, 2, 3, 4, 6]), (101, [0])]
set_option maxRecDepth 100000 in
theorem v_md_layVariance_0 (hG : qGood Ls xs P) {l1 l2 : Int32} {M : qMem} {Q : qPost}
    (hV : ((¬ l1 = 0 → ((¬ l1 = (1 : Int32) → (P 128 18 [(0, .ref 36), (1, .int l1), (2, .int l2), (3, .int (4 : Int32)), (4, .long (0 : Int64)), (6, .int (0 : Int32))] [] (pJ M 36 11 (0 : Int64)) Q)) ∧ (¬ (¬ l1 = (1 : Int32)) → (P 128 18 [(0, .ref 36), (1, .int l1), (2, .int l2), (3, .int (3 : Int32)), (4, .long (0 : Int64)), (6, .int (0 : Int32))] [] (pJ M 36 11 (0 : Int64)) Q)))) ∧ (¬ (¬ l1 = 0) → (P 128 18 [(0, .ref 36), (1, .int l1), (2, .int l2), (3, .int (2 : Int32)), (4, .long (0 : Int64)), (6, .int (0 : Int32))] [] (pJ M 36 11 (0 : Int64)) Q)))) :
    P 128 0 [(0, .ref 36), (1, .int l1), (2, .int l2)] [] M Q := by
  exact qRun_ok hG (ops := qo_128) (cuts := qc_md_layVariance) rfl 118 0 _ _ _ _ hV
set_option maxRecDepth 100000 in
theorem v_md_layVariance_18 (hG : qGood Ls xs P) {l4 : Int64} {l1 l2 l3 l6 : Int32} {M : qMem} {Q : qPost}
    (hV : (P 90 0 [(0, .ref 36)] [] M (fun v M' => P 128 21 [(0, .ref 36), (1, .int l1), (2, .int l2), (3, .int l3), (4, .long l4), (6, .int l6)] (v.toList ++ [.int l6]) M' Q))) :
    P 128 18 [(0, .ref 36), (1, .int l1), (2, .int l2), (3, .int l3), (4, .long l4), (6, .int l6)] [] M Q := by
  exact qRun_ok hG (ops := qo_128) (cuts := qc_md_layVariance) rfl 118 18 _ _ _ _ hV
set_option maxRecDepth 100000 in
theorem v_md_layVariance_21 (hG : qGood Ls xs P) {l4 : Int64} {l1 l2 l3 l6 s0 s1 : Int32} {M : qMem} {Q : qPost}
    (hV : ((s0 ≤ s1 → ((¬ l1 = 0 → ((¬ l1 = (1 : Int32) → ((¬ l1 = (2 : Int32) → ((¬ (lg_cmp l4 (0 : Int64)) = 0 → (P 127 0 [(0, .long (M.2 36 11)), (2, .long (((6 : Int64) * (l2.toInt64 * l2.toInt64)) * l4))] [] (pJ M 36 12 (((6 : Int64) * (l2.toInt64 * l2.toInt64)) * l4)) (fun v M' => P 128 101 [(0, .ref 36)] (v.toList ++ []) M' Q))) ∧ (¬ (¬ (lg_cmp l4 (0 : Int64)) = 0) → (narrow .boolean (.int (0 : Int32)) = .int (0 : Int32) ∧ Q (some (.int (0 : Int32))) (pJ M 36 12 (((6 : Int64) * (l2.toInt64 * l2.toInt64)) * l4)))))) ∧ (¬ (¬ l1 = (2 : Int32)) → ((¬ (lg_cmp l4 (0 : Int64)) = 0 → (P 127 0 [(0, .long (M.2 36 11)), (2, .long ((((2 : Int64) * (l2.toInt64 * l2.toInt64)) * (l2.toInt64 * l2.toInt64)) * l4))] [] (pJ M 36 12 ((((2 : Int64) * (l2.toInt64 * l2.toInt64)) * (l2.toInt64 * l2.toInt64)) * l4)) (fun v M' => P 128 101 [(0, .ref 36)] (v.toList ++ []) M' Q))) ∧ (¬ (¬ (lg_cmp l4 (0 : Int64)) = 0) → (narrow .boolean (.int (0 : Int32)) = .int (0 : Int32) ∧ Q (some (.int (0 : Int32))) (pJ M 36 12 ((((2 : Int64) * (l2.toInt64 * l2.toInt64)) * (l2.toInt64 * l2.toInt64)) * l4)))))))) ∧ (¬ (¬ l1 = (1 : Int32)) → ((¬ (lg_cmp l4 (0 : Int64)) = 0 → (P 127 0 [(0, .long (M.2 36 11)), (2, .long (((6 : Int64) * (l2.toInt64 * l2.toInt64)) * l4))] [] (pJ M 36 12 (((6 : Int64) * (l2.toInt64 * l2.toInt64)) * l4)) (fun v M' => P 128 101 [(0, .ref 36)] (v.toList ++ []) M' Q))) ∧ (¬ (¬ (lg_cmp l4 (0 : Int64)) = 0) → (narrow .boolean (.int (0 : Int32)) = .int (0 : Int32) ∧ Q (some (.int (0 : Int32))) (pJ M 36 12 (((6 : Int64) * (l2.toInt64 * l2.toInt64)) * l4)))))))) ∧ (¬ (¬ l1 = 0) → ((¬ (lg_cmp l4 (0 : Int64)) = 0 → (P 127 0 [(0, .long (M.2 36 11)), (2, .long (((2 : Int64) * (l2.toInt64 * l2.toInt64)) * l4))] [] (pJ M 36 12 (((2 : Int64) * (l2.toInt64 * l2.toInt64)) * l4)) (fun v M' => P 128 101 [(0, .ref 36)] (v.toList ++ []) M' Q))) ∧ (¬ (¬ (lg_cmp l4 (0 : Int64)) = 0) → (narrow .boolean (.int (0 : Int32)) = .int (0 : Int32) ∧ Q (some (.int (0 : Int32))) (pJ M 36 12 (((2 : Int64) * (l2.toInt64 * l2.toInt64)) * l4)))))))) ∧ (¬ (s0 ≤ s1) → (P 119 0 [(0, .ref 36), (1, .int l3), (2, .int l2), (3, .int l6)] [] M (fun v M' => P 128 27 [(0, .ref 36), (1, .int l1), (2, .int l2), (3, .int l3), (4, .long l4), (6, .int l6)] (v.toList ++ []) M' Q))))) :
    P 128 21 [(0, .ref 36), (1, .int l1), (2, .int l2), (3, .int l3), (4, .long l4), (6, .int l6)] [.int s0, .int s1] M Q := by
  exact qRun_ok hG (ops := qo_128) (cuts := qc_md_layVariance) rfl 118 21 _ _ _ _ hV
set_option maxRecDepth 100000 in
theorem v_md_layVariance_101 (hG : qGood Ls xs P) {s0 : Int64} {M : qMem} {Q : qPost}
    (hV : (¬ s0 = 0 ∧ (¬ s0 = 0 ∧ (narrow .boolean (.int (1 : Int32)) = .int (1 : Int32) ∧ Q (some (.int (1 : Int32))) (pJ (pJ M 36 11 ((M.2 36 11) / s0)) 36 12 ((M.2 36 12) / s0)))))) :
    P 128 101 [(0, .ref 36)] [.long s0] M Q := by
  exact qRun_ok hG (ops := qo_128) (cuts := qc_md_layVariance) rfl 118 101 _ _ _ _ hV
set_option maxRecDepth 100000 in
theorem v_md_layVariance_27 (hG : qGood Ls xs P) {l4 : Int64} {l1 l2 l3 l6 s0 : Int32} {M : qMem} {Q : qPost}
    (hV : ((s0 = 0 → (P 128 18 [(0, .ref 36), (1, .int l1), (2, .int l2), (3, .int l3), (4, .long l4), (6, .int (l6 + (1 : Int32)))] [] M Q)) ∧ (¬ (s0 = 0) → (P 122 0 [(0, .ref 36), (1, .int l3), (2, .int l2), (3, .int l6)] [] M (fun v M' => P 128 33 [(0, .ref 36), (1, .int l1), (2, .int l2), (3, .int l3), (4, .long l4), (6, .int l6)] (v.toList ++ []) M' Q))))) :
    P 128 27 [(0, .ref 36), (1, .int l1), (2, .int l2), (3, .int l3), (4, .long l4), (6, .int l6)] [.int s0] M Q := by
  exact qRun_ok hG (ops := qo_128) (cuts := qc_md_layVariance) rfl 118 27 _ _ _ _ hV
set_option maxRecDepth 100000 in
theorem v_md_layVariance_33 (hG : qGood Ls xs P) {l4 : Int64} {l1 l2 l3 l6 s0 : Int32} {M : qMem} {Q : qPost}
    (hV : (P 128 18 [(0, .ref 36), (1, .int l1), (2, .int l2), (3, .int l3), (4, .long (l4 + (1 : Int64))), (6, .int (l6 + (1 : Int32)))] [] (pJ M 36 11 ((M.2 36 11) + (s0.toInt64 * s0.toInt64))) Q)) :
    P 128 33 [(0, .ref 36), (1, .int l1), (2, .int l2), (3, .int l3), (4, .long l4), (6, .int l6)] [.int s0] M Q := by
  exact qRun_ok hG (ops := qo_128) (cuts := qc_md_layVariance) rfl 118 33 _ _ _ _ hV
def qc_md_isVariance : List (Nat × List Nat) := [(4, [1]), (7, [])]
theorem v_md_isVariance_0 (hG : qGood Ls xs P) {l0 l1 : Int32} {M : qMem} {Q : qPost}
    (hV : (P 89 0 [(0, .int l0), (1, .int (0 : Int32)), (2, .int (3 : Int32))] [] M (fun v M' => P 129 4 [(1, .int l1)] (v.toList ++ []) M' Q))) :
    P 129 0 [(0, .int l0), (1, .int l1)] [] M Q := by
  exact qRun_ok hG (ops := qo_129) (cuts := qc_md_isVariance) rfl 14 0 _ _ _ _ hV
theorem v_md_isVariance_4 (hG : qGood Ls xs P) {l1 s0 : Int32} {M : qMem} {Q : qPost}
    (hV : ((s0 = 0 → (narrow .boolean (.int (0 : Int32)) = .int (0 : Int32) ∧ Q (some (.int (0 : Int32))) M)) ∧ (¬ (s0 = 0) → (P 123 0 [(0, .int l1)] [] M (fun v M' => P 129 7 [] (v.toList ++ []) M' Q))))) :
    P 129 4 [(1, .int l1)] [.int s0] M Q := by
  exact qRun_ok hG (ops := qo_129) (cuts := qc_md_isVariance) rfl 14 4 _ _ _ _ hV
theorem v_md_isVariance_7 (hG : qGood Ls xs P) {s0 : Int32} {M : qMem} {Q : qPost}
    (hV : ((s0 = 0 → (narrow .boolean (.int (0 : Int32)) = .int (0 : Int32) ∧ Q (some (.int (0 : Int32))) M)) ∧ (¬ (s0 = 0) → (narrow .boolean (.int (1 : Int32)) = .int (1 : Int32) ∧ Q (some (.int (1 : Int32))) M)))) :
    P 129 7 [] [.int s0] M Q := by
  exact qRun_ok hG (ops := qo_129) (cuts := qc_md_isVariance) rfl 14 7 _ _ _ _ hV
def qc_md_variance : List (Nat × List Nat) := [(3, [0, 1, 2, 3]), (8, [0, 1, 2, 3]), (15, [0, 3])]
theorem v_md_variance_0 (hG : qGood Ls xs P) {l1 l2 l3 : Int32} {M : qMem} {Q : qPost}
    (hV : (P 129 0 [(0, .int l1), (1, .int l2)] [] M (fun v M' => P 130 3 [(0, .ref 36), (1, .int l1), (2, .int l2), (3, .int l3)] (v.toList ++ []) M' Q))) :
    P 130 0 [(0, .ref 36), (1, .int l1), (2, .int l2), (3, .int l3)] [] M Q := by
  exact qRun_ok hG (ops := qo_130) (cuts := qc_md_variance) rfl 28 0 _ _ _ _ hV
theorem v_md_variance_3 (hG : qGood Ls xs P) {l1 l2 l3 s0 : Int32} {M : qMem} {Q : qPost}
    (hV : ((s0 = 0 → Q (some (.long (-1000000002 : Int64))) M) ∧ (¬ (s0 = 0) → (P 89 0 [(0, .int l3), (1, .int (0 : Int32)), (2, .int (1 : Int32))] [] M (fun v M' => P 130 8 [(0, .ref 36), (1, .int l1), (2, .int l2), (3, .int l3)] (v.toList ++ []) M' Q))))) :
    P 130 3 [(0, .ref 36), (1, .int l1), (2, .int l2), (3, .int l3)] [.int s0] M Q := by
  exact qRun_ok hG (ops := qo_130) (cuts := qc_md_variance) rfl 28 3 _ _ _ _ hV
theorem v_md_variance_8 (hG : qGood Ls xs P) {l1 l2 l3 s0 : Int32} {M : qMem} {Q : qPost}
    (hV : ((¬ s0 = 0 → (P 128 0 [(0, .ref 36), (1, .int l1), (2, .int l2)] [] M (fun v M' => P 130 15 [(0, .ref 36), (3, .int l3)] (v.toList ++ []) M' Q))) ∧ (¬ (¬ s0 = 0) → Q (some (.long (-1000000002 : Int64))) M))) :
    P 130 8 [(0, .ref 36), (1, .int l1), (2, .int l2), (3, .int l3)] [.int s0] M Q := by
  exact qRun_ok hG (ops := qo_130) (cuts := qc_md_variance) rfl 28 8 _ _ _ _ hV
theorem v_md_variance_15 (hG : qGood Ls xs P) {l3 s0 : Int32} {M : qMem} {Q : qPost}
    (hV : ((¬ s0 = 0 → ((¬ l3 = 0 → Q (some (.long (M.2 36 12))) M) ∧ (¬ (¬ l3 = 0) → Q (some (.long (M.2 36 11))) M))) ∧ (¬ (¬ s0 = 0) → Q (some (.long (-1000000001 : Int64))) M))) :
    P 130 15 [(0, .ref 36), (3, .int l3)] [.int s0] M Q := by
  exact qRun_ok hG (ops := qo_130) (cuts := qc_md_variance) rfl 28 15 _ _ _ _ hV
def qc_md_deviation : List (Nat × List Nat) := [(3, [0, 1, 2]), (10, [0]), (36, [3, 5, 7])]
set_option maxRecDepth 100000 in
theorem v_md_deviation_0 (hG : qGood Ls xs P) {l1 l2 : Int32} {M : qMem} {Q : qPost}
    (hV : (P 129 0 [(0, .int l1), (1, .int l2)] [] M (fun v M' => P 131 3 [(0, .ref 36), (1, .int l1), (2, .int l2)] (v.toList ++ []) M' Q))) :
    P 131 0 [(0, .ref 36), (1, .int l1), (2, .int l2)] [] M Q := by
  exact qRun_ok hG (ops := qo_131) (cuts := qc_md_deviation) rfl 64 0 _ _ _ _ hV
set_option maxRecDepth 100000 in
theorem v_md_deviation_3 (hG : qGood Ls xs P) {l1 l2 s0 : Int32} {M : qMem} {Q : qPost}
    (hV : ((¬ s0 = 0 → (P 128 0 [(0, .ref 36), (1, .int l1), (2, .int l2)] [] M (fun v M' => P 131 10 [(0, .ref 36)] (v.toList ++ []) M' Q))) ∧ (¬ (¬ s0 = 0) → Q (some (.long (-1000000002 : Int64))) M))) :
    P 131 3 [(0, .ref 36), (1, .int l1), (2, .int l2)] [.int s0] M Q := by
  exact qRun_ok hG (ops := qo_131) (cuts := qc_md_deviation) rfl 64 3 _ _ _ _ hV
set_option maxRecDepth 100000 in
theorem v_md_deviation_10 (hG : qGood Ls xs P) {s0 : Int32} {M : qMem} {Q : qPost}
    (hV : ((¬ s0 = 0 → (¬ (M.2 36 12) = 0 ∧ (¬ (M.2 36 12) = 0 ∧ (¬ (M.2 36 12) = 0 ∧ (P 131 36 [(3, .long (((1000000 : Int64) * ((M.2 36 11) / (M.2 36 12))) + (((1000000 : Int64) * ((M.2 36 11) - (M.2 36 11) / (M.2 36 12) * (M.2 36 12))) / (M.2 36 12)))), (5, .long (0 : Int64)), (7, .long (1000000000 : Int64))] [] M Q))))) ∧ (¬ (¬ s0 = 0) → Q (some (.long (-1000000001 : Int64))) M))) :
    P 131 10 [(0, .ref 36)] [.int s0] M Q := by
  exact qRun_ok hG (ops := qo_131) (cuts := qc_md_deviation) rfl 64 10 _ _ _ _ hV
set_option maxRecDepth 100000 in
theorem v_md_deviation_36 (hG : qGood Ls xs P) {l3 l5 l7 : Int64} {M : qMem} {Q : qPost}
    (hV : (((lg_cmp (l7 - l5) (1 : Int64)) ≤ 0 → Q (some (.long l5)) M) ∧ (¬ ((lg_cmp (l7 - l5) (1 : Int64)) ≤ 0) → (¬ (2 : Int64) = 0 ∧ ((0 < (lg_cmp (((l5 + l7) / (2 : Int64)) * ((l5 + l7) / (2 : Int64))) l3) → (P 131 36 [(3, .long l3), (5, .long l5), (7, .long ((l5 + l7) / (2 : Int64)))] [] M Q)) ∧ (¬ (0 < (lg_cmp (((l5 + l7) / (2 : Int64)) * ((l5 + l7) / (2 : Int64))) l3)) → (P 131 36 [(3, .long l3), (5, .long ((l5 + l7) / (2 : Int64))), (7, .long l7)] [] M Q))))))) :
    P 131 36 [(3, .long l3), (5, .long l5), (7, .long l7)] [] M Q := by
  exact qRun_ok hG (ops := qo_131) (cuts := qc_md_deviation) rfl 64 36 _ _ _ _ hV
def qc_md_order : List (Nat × List Nat) := [(10, [8, 10, 12, 14, 16])]
set_option maxRecDepth 100000 in
theorem v_md_order_0 (hG : qGood Ls xs P) {l0 l2 l4 l6 : Int64} {M : qMem} {Q : qPost}
    (hV : (P 132 10 [(8, .long l0), (10, .long l2), (12, .long l4), (14, .long l6), (16, .int (1 : Int32))] [] M Q)) :
    P 132 0 [(0, .long l0), (2, .long l2), (4, .long l4), (6, .long l6)] [] M Q := by
  exact qRun_ok hG (ops := qo_132) (cuts := qc_md_order) rfl 80 0 _ _ _ _ hV
set_option maxRecDepth 100000 in
theorem v_md_order_10 (hG : qGood Ls xs P) {l8 l10 l12 l14 : Int64} {l16 : Int32} {M : qMem} {Q : qPost}
    (hV : (¬ l10 = 0 ∧ (¬ l14 = 0 ∧ (((lg_cmp (l8 / l10) (l12 / l14)) = 0 → (¬ l10 = 0 ∧ (¬ l14 = 0 ∧ (((lg_cmp (l8 - l8 / l10 * l10) (0 : Int64)) = 0 → ((¬ (lg_cmp (l8 - l8 / l10 * l10) (0 : Int64)) = 0 → ((¬ (lg_cmp (l8 - l8 / l10 * l10) (0 : Int64)) = 0 → Q (some (.int l16)) M) ∧ (¬ (¬ (lg_cmp (l8 - l8 / l10 * l10) (0 : Int64)) = 0) → Q (some (.int (-l16))) M))) ∧ (¬ (¬ (lg_cmp (l8 - l8 / l10 * l10) (0 : Int64)) = 0) → ((¬ (lg_cmp (l12 - l12 / l14 * l14) (0 : Int64)) = 0 → ((¬ (lg_cmp (l8 - l8 / l10 * l10) (0 : Int64)) = 0 → Q (some (.int l16)) M) ∧ (¬ (¬ (lg_cmp (l8 - l8 / l10 * l10) (0 : Int64)) = 0) → Q (some (.int (-l16))) M))) ∧ (¬ (¬ (lg_cmp (l12 - l12 / l14 * l14) (0 : Int64)) = 0) → Q (some (.int (0 : Int32))) M))))) ∧ (¬ ((lg_cmp (l8 - l8 / l10 * l10) (0 : Int64)) = 0) → ((¬ (lg_cmp (l12 - l12 / l14 * l14) (0 : Int64)) = 0 → (P 132 10 [(8, .long l10), (10, .long (l8 - l8 / l10 * l10)), (12, .long l14), (14, .long (l12 - l12 / l14 * l14)), (16, .int (-l16))] [] M Q)) ∧ (¬ (¬ (lg_cmp (l12 - l12 / l14 * l14) (0 : Int64)) = 0) → ((¬ (lg_cmp (l8 - l8 / l10 * l10) (0 : Int64)) = 0 → ((¬ (lg_cmp (l8 - l8 / l10 * l10) (0 : Int64)) = 0 → Q (some (.int l16)) M) ∧ (¬ (¬ (lg_cmp (l8 - l8 / l10 * l10) (0 : Int64)) = 0) → Q (some (.int (-l16))) M))) ∧ (¬ (¬ (lg_cmp (l8 - l8 / l10 * l10) (0 : Int64)) = 0) → ((¬ (lg_cmp (l12 - l12 / l14 * l14) (0 : Int64)) = 0 → ((¬ (lg_cmp (l8 - l8 / l10 * l10) (0 : Int64)) = 0 → Q (some (.int l16)) M) ∧ (¬ (¬ (lg_cmp (l8 - l8 / l10 * l10) (0 : Int64)) = 0) → Q (some (.int (-l16))) M))) ∧ (¬ (¬ (lg_cmp (l12 - l12 / l14 * l14) (0 : Int64)) = 0) → Q (some (.int (0 : Int32))) M))))))))))) ∧ (¬ ((lg_cmp (l8 / l10) (l12 / l14)) = 0) → (¬ l10 = 0 ∧ (¬ l14 = 0 ∧ ((0 ≤ (lg_cmp (l8 / l10) (l12 / l14)) → Q (some (.int l16)) M) ∧ (¬ (0 ≤ (lg_cmp (l8 / l10) (l12 / l14))) → Q (some (.int (-l16))) M))))))))) :
    P 132 10 [(8, .long l8), (10, .long l10), (12, .long l12), (14, .long l14), (16, .int l16)] [] M Q := by
  exact qRun_ok hG (ops := qo_132) (cuts := qc_md_order) rfl 80 10 _ _ _ _ hV
def qc_md_compared : List (Nat × List Nat) := [(4, [0, 1, 3]), (17, [0, 4, 6]), (27, [])]
theorem v_md_compared_0 (hG : qGood Ls xs P) {l1 l2 l3 : Int32} {M : qMem} {Q : qPost}
    (hV : (P 128 0 [(0, .ref 36), (1, .int l1), (2, .int l2)] [] M (fun v M' => P 133 4 [(0, .ref 36), (1, .int l1), (3, .int l3)] (v.toList ++ []) M' Q))) :
    P 133 0 [(0, .ref 36), (1, .int l1), (2, .int l2), (3, .int l3)] [] M Q := by
  exact qRun_ok hG (ops := qo_133) (cuts := qc_md_compared) rfl 40 0 _ _ _ _ hV
theorem v_md_compared_4 (hG : qGood Ls xs P) {l1 l3 s0 : Int32} {M : qMem} {Q : qPost}
    (hV : ((¬ s0 = 0 → (P 128 0 [(0, .ref 36), (1, .int l1), (2, .int l3)] [] M (fun v M' => P 133 17 [(0, .ref 36), (4, .long (M.2 36 11)), (6, .long (M.2 36 12))] (v.toList ++ []) M' Q))) ∧ (¬ (¬ s0 = 0) → Q (some (.int (-1000000001 : Int32))) M))) :
    P 133 4 [(0, .ref 36), (1, .int l1), (3, .int l3)] [.int s0] M Q := by
  exact qRun_ok hG (ops := qo_133) (cuts := qc_md_compared) rfl 40 4 _ _ _ _ hV
theorem v_md_compared_17 (hG : qGood Ls xs P) {l4 l6 : Int64} {s0 : Int32} {M : qMem} {Q : qPost}
    (hV : ((¬ s0 = 0 → (P 132 0 [(0, .long l4), (2, .long l6), (4, .long (M.2 36 11)), (6, .long (M.2 36 12))] [] M (fun v M' => P 133 27 [] (v.toList ++ []) M' Q))) ∧ (¬ (¬ s0 = 0) → Q (some (.int (-1000000001 : Int32))) M))) :
    P 133 17 [(0, .ref 36), (4, .long l4), (6, .long l6)] [.int s0] M Q := by
  exact qRun_ok hG (ops := qo_133) (cuts := qc_md_compared) rfl 40 17 _ _ _ _ hV
theorem v_md_compared_27 (hG : qGood Ls xs P) {s0 : Int32} {M : qMem} {Q : qPost}
    (hV : ((¬ s0 = 0 → ((0 ≤ s0 → Q (some (.int (2 : Int32))) M) ∧ (¬ (0 ≤ s0) → Q (some (.int (1 : Int32))) M))) ∧ (¬ (¬ s0 = 0) → Q (some (.int (0 : Int32))) M))) :
    P 133 27 [] [.int s0] M Q := by
  exact qRun_ok hG (ops := qo_133) (cuts := qc_md_compared) rfl 40 27 _ _ _ _ hV
def qc_md_compare : List (Nat × List Nat) := [(3, [0, 1, 2, 3]), (6, [0, 1, 2, 3]), (12, [])]
theorem v_md_compare_0 (hG : qGood Ls xs P) {l1 l2 l3 : Int32} {M : qMem} {Q : qPost}
    (hV : (P 129 0 [(0, .int l1), (1, .int l2)] [] M (fun v M' => P 134 3 [(0, .ref 36), (1, .int l1), (2, .int l2), (3, .int l3)] (v.toList ++ []) M' Q))) :
    P 134 0 [(0, .ref 36), (1, .int l1), (2, .int l2), (3, .int l3)] [] M Q := by
  exact qRun_ok hG (ops := qo_134) (cuts := qc_md_compare) rfl 17 0 _ _ _ _ hV
theorem v_md_compare_3 (hG : qGood Ls xs P) {l1 l2 l3 s0 : Int32} {M : qMem} {Q : qPost}
    (hV : ((s0 = 0 → Q (some (.int (-1000000002 : Int32))) M) ∧ (¬ (s0 = 0) → (P 123 0 [(0, .int l3)] [] M (fun v M' => P 134 6 [(0, .ref 36), (1, .int l1), (2, .int l2), (3, .int l3)] (v.toList ++ []) M' Q))))) :
    P 134 3 [(0, .ref 36), (1, .int l1), (2, .int l2), (3, .int l3)] [.int s0] M Q := by
  exact qRun_ok hG (ops := qo_134) (cuts := qc_md_compare) rfl 17 3 _ _ _ _ hV
theorem v_md_compare_6 (hG : qGood Ls xs P) {l1 l2 l3 s0 : Int32} {M : qMem} {Q : qPost}
    (hV : ((s0 = 0 → Q (some (.int (-1000000002 : Int32))) M) ∧ (¬ (s0 = 0) → (P 133 0 [(0, .ref 36), (1, .int l1), (2, .int l2), (3, .int l3)] [] M (fun v M' => P 134 12 [] (v.toList ++ []) M' Q))))) :
    P 134 6 [(0, .ref 36), (1, .int l1), (2, .int l2), (3, .int l3)] [.int s0] M Q := by
  exact qRun_ok hG (ops := qo_134) (cuts := qc_md_compare) rfl 17 6 _ _ _ _ hV
theorem v_md_compare_12 (hG : qGood Ls xs P) {s0 : Int32} {M : qMem} {Q : qPost}
    (hV : Q (some (.int s0)) M) :
    P 134 12 [] [.int s0] M Q := by
  exact qRun_ok hG (ops := qo_134) (cuts := qc_md_compare) rfl 17 12 _ _ _ _ hV
def qc_md_best : List (Nat × List Nat) := [(4, [0, 1]), (11, [0, 1, 2, 3]), (18, [0, 1, 2, 3]), (27, [0, 1, 2, 3])]
theorem v_md_best_0 (hG : qGood Ls xs P) {l1 : Int32} {M : qMem} {Q : qPost}
    (hV : (P 89 0 [(0, .int l1), (1, .int (0 : Int32)), (2, .int (3 : Int32))] [] M (fun v M' => P 135 4 [(0, .ref 36), (1, .int l1)] (v.toList ++ []) M' Q))) :
    P 135 0 [(0, .ref 36), (1, .int l1)] [] M Q := by
  exact qRun_ok hG (ops := qo_135) (cuts := qc_md_best) rfl 37 0 _ _ _ _ hV
theorem v_md_best_4 (hG : qGood Ls xs P) {l1 s0 : Int32} {M : qMem} {Q : qPost}
    (hV : ((¬ s0 = 0 → (P 135 11 [(0, .ref 36), (1, .int l1), (2, .int (-1000000001 : Int32)), (3, .int (1 : Int32))] [] M Q)) ∧ (¬ (¬ s0 = 0) → Q (some (.int (-1000000002 : Int32))) M))) :
    P 135 4 [(0, .ref 36), (1, .int l1)] [.int s0] M Q := by
  exact qRun_ok hG (ops := qo_135) (cuts := qc_md_best) rfl 37 4 _ _ _ _ hV
theorem v_md_best_11 (hG : qGood Ls xs P) {l1 l2 l3 : Int32} {M : qMem} {Q : qPost}
    (hV : (((31 : Int32) < l3 → Q (some (.int l2)) M) ∧ (¬ ((31 : Int32) < l3) → (P 128 0 [(0, .ref 36), (1, .int l1), (2, .int l3)] [] M (fun v M' => P 135 18 [(0, .ref 36), (1, .int l1), (2, .int l2), (3, .int l3)] (v.toList ++ []) M' Q))))) :
    P 135 11 [(0, .ref 36), (1, .int l1), (2, .int l2), (3, .int l3)] [] M Q := by
  exact qRun_ok hG (ops := qo_135) (cuts := qc_md_best) rfl 37 11 _ _ _ _ hV
theorem v_md_best_18 (hG : qGood Ls xs P) {l1 l2 l3 s0 : Int32} {M : qMem} {Q : qPost}
    (hV : ((s0 = 0 → (P 135 11 [(0, .ref 36), (1, .int l1), (2, .int l2), (3, .int (l3 + (1 : Int32)))] [] M Q)) ∧ (¬ (s0 = 0) → ((l2 = (-1000000001 : Int32) → (P 135 11 [(0, .ref 36), (1, .int l1), (2, .int l3), (3, .int (l3 + (1 : Int32)))] [] M Q)) ∧ (¬ (l2 = (-1000000001 : Int32)) → (P 133 0 [(0, .ref 36), (1, .int l1), (2, .int l3), (3, .int l2)] [] M (fun v M' => P 135 27 [(0, .ref 36), (1, .int l1), (2, .int l2), (3, .int l3)] (v.toList ++ []) M' Q))))))) :
    P 135 18 [(0, .ref 36), (1, .int l1), (2, .int l2), (3, .int l3)] [.int s0] M Q := by
  exact qRun_ok hG (ops := qo_135) (cuts := qc_md_best) rfl 37 18 _ _ _ _ hV
theorem v_md_best_27 (hG : qGood Ls xs P) {l1 l2 l3 s0 : Int32} {M : qMem} {Q : qPost}
    (hV : ((¬ s0 = (1 : Int32) → (P 135 11 [(0, .ref 36), (1, .int l1), (2, .int l2), (3, .int (l3 + (1 : Int32)))] [] M Q)) ∧ (¬ (¬ s0 = (1 : Int32)) → (P 135 11 [(0, .ref 36), (1, .int l1), (2, .int l3), (3, .int (l3 + (1 : Int32)))] [] M Q)))) :
    P 135 27 [(0, .ref 36), (1, .int l1), (2, .int l2), (3, .int l3)] [.int s0] M Q := by
  exact qRun_ok hG (ops := qo_135) (cuts := qc_md_best) rfl 37 27 _ _ _ _ hV
def qc_md_noiseAt : List (Nat × List Nat) := [(4, [0, 1]), (26, [0, 2, 4]), (31, [0, 2, 4, 6]), (46, [0, 2, 4, 6])]
set_option maxRecDepth 100000 in
theorem v_md_noiseAt_0 (hG : qGood Ls xs P) {l1 : Int32} {M : qMem} {Q : qPost}
    (hV : (P 128 0 [(0, .ref 36), (1, .int (0 : Int32)), (2, .int l1)] [] M (fun v M' => P 136 4 [(0, .ref 36), (1, .int l1)] (v.toList ++ []) M' Q))) :
    P 136 0 [(0, .ref 36), (1, .int l1)] [] M Q := by
  exact qRun_ok hG (ops := qo_136) (cuts := qc_md_noiseAt) rfl 55 0 _ _ _ _ hV
set_option maxRecDepth 100000 in
theorem v_md_noiseAt_4 (hG : qGood Ls xs P) {l1 s0 : Int32} {M : qMem} {Q : qPost}
    (hV : ((s0 = 0 → Q (some (.int (-1000000001 : Int32))) M) ∧ (¬ (s0 = 0) → ((¬ (lg_cmp (M.2 36 11) (0 : Int64)) = 0 → (P 128 0 [(0, .ref 36), (1, .int (0 : Int32)), (2, .int ((2 : Int32) * l1))] [] M (fun v M' => P 136 26 [(0, .ref 36), (2, .long ((3 : Int64) * (M.2 36 11))), (4, .long (M.2 36 12))] (v.toList ++ []) M' Q))) ∧ (¬ (¬ (lg_cmp (M.2 36 11) (0 : Int64)) = 0) → Q (some (.int (-1000000001 : Int32))) M))))) :
    P 136 4 [(0, .ref 36), (1, .int l1)] [.int s0] M Q := by
  exact qRun_ok hG (ops := qo_136) (cuts := qc_md_noiseAt) rfl 55 4 _ _ _ _ hV
set_option maxRecDepth 100000 in
theorem v_md_noiseAt_26 (hG : qGood Ls xs P) {l2 l4 : Int64} {s0 : Int32} {M : qMem} {Q : qPost}
    (hV : ((¬ s0 = 0 → (P 136 31 [(0, .ref 36), (2, .long l2), (4, .long l4), (6, .int (0 : Int32))] [] M Q)) ∧ (¬ (¬ s0 = 0) → Q (some (.int (-1000000001 : Int32))) M))) :
    P 136 26 [(0, .ref 36), (2, .long l2), (4, .long l4)] [.int s0] M Q := by
  exact qRun_ok hG (ops := qo_136) (cuts := qc_md_noiseAt) rfl 55 26 _ _ _ _ hV
set_option maxRecDepth 100000 in
theorem v_md_noiseAt_31 (hG : qGood Ls xs P) {l2 l4 : Int64} {l6 : Int32} {M : qMem} {Q : qPost}
    (hV : (((4 : Int32) ≤ l6 → Q (some (.int (4 : Int32))) M) ∧ (¬ ((4 : Int32) ≤ l6) → (P 132 0 [(0, .long (((8 : Int32) >>> (l6 &&& 31)).toInt64 * (M.2 36 11))), (2, .long (M.2 36 12)), (4, .long l2), (6, .long l4)] [] M (fun v M' => P 136 46 [(0, .ref 36), (2, .long l2), (4, .long l4), (6, .int l6)] (v.toList ++ []) M' Q))))) :
    P 136 31 [(0, .ref 36), (2, .long l2), (4, .long l4), (6, .int l6)] [] M Q := by
  exact qRun_ok hG (ops := qo_136) (cuts := qc_md_noiseAt) rfl 55 31 _ _ _ _ hV
set_option maxRecDepth 100000 in
theorem v_md_noiseAt_46 (hG : qGood Ls xs P) {l2 l4 : Int64} {l6 s0 : Int32} {M : qMem} {Q : qPost}
    (hV : ((0 < s0 → (P 136 31 [(0, .ref 36), (2, .long l2), (4, .long l4), (6, .int (l6 + (1 : Int32)))] [] M Q)) ∧ (¬ (0 < s0) → Q (some (.int l6)) M))) :
    P 136 46 [(0, .ref 36), (2, .long l2), (4, .long l4), (6, .int l6)] [.int s0] M Q := by
  exact qRun_ok hG (ops := qo_136) (cuts := qc_md_noiseAt) rfl 55 46 _ _ _ _ hV
def qc_md_noise : List (Nat × List Nat) := [(4, [0, 1]), (8, [])]
theorem v_md_noise_0 (hG : qGood Ls xs P) {l1 : Int32} {M : qMem} {Q : qPost}
    (hV : (P 89 0 [(0, .int l1), (1, .int (1 : Int32)), (2, .int (15 : Int32))] [] M (fun v M' => P 137 4 [(0, .ref 36), (1, .int l1)] (v.toList ++ []) M' Q))) :
    P 137 0 [(0, .ref 36), (1, .int l1)] [] M Q := by
  exact qRun_ok hG (ops := qo_137) (cuts := qc_md_noise) rfl 13 0 _ _ _ _ hV
theorem v_md_noise_4 (hG : qGood Ls xs P) {l1 s0 : Int32} {M : qMem} {Q : qPost}
    (hV : ((s0 = 0 → Q (some (.int (-1000000002 : Int32))) M) ∧ (¬ (s0 = 0) → (P 136 0 [(0, .ref 36), (1, .int l1)] [] M (fun v M' => P 137 8 [] (v.toList ++ []) M' Q))))) :
    P 137 4 [(0, .ref 36), (1, .int l1)] [.int s0] M Q := by
  exact qRun_ok hG (ops := qo_137) (cuts := qc_md_noise) rfl 13 4 _ _ _ _ hV
theorem v_md_noise_8 (hG : qGood Ls xs P) {s0 : Int32} {M : qMem} {Q : qPost}
    (hV : Q (some (.int s0)) M) :
    P 137 8 [] [.int s0] M Q := by
  exact qRun_ok hG (ops := qo_137) (cuts := qc_md_noise) rfl 13 8 _ _ _ _ hV
def qc_md_freedom : List (Nat × List Nat) := [(4, [0, 1]), (10, [0, 1]), (20, [1, 2])]
set_option maxRecDepth 100000 in
theorem v_md_freedom_0 (hG : qGood Ls xs P) {l1 : Int32} {M : qMem} {Q : qPost}
    (hV : (P 89 0 [(0, .int l1), (1, .int (1 : Int32)), (2, .int (15 : Int32))] [] M (fun v M' => P 138 4 [(0, .ref 36), (1, .int l1)] (v.toList ++ []) M' Q))) :
    P 138 0 [(0, .ref 36), (1, .int l1)] [] M Q := by
  exact qRun_ok hG (ops := qo_138) (cuts := qc_md_freedom) rfl 84 0 _ _ _ _ hV
set_option maxRecDepth 100000 in
theorem v_md_freedom_4 (hG : qGood Ls xs P) {l1 s0 : Int32} {M : qMem} {Q : qPost}
    (hV : ((¬ s0 = 0 → (P 136 0 [(0, .ref 36), (1, .int l1)] [] M (fun v M' => P 138 10 [(0, .ref 36), (1, .int l1)] (v.toList ++ []) M' Q))) ∧ (¬ (¬ s0 = 0) → Q (some (.int (-1000000002 : Int32))) M))) :
    P 138 4 [(0, .ref 36), (1, .int l1)] [.int s0] M Q := by
  exact qRun_ok hG (ops := qo_138) (cuts := qc_md_freedom) rfl 84 4 _ _ _ _ hV
set_option maxRecDepth 100000 in
theorem v_md_freedom_10 (hG : qGood Ls xs P) {l1 s0 : Int32} {M : qMem} {Q : qPost}
    (hV : ((¬ s0 = (-1000000001 : Int32) → (P 125 0 [(0, .ref 36), (1, .int (2 : Int32)), (2, .int l1)] [] M (fun v M' => P 138 20 [(1, .int l1), (2, .int s0)] (v.toList ++ []) M' Q))) ∧ (¬ (¬ s0 = (-1000000001 : Int32)) → Q (some (.int (-1000000001 : Int32))) M))) :
    P 138 10 [(0, .ref 36), (1, .int l1)] [.int s0] M Q := by
  exact qRun_ok hG (ops := qo_138) (cuts := qc_md_freedom) rfl 84 10 _ _ _ _ hV
set_option maxRecDepth 100000 in
theorem v_md_freedom_20 (hG : qGood Ls xs P) {l1 l2 s0 : Int32} {M : qMem} {Q : qPost}
    (hV : ((¬ l2 = 0 → ((¬ l2 = (1 : Int32) → ((¬ l2 = (2 : Int32) → (¬ l1 = 0 ∧ (((1 : Int32) ≤ (s0 / l1) → Q (some (.int (s0 / l1))) M) ∧ (¬ ((1 : Int32) ≤ (s0 / l1)) → Q (some (.int (1 : Int32))) M)))) ∧ (¬ (¬ l2 = (2 : Int32)) → (¬ ((4 : Int32) * (s0 + ((3 : Int32) * l1))) = 0 ∧ (((1 : Int32) ≤ ((((5 : Int32) * s0) * s0) / ((4 : Int32) * (s0 + ((3 : Int32) * l1)))) → Q (some (.int ((((5 : Int32) * s0) * s0) / ((4 : Int32) * (s0 + ((3 : Int32) * l1)))))) M) ∧ (¬ ((1 : Int32) ≤ ((((5 : Int32) * s0) * s0) / ((4 : Int32) * (s0 + ((3 : Int32) * l1))))) → Q (some (.int (1 : Int32))) M)))))) ∧ (¬ (¬ l2 = (1 : Int32)) → (¬ ((2 : Int32) * (s0 + l1)) = 0 ∧ (((1 : Int32) ≤ ((((3 : Int32) * s0) * s0) / ((2 : Int32) * (s0 + l1))) → Q (some (.int ((((3 : Int32) * s0) * s0) / ((2 : Int32) * (s0 + l1))))) M) ∧ (¬ ((1 : Int32) ≤ ((((3 : Int32) * s0) * s0) / ((2 : Int32) * (s0 + l1)))) → Q (some (.int (1 : Int32))) M)))))) ∧ (¬ (¬ l2 = 0) → (¬ ((2 : Int32) * (s0 + l1)) = 0 ∧ (((1 : Int32) ≤ (((s0 + (1 : Int32)) * (s0 + ((2 : Int32) * l1))) / ((2 : Int32) * (s0 + l1))) → Q (some (.int (((s0 + (1 : Int32)) * (s0 + ((2 : Int32) * l1))) / ((2 : Int32) * (s0 + l1))))) M) ∧ (¬ ((1 : Int32) ≤ (((s0 + (1 : Int32)) * (s0 + ((2 : Int32) * l1))) / ((2 : Int32) * (s0 + l1)))) → Q (some (.int (1 : Int32))) M)))))) :
    P 138 20 [(1, .int l1), (2, .int l2)] [.int s0] M Q := by
  exact qRun_ok hG (ops := qo_138) (cuts := qc_md_freedom) rfl 84 20 _ _ _ _ hV
def qc_md_outliers : List (Nat × List Nat) := [(4, [0, 1]), (8, [])]
theorem v_md_outliers_0 (hG : qGood Ls xs P) {l1 : Int32} {M : qMem} {Q : qPost}
    (hV : (P 89 0 [(0, .int l1), (1, .int (0 : Int32)), (2, .int (99999 : Int32))] [] M (fun v M' => P 139 4 [(0, .ref 36), (1, .int l1)] (v.toList ++ []) M' Q))) :
    P 139 0 [(0, .ref 36), (1, .int l1)] [] M Q := by
  exact qRun_ok hG (ops := qo_139) (cuts := qc_md_outliers) rfl 13 0 _ _ _ _ hV
theorem v_md_outliers_4 (hG : qGood Ls xs P) {l1 s0 : Int32} {M : qMem} {Q : qPost}
    (hV : ((s0 = 0 → Q (some (.int (-1000000002 : Int32))) M) ∧ (¬ (s0 = 0) → (P 106 0 [(0, .ref 36), (1, .int l1)] [] M (fun v M' => P 139 8 [] (v.toList ++ []) M' Q))))) :
    P 139 4 [(0, .ref 36), (1, .int l1)] [.int s0] M Q := by
  exact qRun_ok hG (ops := qo_139) (cuts := qc_md_outliers) rfl 13 4 _ _ _ _ hV
theorem v_md_outliers_8 (hG : qGood Ls xs P) {s0 : Int32} {M : qMem} {Q : qPost}
    (hV : Q (some (.int s0)) M) :
    P 139 8 [] [.int s0] M Q := by
  exact qRun_ok hG (ops := qo_139) (cuts := qc_md_outliers) rfl 13 8 _ _ _ _ hV
def qc_md_write : List (Nat × List Nat) := [(4, [0, 1])]
theorem v_md_write_0 (hG : qGood Ls xs P) {l1 : Int32} {M : qMem} {Q : qPost}
    (hV : (P 89 0 [(0, .int l1), (1, .int (32 : Int32)), (2, .int (126 : Int32))] [] M (fun v M' => P 140 4 [(0, .ref 36), (1, .int l1)] (v.toList ++ []) M' Q))) :
    P 140 0 [(0, .ref 36), (1, .int l1)] [] M Q := by
  exact qRun_ok hG (ops := qo_140) (cuts := qc_md_write) rfl 30 0 _ _ _ _ hV
theorem v_md_write_4 (hG : qGood Ls xs P) {l1 s0 : Int32} {M : qMem} {Q : qPost}
    (hV : ((¬ s0 = 0 → ((¬ (M.1 36 6) = (120 : Int32) → (vp_in (M.1 36 6) 120 ∧ Q (some (.int ((M.1 36 6) + (1 : Int32)))) (pI (pI M 40 (M.1 36 6).toNatClampNeg l1) 36 6 ((M.1 36 6) + (1 : Int32))))) ∧ (¬ (¬ (M.1 36 6) = (120 : Int32)) → Q (some (.int (-1000000004 : Int32))) M))) ∧ (¬ (¬ s0 = 0) → Q (some (.int (-1000000002 : Int32))) M))) :
    P 140 4 [(0, .ref 36), (1, .int l1)] [.int s0] M Q := by
  exact qRun_ok hG (ops := qo_140) (cuts := qc_md_write) rfl 30 4 _ _ _ _ hV
def qc_md_wipe : List (Nat × List Nat) := []
theorem v_md_wipe_0 (hG : qGood Ls xs P) {M : qMem} {Q : qPost}
    (hV : Q (some (.int (M.1 36 6))) (pI M 36 6 (0 : Int32))) :
    P 141 0 [(0, .ref 36)] [] M Q := by
  exact qRun_ok hG (ops := qo_141) (cuts := qc_md_wipe) rfl 10 0 _ _ _ _ hV
def qc_md_isWrong : List (Nat × List Nat) := []
theorem v_md_isWrong_0 (hG : qGood Ls xs P) {l1 l2 : Int32} {M : qMem} {Q : qPost}
    (hV : (narrow .boolean (.int (1 : Int32)) = .int (1 : Int32) ∧ Q (some (.int (1 : Int32))) (pI (pI M 36 14 l1) 36 15 l2))) :
    P 142 0 [(0, .ref 36), (1, .int l1), (2, .int l2)] [] M Q := by
  exact qRun_ok hG (ops := qo_142) (cuts := qc_md_isWrong) rfl 10 0 _ _ _ _ hV
def qc_md_isDigit : List (Nat × List Nat) := [(13, [])]
theorem v_md_isDigit_0 (hG : qGood Ls xs P) {M : qMem} {Q : qPost}
    (hV : (((M.1 36 6) ≤ (M.1 36 13) → (narrow .boolean (.int (0 : Int32)) = .int (0 : Int32) ∧ Q (some (.int (0 : Int32))) M)) ∧ (¬ ((M.1 36 6) ≤ (M.1 36 13)) → (vp_in (M.1 36 13) 120 ∧ (P 89 0 [(0, .int (M.1 40 (M.1 36 13).toNatClampNeg)), (1, .int (48 : Int32)), (2, .int (57 : Int32))] [] M (fun v M' => P 143 13 [] (v.toList ++ []) M' Q)))))) :
    P 143 0 [(0, .ref 36)] [] M Q := by
  exact qRun_ok hG (ops := qo_143) (cuts := qc_md_isDigit) rfl 20 0 _ _ _ _ hV
theorem v_md_isDigit_13 (hG : qGood Ls xs P) {s0 : Int32} {M : qMem} {Q : qPost}
    (hV : ((s0 = 0 → (narrow .boolean (.int (0 : Int32)) = .int (0 : Int32) ∧ Q (some (.int (0 : Int32))) M)) ∧ (¬ (s0 = 0) → (narrow .boolean (.int (1 : Int32)) = .int (1 : Int32) ∧ Q (some (.int (1 : Int32))) M)))) :
    P 143 13 [] [.int s0] M Q := by
  exact qRun_ok hG (ops := qo_143) (cuts := qc_md_isDigit) rfl 20 13 _ _ _ _ hV
def qc_md_takes : List (Nat × List Nat) := []
theorem v_md_takes_0 (hG : qGood Ls xs P) {l1 : Int32} {M : qMem} {Q : qPost}
    (hV : (((M.1 36 6) ≤ (M.1 36 13) → (((0 : Int32) = 0 → (narrow .boolean (.int (0 : Int32)) = .int (0 : Int32) ∧ Q (some (.int (0 : Int32))) (pI M 36 13 ((M.1 36 13) + (0 : Int32))))) ∧ (¬ ((0 : Int32) = 0) → (narrow .boolean (.int (0 : Int32)) = .int (0 : Int32) ∧ Q (some (.int (0 : Int32))) (pI M 36 13 ((M.1 36 13) + (1 : Int32))))))) ∧ (¬ ((M.1 36 6) ≤ (M.1 36 13)) → (vp_in (M.1 36 13) 120 ∧ ((¬ (M.1 40 (M.1 36 13).toNatClampNeg) = l1 → (((0 : Int32) = 0 → (narrow .boolean (.int (0 : Int32)) = .int (0 : Int32) ∧ Q (some (.int (0 : Int32))) (pI M 36 13 ((M.1 36 13) + (0 : Int32))))) ∧ (¬ ((0 : Int32) = 0) → (narrow .boolean (.int (0 : Int32)) = .int (0 : Int32) ∧ Q (some (.int (0 : Int32))) (pI M 36 13 ((M.1 36 13) + (1 : Int32))))))) ∧ (¬ (¬ (M.1 40 (M.1 36 13).toNatClampNeg) = l1) → (((1 : Int32) = 0 → (narrow .boolean (.int (1 : Int32)) = .int (1 : Int32) ∧ Q (some (.int (1 : Int32))) (pI M 36 13 ((M.1 36 13) + (0 : Int32))))) ∧ (¬ ((1 : Int32) = 0) → (narrow .boolean (.int (1 : Int32)) = .int (1 : Int32) ∧ Q (some (.int (1 : Int32))) (pI M 36 13 ((M.1 36 13) + (1 : Int32)))))))))))) :
    P 144 0 [(0, .ref 36), (1, .int l1)] [] M Q := by
  exact qRun_ok hG (ops := qo_144) (cuts := qc_md_takes) rfl 30 0 _ _ _ _ hV
def qc_md_lacksNumber : List (Nat × List Nat) := [(5, [0, 1, 2]), (10, [0, 1, 2]), (40, [])]
set_option maxRecDepth 100000 in
theorem v_md_lacksNumber_0 (hG : qGood Ls xs P) {l1 : Int32} {M : qMem} {Q : qPost}
    (hV : (P 145 5 [(0, .ref 36), (1, .int l1), (2, .int (0 : Int32))] [] (pI M 36 18 (0 : Int32)) Q)) :
    P 145 0 [(0, .ref 36), (1, .int l1)] [] M Q := by
  exact qRun_ok hG (ops := qo_145) (cuts := qc_md_lacksNumber) rfl 47 0 _ _ _ _ hV
set_option maxRecDepth 100000 in
theorem v_md_lacksNumber_5 (hG : qGood Ls xs P) {l1 l2 : Int32} {M : qMem} {Q : qPost}
    (hV : ((l1 ≤ l2 → ((¬ l2 = 0 → (narrow .boolean (.int (0 : Int32)) = .int (0 : Int32) ∧ Q (some (.int (0 : Int32))) M)) ∧ (¬ (¬ l2 = 0) → (P 142 0 [(0, .ref 36), (1, .int (1 : Int32)), (2, .int (M.1 36 13))] [] M (fun v M' => P 145 40 [] (v.toList ++ []) M' Q))))) ∧ (¬ (l1 ≤ l2) → (P 143 0 [(0, .ref 36)] [] M (fun v M' => P 145 10 [(0, .ref 36), (1, .int l1), (2, .int l2)] (v.toList ++ []) M' Q))))) :
    P 145 5 [(0, .ref 36), (1, .int l1), (2, .int l2)] [] M Q := by
  exact qRun_ok hG (ops := qo_145) (cuts := qc_md_lacksNumber) rfl 47 5 _ _ _ _ hV
set_option maxRecDepth 100000 in
theorem v_md_lacksNumber_40 (hG : qGood Ls xs P) {s0 : Int32} {M : qMem} {Q : qPost}
    (hV : ((s0 = 0 → (narrow .boolean (.int (0 : Int32)) = .int (0 : Int32) ∧ Q (some (.int (0 : Int32))) M)) ∧ (¬ (s0 = 0) → (narrow .boolean (.int (1 : Int32)) = .int (1 : Int32) ∧ Q (some (.int (1 : Int32))) M)))) :
    P 145 40 [] [.int s0] M Q := by
  exact qRun_ok hG (ops := qo_145) (cuts := qc_md_lacksNumber) rfl 47 40 _ _ _ _ hV
set_option maxRecDepth 100000 in
theorem v_md_lacksNumber_10 (hG : qGood Ls xs P) {l1 l2 s0 : Int32} {M : qMem} {Q : qPost}
    (hV : ((s0 = 0 → ((¬ l2 = 0 → (narrow .boolean (.int (0 : Int32)) = .int (0 : Int32) ∧ Q (some (.int (0 : Int32))) M)) ∧ (¬ (¬ l2 = 0) → (P 142 0 [(0, .ref 36), (1, .int (1 : Int32)), (2, .int (M.1 36 13))] [] M (fun v M' => P 145 40 [] (v.toList ++ []) M' Q))))) ∧ (¬ (s0 = 0) → (vp_in (M.1 36 13) 120 ∧ (P 145 5 [(0, .ref 36), (1, .int l1), (2, .int (l2 + (1 : Int32)))] [] (pI (pI M 36 18 ((((10 : Int32) * (M.1 36 18)) + (M.1 40 (M.1 36 13).toNatClampNeg)) - (48 : Int32))) 36 13 ((M.1 36 13) + (1 : Int32))) Q))))) :
    P 145 10 [(0, .ref 36), (1, .int l1), (2, .int l2)] [.int s0] M Q := by
  exact qRun_ok hG (ops := qo_145) (cuts := qc_md_lacksNumber) rfl 47 10 _ _ _ _ hV
def qc_md_isItemWrong : List (Nat × List Nat) := [(8, [0, 1, 2]), (12, [0, 1]), (16, [0, 1, 3]), (33, [0, 1, 2, 3]), (40, [0, 1, 2, 4]), (50, [0, 1, 2, 3, 4]), (55, []), (59, [0, 1, 2, 3]), (65, []), (76, []), (79, [0, 2, 3, 4])]
set_option maxRecDepth 100000 in
theorem v_md_isItemWrong_0 (hG : qGood Ls xs P) {M : qMem} {Q : qPost}
    (hV : (P 144 0 [(0, .ref 36), (1, .int (63 : Int32))] [] M (fun v M' => P 146 8 [(0, .ref 36), (1, .int (M.1 36 13)), (2, .int (-1000000001 : Int32))] (v.toList ++ []) M' Q))) :
    P 146 0 [(0, .ref 36)] [] M Q := by
  exact qRun_ok hG (ops := qo_146) (cuts := qc_md_isItemWrong) rfl 100 0 _ _ _ _ hV
set_option maxRecDepth 100000 in
theorem v_md_isItemWrong_8 (hG : qGood Ls xs P) {l1 l2 s0 : Int32} {M : qMem} {Q : qPost}
    (hV : ((¬ s0 = 0 → (P 144 0 [(0, .ref 36), (1, .int (42 : Int32))] [] M (fun v M' => P 146 33 [(0, .ref 36), (1, .int l1), (2, .int l2), (3, .int (1 : Int32))] (v.toList ++ []) M' Q))) ∧ (¬ (¬ s0 = 0) → (P 144 0 [(0, .ref 36), (1, .int (45 : Int32))] [] M (fun v M' => P 146 12 [(0, .ref 36), (1, .int l1)] (v.toList ++ []) M' Q))))) :
    P 146 8 [(0, .ref 36), (1, .int l1), (2, .int l2)] [.int s0] M Q := by
  exact qRun_ok hG (ops := qo_146) (cuts := qc_md_isItemWrong) rfl 100 8 _ _ _ _ hV
set_option maxRecDepth 100000 in
theorem v_md_isItemWrong_33 (hG : qGood Ls xs P) {l1 l2 l3 s0 : Int32} {M : qMem} {Q : qPost}
    (hV : ((s0 = 0 → (P 144 0 [(0, .ref 36), (1, .int (59 : Int32))] [] M (fun v M' => P 146 59 [(0, .ref 36), (1, .int l1), (2, .int l2), (3, .int l3)] (v.toList ++ []) M' Q))) ∧ (¬ (s0 = 0) → (P 145 0 [(0, .ref 36), (1, .int (2 : Int32))] [] M (fun v M' => P 146 40 [(0, .ref 36), (1, .int l1), (2, .int l2), (4, .int (M.1 36 13))] (v.toList ++ []) M' Q))))) :
    P 146 33 [(0, .ref 36), (1, .int l1), (2, .int l2), (3, .int l3)] [.int s0] M Q := by
  exact qRun_ok hG (ops := qo_146) (cuts := qc_md_isItemWrong) rfl 100 33 _ _ _ _ hV
set_option maxRecDepth 100000 in
theorem v_md_isItemWrong_12 (hG : qGood Ls xs P) {l1 s0 : Int32} {M : qMem} {Q : qPost}
    (hV : (P 145 0 [(0, .ref 36), (1, .int (5 : Int32))] [] M (fun v M' => P 146 16 [(0, .ref 36), (1, .int l1), (3, .int s0)] (v.toList ++ []) M' Q))) :
    P 146 12 [(0, .ref 36), (1, .int l1)] [.int s0] M Q := by
  exact qRun_ok hG (ops := qo_146) (cuts := qc_md_isItemWrong) rfl 100 12 _ _ _ _ hV
set_option maxRecDepth 100000 in
theorem v_md_isItemWrong_59 (hG : qGood Ls xs P) {l1 l2 l3 s0 : Int32} {M : qMem} {Q : qPost}
    (hV : ((¬ s0 = 0 → ((((M.1 36 17) + l3) ≤ (64 : Int32) → (P 146 79 [(0, .ref 36), (2, .int l2), (3, .int l3), (4, .int (0 : Int32))] [] M Q)) ∧ (¬ (((M.1 36 17) + l3) ≤ (64 : Int32)) → (P 142 0 [(0, .ref 36), (1, .int (3 : Int32)), (2, .int l1)] [] M (fun v M' => P 146 76 [] (v.toList ++ []) M' Q))))) ∧ (¬ (¬ s0 = 0) → (P 142 0 [(0, .ref 36), (1, .int (1 : Int32)), (2, .int (M.1 36 13))] [] M (fun v M' => P 146 65 [] (v.toList ++ []) M' Q))))) :
    P 146 59 [(0, .ref 36), (1, .int l1), (2, .int l2), (3, .int l3)] [.int s0] M Q := by
  exact qRun_ok hG (ops := qo_146) (cuts := qc_md_isItemWrong) rfl 100 59 _ _ _ _ hV
set_option maxRecDepth 100000 in
theorem v_md_isItemWrong_40 (hG : qGood Ls xs P) {l1 l2 l4 s0 : Int32} {M : qMem} {Q : qPost}
    (hV : ((s0 = 0 → (P 89 0 [(0, .int (M.1 36 18)), (1, .int (1 : Int32)), (2, .int (64 : Int32))] [] M (fun v M' => P 146 50 [(0, .ref 36), (1, .int l1), (2, .int l2), (3, .int (M.1 36 18)), (4, .int l4)] (v.toList ++ []) M' Q))) ∧ (¬ (s0 = 0) → (narrow .boolean (.int (1 : Int32)) = .int (1 : Int32) ∧ Q (some (.int (1 : Int32))) M)))) :
    P 146 40 [(0, .ref 36), (1, .int l1), (2, .int l2), (4, .int l4)] [.int s0] M Q := by
  exact qRun_ok hG (ops := qo_146) (cuts := qc_md_isItemWrong) rfl 100 40 _ _ _ _ hV
set_option maxRecDepth 100000 in
theorem v_md_isItemWrong_16 (hG : qGood Ls xs P) {l1 l3 s0 : Int32} {M : qMem} {Q : qPost}
    (hV : ((s0 = 0 → ((l3 = 0 → (P 144 0 [(0, .ref 36), (1, .int (42 : Int32))] [] M (fun v M' => P 146 33 [(0, .ref 36), (1, .int l1), (2, .int (M.1 36 18)), (3, .int (1 : Int32))] (v.toList ++ []) M' Q))) ∧ (¬ (l3 = 0) → (P 144 0 [(0, .ref 36), (1, .int (42 : Int32))] [] M (fun v M' => P 146 33 [(0, .ref 36), (1, .int l1), (2, .int (-(M.1 36 18))), (3, .int (1 : Int32))] (v.toList ++ []) M' Q))))) ∧ (¬ (s0 = 0) → (narrow .boolean (.int (1 : Int32)) = .int (1 : Int32) ∧ Q (some (.int (1 : Int32))) M)))) :
    P 146 16 [(0, .ref 36), (1, .int l1), (3, .int l3)] [.int s0] M Q := by
  exact qRun_ok hG (ops := qo_146) (cuts := qc_md_isItemWrong) rfl 100 16 _ _ _ _ hV
set_option maxRecDepth 100000 in
theorem v_md_isItemWrong_79 (hG : qGood Ls xs P) {l2 l3 l4 : Int32} {M : qMem} {Q : qPost}
    (hV : ((l3 ≤ l4 → (narrow .boolean (.int (0 : Int32)) = .int (0 : Int32) ∧ Q (some (.int (0 : Int32))) M)) ∧ (¬ (l3 ≤ l4) → (vp_in (M.1 36 17) 64 ∧ (P 146 79 [(0, .ref 36), (2, .int l2), (3, .int l3), (4, .int (l4 + (1 : Int32)))] [] (pI (pI M 43 (M.1 36 17).toNatClampNeg l2) 36 17 ((M.1 36 17) + (1 : Int32))) Q))))) :
    P 146 79 [(0, .ref 36), (2, .int l2), (3, .int l3), (4, .int l4)] [] M Q := by
  exact qRun_ok hG (ops := qo_146) (cuts := qc_md_isItemWrong) rfl 100 79 _ _ _ _ hV
set_option maxRecDepth 100000 in
theorem v_md_isItemWrong_76 (hG : qGood Ls xs P) {s0 : Int32} {M : qMem} {Q : qPost}
    (hV : (narrow .boolean (.int s0) = .int s0 ∧ Q (some (.int s0)) M)) :
    P 146 76 [] [.int s0] M Q := by
  exact qRun_ok hG (ops := qo_146) (cuts := qc_md_isItemWrong) rfl 100 76 _ _ _ _ hV
set_option maxRecDepth 100000 in
theorem v_md_isItemWrong_65 (hG : qGood Ls xs P) {s0 : Int32} {M : qMem} {Q : qPost}
    (hV : (narrow .boolean (.int s0) = .int s0 ∧ Q (some (.int s0)) M)) :
    P 146 65 [] [.int s0] M Q := by
  exact qRun_ok hG (ops := qo_146) (cuts := qc_md_isItemWrong) rfl 100 65 _ _ _ _ hV
set_option maxRecDepth 100000 in
theorem v_md_isItemWrong_50 (hG : qGood Ls xs P) {l1 l2 l3 l4 s0 : Int32} {M : qMem} {Q : qPost}
    (hV : ((¬ s0 = 0 → (P 144 0 [(0, .ref 36), (1, .int (59 : Int32))] [] M (fun v M' => P 146 59 [(0, .ref 36), (1, .int l1), (2, .int l2), (3, .int l3)] (v.toList ++ []) M' Q))) ∧ (¬ (¬ s0 = 0) → (P 142 0 [(0, .ref 36), (1, .int (2 : Int32)), (2, .int l4)] [] M (fun v M' => P 146 55 [] (v.toList ++ []) M' Q))))) :
    P 146 50 [(0, .ref 36), (1, .int l1), (2, .int l2), (3, .int l3), (4, .int l4)] [.int s0] M Q := by
  exact qRun_ok hG (ops := qo_146) (cuts := qc_md_isItemWrong) rfl 100 50 _ _ _ _ hV
set_option maxRecDepth 100000 in
theorem v_md_isItemWrong_55 (hG : qGood Ls xs P) {s0 : Int32} {M : qMem} {Q : qPost}
    (hV : (narrow .boolean (.int s0) = .int s0 ∧ Q (some (.int s0)) M)) :
    P 146 55 [] [.int s0] M Q := by
  exact qRun_ok hG (ops := qo_146) (cuts := qc_md_isItemWrong) rfl 100 55 _ _ _ _ hV
def qc_md_load : List (Nat × List Nat) := [(6, [0]), (13, [0]), (26, [0]), (28, [0, 1])]
set_option maxRecDepth 100000 in
theorem v_md_load_0 (hG : qGood Ls xs P) {M : qMem} {Q : qPost}
    (hV : (P 147 6 [(0, .ref 36)] [] (pI (pI M 36 13 (0 : Int32)) 36 17 (0 : Int32)) Q)) :
    P 147 0 [(0, .ref 36)] [] M Q := by
  exact qRun_ok hG (ops := qo_147) (cuts := qc_md_load) rfl 53 0 _ _ _ _ hV
set_option maxRecDepth 100000 in
theorem v_md_load_6 (hG : qGood Ls xs P) {M : qMem} {Q : qPost}
    (hV : (((M.1 36 6) ≤ (M.1 36 13) → (P 93 0 [(0, .ref 36)] [] M (fun v M' => P 147 26 [(0, .ref 36)] (v.toList ++ []) M' Q))) ∧ (¬ ((M.1 36 6) ≤ (M.1 36 13)) → (P 146 0 [(0, .ref 36)] [] M (fun v M' => P 147 13 [(0, .ref 36)] (v.toList ++ []) M' Q))))) :
    P 147 6 [(0, .ref 36)] [] M Q := by
  exact qRun_ok hG (ops := qo_147) (cuts := qc_md_load) rfl 53 6 _ _ _ _ hV
set_option maxRecDepth 100000 in
theorem v_md_load_26 (hG : qGood Ls xs P) {M : qMem} {Q : qPost}
    (hV : (P 147 28 [(0, .ref 36), (1, .int (0 : Int32))] [] M Q)) :
    P 147 26 [(0, .ref 36)] [] M Q := by
  exact qRun_ok hG (ops := qo_147) (cuts := qc_md_load) rfl 53 26 _ _ _ _ hV
set_option maxRecDepth 100000 in
theorem v_md_load_13 (hG : qGood Ls xs P) {s0 : Int32} {M : qMem} {Q : qPost}
    (hV : ((s0 = 0 → (P 147 6 [(0, .ref 36)] [] M Q)) ∧ (¬ (s0 = 0) → Q (some (.int (-1000000003 : Int32))) (pI (pI M 36 7 (M.1 36 14)) 36 8 (M.1 36 15))))) :
    P 147 13 [(0, .ref 36)] [.int s0] M Q := by
  exact qRun_ok hG (ops := qo_147) (cuts := qc_md_load) rfl 53 13 _ _ _ _ hV
set_option maxRecDepth 100000 in
theorem v_md_load_28 (hG : qGood Ls xs P) {l1 : Int32} {M : qMem} {Q : qPost}
    (hV : (((M.1 36 17) ≤ l1 → (vp_in (64 : Int32) 65 ∧ Q (some (.int (M.1 36 17))) (pI M 37 (64 : Int32).toNatClampNeg (M.1 36 17)))) ∧ (¬ ((M.1 36 17) ≤ l1) → (vp_in l1 64 ∧ (vp_in l1 65 ∧ (P 147 28 [(0, .ref 36), (1, .int (l1 + (1 : Int32)))] [] (pI M 37 l1.toNatClampNeg (M.1 43 l1.toNatClampNeg)) Q)))))) :
    P 147 28 [(0, .ref 36), (1, .int l1)] [] M Q := by
  exact qRun_ok hG (ops := qo_147) (cuts := qc_md_load) rfl 53 28 _ _ _ _ hV
def qc_md_fault : List (Nat × List Nat) := []
theorem v_md_fault_0 (hG : qGood Ls xs P) {l1 : Int32} {M : qMem} {Q : qPost}
    (hV : ((¬ l1 = 0 → ((¬ l1 = (1 : Int32) → Q (some (.int (-1000000002 : Int32))) M) ∧ (¬ (¬ l1 = (1 : Int32)) → Q (some (.int (M.1 36 8))) M))) ∧ (¬ (¬ l1 = 0) → Q (some (.int (M.1 36 7))) M))) :
    P 148 0 [(0, .ref 36), (1, .int l1)] [] M Q := by
  exact qRun_ok hG (ops := qo_148) (cuts := qc_md_fault) rfl 15 0 _ _ _ _ hV
def qc_md_isImage : List (Nat × List Nat) := [(4, [])]
theorem v_md_isImage_0 (hG : qGood Ls xs P) {l0 : Int32} {M : qMem} {Q : qPost}
    (hV : (P 89 0 [(0, .int l0), (1, .int (0 : Int32)), (2, .int (1 : Int32))] [] M (fun v M' => P 149 4 [] (v.toList ++ []) M' Q))) :
    P 149 0 [(0, .int l0)] [] M Q := by
  exact qRun_ok hG (ops := qo_149) (cuts := qc_md_isImage) rfl 7 0 _ _ _ _ hV
theorem v_md_isImage_4 (hG : qGood Ls xs P) {s0 : Int32} {M : qMem} {Q : qPost}
    (hV : (narrow .boolean (.int s0) = .int s0 ∧ Q (some (.int s0)) M)) :
    P 149 4 [] [.int s0] M Q := by
  exact qRun_ok hG (ops := qo_149) (cuts := qc_md_isImage) rfl 7 4 _ _ _ _ hV
def qc_md_keep : List (Nat × List Nat) := [(2, [0, 1]), (7, [0, 1, 2]), (34, [])]
theorem v_md_keep_0 (hG : qGood Ls xs P) {l1 : Int32} {M : qMem} {Q : qPost}
    (hV : (P 149 0 [(0, .int l1)] [] M (fun v M' => P 150 2 [(0, .ref 36), (1, .int l1)] (v.toList ++ []) M' Q))) :
    P 150 0 [(0, .ref 36), (1, .int l1)] [] M Q := by
  exact qRun_ok hG (ops := qo_150) (cuts := qc_md_keep) rfl 37 0 _ _ _ _ hV
theorem v_md_keep_2 (hG : qGood Ls xs P) {l1 s0 : Int32} {M : qMem} {Q : qPost}
    (hV : ((¬ s0 = 0 → (P 150 7 [(0, .ref 36), (1, .int l1), (2, .int (0 : Int32))] [] M Q)) ∧ (¬ (¬ s0 = 0) → Q (some (.int (-1000000002 : Int32))) M))) :
    P 150 2 [(0, .ref 36), (1, .int l1)] [.int s0] M Q := by
  exact qRun_ok hG (ops := qo_150) (cuts := qc_md_keep) rfl 37 2 _ _ _ _ hV
theorem v_md_keep_7 (hG : qGood Ls xs P) {l1 l2 : Int32} {M : qMem} {Q : qPost}
    (hV : (((65 : Int32) ≤ l2 → (P 90 0 [(0, .ref 36)] [] (pI M 36 4 ((M.1 36 4) ||| ((1 : Int32) <<< (l1 &&& 31)))) (fun v M' => P 150 34 [] (v.toList ++ []) M' Q))) ∧ (¬ ((65 : Int32) ≤ l2) → (vp_in l2 65 ∧ (vp_in (((65 : Int32) * l1) + l2) 130 ∧ (P 150 7 [(0, .ref 36), (1, .int l1), (2, .int (l2 + (1 : Int32)))] [] (pI M 39 (((65 : Int32) * l1) + l2).toNatClampNeg (M.1 37 l2.toNatClampNeg)) Q)))))) :
    P 150 7 [(0, .ref 36), (1, .int l1), (2, .int l2)] [] M Q := by
  exact qRun_ok hG (ops := qo_150) (cuts := qc_md_keep) rfl 37 7 _ _ _ _ hV
theorem v_md_keep_34 (hG : qGood Ls xs P) {s0 : Int32} {M : qMem} {Q : qPost}
    (hV : Q (some (.int s0)) M) :
    P 150 34 [] [.int s0] M Q := by
  exact qRun_ok hG (ops := qo_150) (cuts := qc_md_keep) rfl 37 34 _ _ _ _ hV
def qc_md_back : List (Nat × List Nat) := [(2, [0, 1]), (16, [0, 1]), (18, [0, 1, 2]), (37, [])]
theorem v_md_back_0 (hG : qGood Ls xs P) {l1 : Int32} {M : qMem} {Q : qPost}
    (hV : (P 149 0 [(0, .int l1)] [] M (fun v M' => P 151 2 [(0, .ref 36), (1, .int l1)] (v.toList ++ []) M' Q))) :
    P 151 0 [(0, .ref 36), (1, .int l1)] [] M Q := by
  exact qRun_ok hG (ops := qo_151) (cuts := qc_md_back) rfl 40 0 _ _ _ _ hV
theorem v_md_back_2 (hG : qGood Ls xs P) {l1 s0 : Int32} {M : qMem} {Q : qPost}
    (hV : ((¬ s0 = 0 → ((¬ (((M.1 36 4) >>> (l1 &&& 31)) &&& (1 : Int32)) = 0 → (P 93 0 [(0, .ref 36)] [] M (fun v M' => P 151 16 [(0, .ref 36), (1, .int l1)] (v.toList ++ []) M' Q))) ∧ (¬ (¬ (((M.1 36 4) >>> (l1 &&& 31)) &&& (1 : Int32)) = 0) → Q (some (.int (-1000000003 : Int32))) M))) ∧ (¬ (¬ s0 = 0) → Q (some (.int (-1000000002 : Int32))) M))) :
    P 151 2 [(0, .ref 36), (1, .int l1)] [.int s0] M Q := by
  exact qRun_ok hG (ops := qo_151) (cuts := qc_md_back) rfl 40 2 _ _ _ _ hV
theorem v_md_back_16 (hG : qGood Ls xs P) {l1 : Int32} {M : qMem} {Q : qPost}
    (hV : (P 151 18 [(0, .ref 36), (1, .int l1), (2, .int (0 : Int32))] [] M Q)) :
    P 151 16 [(0, .ref 36), (1, .int l1)] [] M Q := by
  exact qRun_ok hG (ops := qo_151) (cuts := qc_md_back) rfl 40 16 _ _ _ _ hV
theorem v_md_back_18 (hG : qGood Ls xs P) {l1 l2 : Int32} {M : qMem} {Q : qPost}
    (hV : (((65 : Int32) ≤ l2 → (P 90 0 [(0, .ref 36)] [] M (fun v M' => P 151 37 [] (v.toList ++ []) M' Q))) ∧ (¬ ((65 : Int32) ≤ l2) → (vp_in (((65 : Int32) * l1) + l2) 130 ∧ (vp_in l2 65 ∧ (P 151 18 [(0, .ref 36), (1, .int l1), (2, .int (l2 + (1 : Int32)))] [] (pI M 37 l2.toNatClampNeg (M.1 39 (((65 : Int32) * l1) + l2).toNatClampNeg)) Q)))))) :
    P 151 18 [(0, .ref 36), (1, .int l1), (2, .int l2)] [] M Q := by
  exact qRun_ok hG (ops := qo_151) (cuts := qc_md_back) rfl 40 18 _ _ _ _ hV
theorem v_md_back_37 (hG : qGood Ls xs P) {s0 : Int32} {M : qMem} {Q : qPost}
    (hV : Q (some (.int s0)) M) :
    P 151 37 [] [.int s0] M Q := by
  exact qRun_ok hG (ops := qo_151) (cuts := qc_md_back) rfl 40 37 _ _ _ _ hV
end VC
end
section
/-! pure words: 32 and 64 bits by integers -/
def iI (z : Int) : Int32 := Int32.ofInt z
def lI (z : Int) : Int64 := Int64.ofInt z
theorem iI_add (a b : Int) : iI a + iI b = iI (a + b) := (Int32.ofInt_add a b).symm
theorem iI_sub (a b : Int) : iI a - iI b = iI (a - b) := (Int32.ofInt_sub a b).symm
theorem iI_mul (a b : Int) : iI a * iI b = iI (a * b) := (Int32.ofInt_mul a b).symm
theorem iI_neg (a : Int) : -iI a = iI (-a) := (Int32.ofInt_neg a).symm
theorem iI_toInt {a : Int} (h1 : -2147483648 ≤ a) (h2 : a < 2147483648) : (iI a).toInt = a := Int32.toInt_ofInt_of_le (by simpa using h1) (by simpa using h2)
theorem iI_lt {a b : Int} (h1 : -2147483648 ≤ a) (h2 : a < 2147483648) (h3 : -2147483648 ≤ b) (h4 : b < 2147483648) : (iI a < iI b) ↔ a < b := by
  rw [Int32.lt_iff_toInt_lt, iI_toInt h1 h2, iI_toInt h3 h4]
theorem iI_le {a b : Int} (h1 : -2147483648 ≤ a) (h2 : a < 2147483648) (h3 : -2147483648 ≤ b) (h4 : b < 2147483648) : (iI a ≤ iI b) ↔ a ≤ b := by
  rw [Int32.le_iff_toInt_le, iI_toInt h1 h2, iI_toInt h3 h4]
theorem iI_eq {a b : Int} (h1 : -2147483648 ≤ a) (h2 : a < 2147483648) (h3 : -2147483648 ≤ b) (h4 : b < 2147483648) : (iI a = iI b) ↔ a = b := by
  rw [← Int32.toInt_inj, iI_toInt h1 h2, iI_toInt h3 h4]
theorem iI_cl {a : Int} (h1 : -2147483648 ≤ a) (h2 : a < 2147483648) : (iI a).toNatClampNeg = a.toNat := Int32.toNatClampNeg_ofInt_of_le (by simpa using h1) (by simpa using h2)
theorem vp_iI {a : Int} {n : Nat} (h1 : -2147483648 ≤ a) (h2 : a < 2147483648) : vp_in (iI a) n ↔ 0 ≤ a ∧ a < n := by
  rw [vp_in_iff, iI_toInt h1 h2]
theorem iI_of (x : Int32) : ∃ z : Int, x = iI z ∧ -2147483648 ≤ z ∧ z < 2147483648 := ⟨x.toInt, (Int32.ofInt_toInt x).symm, by simpa using Int32.le_toInt x, by simpa using Int32.toInt_lt x⟩
theorem iI_div {a b : Int} (h1 : 0 ≤ a) (h2 : a < 2147483648) (h3 : 0 < b) (h4 : b < 2147483648) : iI a / iI b = iI (a / b) := by
  show Int32.ofInt a / Int32.ofInt b = Int32.ofInt (a / b)
  rw [← Int32.ofInt_tdiv (by show (-2147483648 : Int) ≤ a; omega) (by show a ≤ (2147483647 : Int); omega) (by show (-2147483648 : Int) ≤ b; omega) (by show b ≤ (2147483647 : Int); omega), Int.tdiv_eq_ediv_of_nonneg h1]
theorem lI_add (a b : Int) : lI a + lI b = lI (a + b) := (Int64.ofInt_add a b).symm
theorem lI_sub (a b : Int) : lI a - lI b = lI (a - b) := (Int64.ofInt_sub a b).symm
theorem lI_mul (a b : Int) : lI a * lI b = lI (a * b) := (Int64.ofInt_mul a b).symm
theorem lI_neg (a : Int) : -lI a = lI (-a) := (Int64.ofInt_neg a).symm
theorem lI_toInt {a : Int} (h1 : -9223372036854775808 ≤ a) (h2 : a < 9223372036854775808) : (lI a).toInt = a := Int64.toInt_ofInt_of_le (by simpa using h1) (by simpa using h2)
theorem lI_eq {a b : Int} (h1 : -9223372036854775808 ≤ a) (h2 : a < 9223372036854775808) (h3 : -9223372036854775808 ≤ b) (h4 : b < 9223372036854775808) : (lI a = lI b) ↔ a = b := by
  rw [← Int64.toInt_inj, lI_toInt h1 h2, lI_toInt h3 h4]
theorem lI_tdiv {a b : Int} (h1 : -9223372036854775808 ≤ a) (h2 : a < 9223372036854775808) (h3 : -9223372036854775808 ≤ b) (h4 : b < 9223372036854775808) : lI a / lI b = lI (a.tdiv b) := by
  show Int64.ofInt a / Int64.ofInt b = Int64.ofInt (a.tdiv b)
  rw [← Int64.ofInt_tdiv (by show (-9223372036854775808 : Int) ≤ a; omega) (by show a ≤ (9223372036854775807 : Int); omega) (by show (-9223372036854775808 : Int) ≤ b; omega) (by show b ≤ (9223372036854775807 : Int); omega)]
theorem i2l {a : Int} (h1 : -2147483648 ≤ a) (h2 : a < 2147483648) : (iI a).toInt64 = lI a := Int32.toInt64_ofInt (by show (-2147483648 : Int) ≤ a; omega) (by show a ≤ (2147483647 : Int); omega)
theorem l2i (a : Int) : (lI a).toInt32 = iI a := Int64.toInt32_ofInt
def cmpZ (a b : Int) : Int := if b < a then 1 else if a = b then 0 else -1
theorem lg_cmpZ {a b : Int} (h1 : -9223372036854775808 ≤ a) (h2 : a < 9223372036854775808) (h3 : -9223372036854775808 ≤ b) (h4 : b < 9223372036854775808) : lg_cmp (lI a) (lI b) = iI (cmpZ a b) := by
  unfold lg_cmp cmpZ
  have e1 : (lI a > lI b) ↔ b < a := by
    show lI b < lI a ↔ _
    rw [Int64.lt_iff_toInt_lt, lI_toInt h1 h2, lI_toInt h3 h4]
  simp only [e1, lI_eq h1 h2 h3 h4]
  split
  · rfl
  · split <;> rfl
theorem iLn1000000005 : ((-1000000005) : Int32) = iI (-1000000005) := by decide
theorem iLn1000000004 : ((-1000000004) : Int32) = iI (-1000000004) := by decide
theorem iLn1000000003 : ((-1000000003) : Int32) = iI (-1000000003) := by decide
theorem iLn1000000002 : ((-1000000002) : Int32) = iI (-1000000002) := by decide
theorem iLn1000000001 : ((-1000000001) : Int32) = iI (-1000000001) := by decide
theorem iLn99999 : ((-99999) : Int32) = iI (-99999) := by decide
theorem iLn9999 : ((-9999) : Int32) = iI (-9999) := by decide
theorem iLn2 : ((-2) : Int32) = iI (-2) := by decide
theorem iLn1 : ((-1) : Int32) = iI (-1) := by decide
theorem iL0 : (0 : Int32) = iI 0 := by decide
theorem iL1 : (1 : Int32) = iI 1 := by decide
theorem iL2 : (2 : Int32) = iI 2 := by decide
theorem iL3 : (3 : Int32) = iI 3 := by decide
theorem iL4 : (4 : Int32) = iI 4 := by decide
theorem iL5 : (5 : Int32) = iI 5 := by decide
theorem iL6 : (6 : Int32) = iI 6 := by decide
theorem iL7 : (7 : Int32) = iI 7 := by decide
theorem iL8 : (8 : Int32) = iI 8 := by decide
theorem iL9 : (9 : Int32) = iI 9 := by decide
theorem iL10 : (10 : Int32) = iI 10 := by decide
theorem iL15 : (15 : Int32) = iI 15 := by decide
theorem iL16 : (16 : Int32) = iI 16 := by decide
theorem iL31 : (31 : Int32) = iI 31 := by decide
theorem iL32 : (32 : Int32) = iI 32 := by decide
theorem iL40 : (40 : Int32) = iI 40 := by decide
theorem iL42 : (42 : Int32) = iI 42 := by decide
theorem iL45 : (45 : Int32) = iI 45 := by decide
theorem iL48 : (48 : Int32) = iI 48 := by decide
theorem iL57 : (57 : Int32) = iI 57 := by decide
theorem iL59 : (59 : Int32) = iI 59 := by decide
theorem iL63 : (63 : Int32) = iI 63 := by decide
theorem iL64 : (64 : Int32) = iI 64 := by decide
theorem iL65 : (65 : Int32) = iI 65 := by decide
theorem iL120 : (120 : Int32) = iI 120 := by decide
theorem iL126 : (126 : Int32) = iI 126 := by decide
theorem iL455 : (455 : Int32) = iI 455 := by decide
theorem iL520 : (520 : Int32) = iI 520 := by decide
theorem iL9999 : (9999 : Int32) = iI 9999 := by decide
theorem iL99999 : (99999 : Int32) = iI 99999 := by decide
theorem iN2 : Int32.ofNat 2 = iI 2 := by decide
theorem iN8 : Int32.ofNat 8 = iI 8 := by decide
theorem iN64 : Int32.ofNat 64 = iI 64 := by decide
theorem iN65 : Int32.ofNat 65 = iI 65 := by decide
theorem iN120 : Int32.ofNat 120 = iI 120 := by decide
theorem iN130 : Int32.ofNat 130 = iI 130 := by decide
theorem iN520 : Int32.ofNat 520 = iI 520 := by decide
theorem lL0 : (0 : Int64) = lI 0 := by decide
theorem lL1 : (1 : Int64) = lI 1 := by decide
/-- one answer for another -/
theorem q_i {Q : qPost} {M : qMem} {a b : Int} (h : a = b) (hQ : Q (some (.int (iI a))) M) : Q (some (.int (iI b))) M := h ▸ hQ
theorem q_l {Q : qPost} {M : qMem} {a b : Int} (h : a = b) (hQ : Q (some (.long (lI a))) M) : Q (some (.long (lI b))) M := h ▸ hQ
theorem nz0 : narrow .boolean (.int (iI 0)) = .int (iI 0) := by decide
theorem nz1 : narrow .boolean (.int (iI 1)) = .int (iI 1) := by decide
def bZ (p : Prop) [Decidable p] : Int := if p then 1 else 0
theorem bZ_t {p : Prop} [Decidable p] (h : p) : bZ p = 1 := if_pos h
theorem bZ_f {p : Prop} [Decidable p] (h : ¬ p) : bZ p = 0 := if_neg h
theorem bZ_in (p : Prop) [Decidable p] : 0 ≤ bZ p ∧ bZ p ≤ 1 := by unfold bZ; split <;> omega
theorem bZ_0 (p : Prop) [Decidable p] : (bZ p = 0) ↔ ¬ p := by unfold bZ; split <;> simp_all
theorem bZ_n (p : Prop) [Decidable p] : narrow .boolean (.int (iI (bZ p))) = .int (iI (bZ p)) := by unfold bZ; split <;> decide
theorem q_b {Q : qPost} {M : qMem} {p : Prop} [Decidable p] {r : Int} (hQ : Q (some (.int (iI (bZ p)))) M) (h : bZ p = r) : narrow .boolean (.int (iI r)) = .int (iI r) ∧ Q (some (.int (iI r))) M := by
  subst h
  exact ⟨bZ_n p, hQ⟩
/-- memory -/
theorem pI_e {M : qMem} {k j : Nat} {x : Int32} : (pI M k j x).1 k j = x := by
  show (if k = k ∧ j = j then x else M.1 k j) = x
  simp
theorem pI_n {M : qMem} {k j k' j' : Nat} {x : Int32} (h : k' ≠ k) : (pI M k j x).1 k' j' = M.1 k' j' := by
  rw [pI_o h]
theorem pI_nj {M : qMem} {k j j' : Nat} {x : Int32} (h : j' ≠ j) : (pI M k j x).1 k j' = M.1 k j' := by
  show (if k = k ∧ j' = j then x else M.1 k j') = _
  simp [h]
theorem pJ_e {M : qMem} {k j : Nat} {x : Int64} : (pJ M k j x).2 k j = x := by
  show (if k = k ∧ j = j then x else M.2 k j) = x
  simp
theorem pJ_n {M : qMem} {k j k' j' : Nat} {x : Int64} (h : k' ≠ k) : (pJ M k j x).2 k' j' = M.2 k' j' := by
  rw [pJ_o h]
theorem pJ_nj {M : qMem} {k j j' : Nat} {x : Int64} (h : j' ≠ j) : (pJ M k j x).2 k j' = M.2 k j' := by
  show (if k = k ∧ j' = j then x else M.2 k j') = _
  simp [h]
theorem pI_2 {M : qMem} {k j : Nat} {x : Int32} : (pI M k j x).2 = M.2 := rfl
theorem pJ_1 {M : qMem} {k j : Nat} {x : Int64} : (pJ M k j x).1 = M.1 := rfl
/-- what isn't named stays -/
def qFm (A : List Nat) (M M' : qMem) : Prop := ∀ a, a ∉ A → M'.1 a = M.1 a ∧ M'.2 a = M.2 a
theorem qFm.rf {A : List Nat} {M : qMem} : qFm A M M := fun _ _ => ⟨rfl, rfl⟩
theorem qFm.tr {A : List Nat} {M M1 M2 : qMem} (h : qFm A M M1) (h2 : qFm A M1 M2) : qFm A M M2 := fun a ha => ⟨(h2 a ha).1.trans (h a ha).1, (h2 a ha).2.trans (h a ha).2⟩
theorem qFm.up {A B : List Nat} {M M1 : qMem} (h : qFm A M M1) (hAB : ∀ a ∈ A, a ∈ B) : qFm B M M1 := fun a ha => h a (fun q => ha (hAB a q))
theorem qFm.pI {A : List Nat} {M : qMem} {k j : Nat} {x : Int32} (h : k ∈ A) : qFm A M (pI M k j x) := fun a ha => ⟨pI_o (fun e => ha (e ▸ h)), rfl⟩
theorem qFm.pJ {A : List Nat} {M : qMem} {k j : Nat} {x : Int64} (h : k ∈ A) : qFm A M (pJ M k j x) := fun a ha => ⟨rfl, pJ_o (fun e => ha (e ▸ h))⟩
end
section
/-! readings: their words, and what each method of the row answers -/
def okv (v : Int) : Prop := v = (-1000000001) ∨ (-99999 ≤ v ∧ v ≤ 99999)
def vl (n : Nat) (f : Nat → Int) (i : Int) : Int := if 0 ≤ i ∧ i < n then f i.toNat else (-1000000001)
def cRd (M : qMem) (k n : Nat) (f : Nat → Int) : Prop := M.1 k 1 = iI n ∧ n ≤ 64 ∧ ∀ j, j < n → M.1 (rf k 0) j = iI (f j) ∧ okv (f j)
def sec (n : Nat) (f : Nat → Int) (m i : Int) : Int := if vl n f i = (-1000000001) ∨ vl n f (i + m) = (-1000000001) ∨ vl n f (i + 2 * m) = (-1000000001) then (-1000000001) else vl n f (i + 2 * m) - 2 * vl n f (i + m) + vl n f i
def thr (n : Nat) (f : Nat → Int) (m i : Int) : Int := if vl n f i = (-1000000001) ∨ vl n f (i + m) = (-1000000001) ∨ vl n f (i + 2 * m) = (-1000000001) ∨ vl n f (i + 3 * m) = (-1000000001) then (-1000000001) else vl n f (i + 3 * m) - 3 * vl n f (i + 2 * m) + 3 * vl n f (i + m) - vl n f i
def okS (g : Nat → Int) : Nat → Bool
  | 0 => true
  | k + 1 => okS g k && decide (g k ≠ (-1000000001))
def smS (g : Nat → Int) : Nat → Int
  | 0 => 0
  | k + 1 => smS g k + g k
def men (n : Nat) (f : Nat → Int) (m : Nat) (i : Int) : Int := if okS (fun j => sec n f m (i + j)) m = true then smS (fun j => sec n f m (i + j)) m else (-1000000001)
def dif (n : Nat) (f : Nat → Int) (o : Int) (m : Nat) (i : Int) : Int := if 0 ≤ i ∧ i < n then (if o = 2 then sec n f m i else if o = 3 then thr n f m i else men n f m i) else (-1000000001)
def cz (p : Nat → Bool) : Nat → Int
  | 0 => 0
  | k + 1 => cz p k + (if p k = true then 1 else 0)
theorem cz_in (p : Nat → Bool) : ∀ k, 0 ≤ cz p k ∧ cz p k ≤ k := by
  intro k
  induction k with
  | zero => exact ⟨Int.le_refl _, Int.le_refl _⟩
  | succ k ih =>
    unfold cz
    split <;> (push_cast; omega)
theorem vl_ok {n : Nat} {f : Nat → Int} (hf : ∀ j, j < n → okv (f j)) (i : Int) : okv (vl n f i) := by
  unfold vl
  split
  · exact hf _ (by omega)
  · exact Or.inl rfl
theorem sec_ok {n : Nat} {f : Nat → Int} (hf : ∀ j, j < n → okv (f j)) (m i : Int) : sec n f m i = (-1000000001) ∨ (-399996 ≤ sec n f m i ∧ sec n f m i ≤ 399996) := by
  have h1 := vl_ok hf i
  have h2 := vl_ok hf (i + m)
  have h3 := vl_ok hf (i + 2 * m)
  unfold okv at h1 h2 h3
  unfold sec
  split <;> omega
theorem thr_ok {n : Nat} {f : Nat → Int} (hf : ∀ j, j < n → okv (f j)) (m i : Int) : thr n f m i = (-1000000001) ∨ (-799992 ≤ thr n f m i ∧ thr n f m i ≤ 799992) := by
  have h1 := vl_ok hf i
  have h2 := vl_ok hf (i + m)
  have h3 := vl_ok hf (i + 2 * m)
  have h4 := vl_ok hf (i + 3 * m)
  unfold okv at h1 h2 h3 h4
  unfold thr
  split <;> omega
theorem smS_in {g : Nat → Int} {B : Int} (hg : ∀ j, g j = (-1000000001) ∨ (-B ≤ g j ∧ g j ≤ B)) : ∀ k : Nat, okS g k = true → -(B * k) ≤ smS g k ∧ smS g k ≤ B * k := by
  intro k
  induction k with
  | zero => intro _; simp [smS]
  | succ k ih =>
    intro h
    unfold okS at h
    simp only [Bool.and_eq_true, decide_eq_true_eq] at h
    have h1 := ih h.1
    have h2 := hg k
    unfold smS
    have e : B * ((k + 1 : Nat) : Int) = B * k + B := by push_cast; rw [Int.mul_add, Int.mul_one]
    rw [e]
    omega
theorem men_ok {n : Nat} {f : Nat → Int} (hf : ∀ j, j < n → okv (f j)) {m : Nat} (hm : m ≤ 31) (i : Int) : men n f m i = (-1000000001) ∨ (-12399876 ≤ men n f m i ∧ men n f m i ≤ 12399876) := by
  unfold men
  split
  · rename_i h
    have h1 := smS_in (B := 399996) (fun j => sec_ok hf m (i + j)) m h
    omega
  · exact Or.inl rfl
theorem dif_ok {n : Nat} {f : Nat → Int} (hf : ∀ j, j < n → okv (f j)) {m : Nat} (hm : m ≤ 31) (o i : Int) : dif n f o m i = (-1000000001) ∨ (-12399876 ≤ dif n f o m i ∧ dif n f o m i ≤ 12399876) := by
  have h1 := sec_ok hf m i
  have h2 := thr_ok hf m i
  have h3 := men_ok hf hm i
  unfold dif
  split
  · split
    · omega
    · split <;> omega
  · exact Or.inl rfl
section RD
variable {Ls : Nat} {xs : Nat → Int32} {P : qSem} {k n : Nat} {f : Nat → Int} {M : qMem} {Q : qPost}
theorem cRd.ok (h : cRd M k n f) : ∀ j, j < n → okv (f j) := fun j hj => (h.2.2 j hj).2
theorem s_rd_size (hG : qGood Ls xs P) (hk : qRd k) (hR : cRd M k n f) (hQ : Q (some (.int (iI n))) M) : P 17 0 [(0, .ref k)] [] M Q := by
  refine v_rd_size_0 hG hk ?_
  rw [hR.1]
  exact hQ
theorem s_rd_reaches (hG : qGood Ls xs P) {i : Int} (hk : qRd k) (hR : cRd M k n f) (h1 : -2147483648 ≤ i) (h2 : i < 2147483648) (hQ : Q (some (.int (iI (bZ (0 ≤ i ∧ i < n))))) M) : P 18 0 [(0, .ref k), (1, .int (iI i))] [] M Q := by
  obtain ⟨r1, r2, r3⟩ := hR
  refine v_rd_reaches_0 hG hk ?_
  simp (disch := omega) only [iI_add, iI_sub, iI_mul, iI_neg, iI_lt, iI_le, iI_eq, iI_cl, vp_iI, Classical.not_not, iLn1000000005, iLn1000000004, iLn1000000003, iLn1000000002, iLn1000000001, iLn99999, iLn9999, iLn2, iLn1, iL0, iL1, iL2, iL3, iL4, iL5, iL6, iL7, iL8, iL9, iL10, iL15, iL16, iL31, iL32, iL40, iL42, iL45, iL48, iL57, iL59, iL63, iL64, iL65, iL120, iL126, iL455, iL520, iL9999, iL99999, iN2, iN8, iN64, iN65, iN120, iN130, iN520, r1]
  refine ⟨fun c => ?_, fun c => ⟨fun c2 => ?_, fun c2 => ?_⟩⟩
  · exact q_b hQ (bZ_f (by omega))
  · exact q_b hQ (bZ_f (by omega))
  · exact q_b hQ (bZ_t (by omega))
theorem s_rd_at (hG : qGood Ls xs P) {i : Int} (hk : qRd k) (hR : cRd M k n f) (h1 : -2147483648 ≤ i) (h2 : i < 2147483648) (hQ : Q (some (.int (iI (vl n f i)))) M) : P 20 0 [(0, .ref k), (1, .int (iI i))] [] M Q := by
  obtain ⟨r1, r2, r3⟩ := hR
  refine v_rd_at_0 hG hk ?_
  simp (disch := omega) only [iI_add, iI_sub, iI_mul, iI_neg, iI_lt, iI_le, iI_eq, iI_cl, vp_iI, Classical.not_not, iLn1000000005, iLn1000000004, iLn1000000003, iLn1000000002, iLn1000000001, iLn99999, iLn9999, iLn2, iLn1, iL0, iL1, iL2, iL3, iL4, iL5, iL6, iL7, iL8, iL9, iL10, iL15, iL16, iL31, iL32, iL40, iL42, iL45, iL48, iL57, iL59, iL63, iL64, iL65, iL120, iL126, iL455, iL520, iL9999, iL99999, iN2, iN8, iN64, iN65, iN120, iN130, iN520, r1]
  refine ⟨fun c => ?_, fun c => ⟨fun c2 => ?_, fun c2 => ⟨fun c3 => ⟨by omega, ?_⟩, fun c3 => ?_⟩⟩⟩
  · exact q_i (by unfold vl; split <;> omega) hQ
  · exact q_i (by unfold vl; split <;> omega) hQ
  · rw [(r3 i.toNat (by omega)).1]
    exact q_i (by unfold vl; split <;> first | rfl | omega) hQ
  · exact q_i (by unfold vl; split <;> omega) hQ
theorem s_rd_has (hG : qGood Ls xs P) {i : Int} (hk : qRd k) (hR : cRd M k n f) (h1 : -2147483648 ≤ i) (h2 : i < 2147483648) (hQ : Q (some (.int (iI (bZ (vl n f i ≠ (-1000000001)))))) M) : P 19 0 [(0, .ref k), (1, .int (iI i))] [] M Q := by
  refine v_rd_has_0 hG hk ?_
  refine s_rd_at hG hk hR h1 h2 ?_
  refine v_rd_has_3 hG ?_
  have h3 := vl_ok hR.ok i
  unfold okv at h3
  simp (disch := omega) only [iI_add, iI_sub, iI_mul, iI_neg, iI_lt, iI_le, iI_eq, iI_cl, vp_iI, Classical.not_not, iLn1000000005, iLn1000000004, iLn1000000003, iLn1000000002, iLn1000000001, iLn99999, iLn9999, iLn2, iLn1, iL0, iL1, iL2, iL3, iL4, iL5, iL6, iL7, iL8, iL9, iL10, iL15, iL16, iL31, iL32, iL40, iL42, iL45, iL48, iL57, iL59, iL63, iL64, iL65, iL120, iL126, iL455, iL520, iL9999, iL99999, iN2, iN8, iN64, iN65, iN120, iN130, iN520]
  refine ⟨fun c => q_b hQ (bZ_f (fun z => z c)), fun c => q_b hQ (bZ_t c)⟩
theorem s_rd_put (hG : qGood Ls xs P) {i : Int} {x : Int} (hk : qRd k) (hR : cRd M k n f) (hx : okv x) (h1 : 0 ≤ i) (h2 : i < n) (hQ : ∀ M', cRd M' k n (fun j => if j = i.toNat then x else f j) → qFm [k, rf k 0] M M' → Q none M') : P 21 0 [(0, .ref k), (1, .int (iI i)), (2, .int (iI x))] [] M Q := by
  obtain ⟨r1, r2, r3⟩ := id hR
  refine v_rd_put_0 hG hk ?_
  simp (disch := omega) only [iI_add, iI_sub, iI_mul, iI_neg, iI_lt, iI_le, iI_eq, iI_cl, vp_iI, Classical.not_not, iLn1000000005, iLn1000000004, iLn1000000003, iLn1000000002, iLn1000000001, iLn99999, iLn9999, iLn2, iLn1, iL0, iL1, iL2, iL3, iL4, iL5, iL6, iL7, iL8, iL9, iL10, iL15, iL16, iL31, iL32, iL40, iL42, iL45, iL48, iL57, iL59, iL63, iL64, iL65, iL120, iL126, iL455, iL520, iL9999, iL99999, iN2, iN8, iN64, iN65, iN120, iN130, iN520, r1]
  refine ⟨fun c => by omega, fun c => ⟨fun c2 => by omega, fun c2 => ⟨fun c3 => by omega, fun c3 => ⟨by omega, ?_⟩⟩⟩⟩
  have hne : k ≠ rf k 0 := fun e => by have q := hk.1; rw [e, hk.2.1] at q; omega
  refine hQ _ ⟨by rw [pI_n hne]; exact r1, r2, fun j hj => ?_⟩ (qFm.pI (by simp))
  by_cases e : j = i.toNat
  · subst e
    simp only [if_true]
    exact ⟨pI_e, hx⟩
  · dsimp only
    rw [pI_nj e, if_neg e]
    exact r3 j hj
theorem s_rd_append (hG : qGood Ls xs P) {x : Int} (hk : qRd k) (hR : cRd M k n f) (hx : okv x) (h2 : n < 64) (hQ : ∀ M', cRd M' k (n + 1) (fun j => if j = n then x else f j) → qFm [k, rf k 0] M M' → Q none M') : P 22 0 [(0, .ref k), (1, .int (iI x))] [] M Q := by
  obtain ⟨r1, r2, r3⟩ := id hR
  refine v_rd_append_0 hG hk ?_
  have hne : k ≠ rf k 0 := fun e => by have q := hk.1; rw [e, hk.2.1] at q; omega
  rw [pI_n hne]
  simp (disch := omega) only [iI_add, iI_sub, iI_mul, iI_neg, iI_lt, iI_le, iI_eq, iI_cl, vp_iI, Classical.not_not, iLn1000000005, iLn1000000004, iLn1000000003, iLn1000000002, iLn1000000001, iLn99999, iLn9999, iLn2, iLn1, iL0, iL1, iL2, iL3, iL4, iL5, iL6, iL7, iL8, iL9, iL10, iL15, iL16, iL31, iL32, iL40, iL42, iL45, iL48, iL57, iL59, iL63, iL64, iL65, iL120, iL126, iL455, iL520, iL9999, iL99999, iN2, iN8, iN64, iN65, iN120, iN130, iN520, r1]
  refine ⟨fun c => by omega, fun c => ⟨fun c2 => by omega, fun c2 => ⟨by omega, ?_⟩⟩⟩
  have en : (n : Int).toNat = n := by omega
  rw [en]
  refine hQ _ ⟨by rw [pI_e]; rfl, by omega, fun j hj => ?_⟩ ((qFm.pI (by simp)).tr (qFm.pI (by simp)))
  rw [pI_n (fun e => hne e.symm)]
  by_cases e : j = n
  · subst e
    simp only [if_true]
    exact ⟨pI_e, hx⟩
  · dsimp only
    rw [pI_nj e, if_neg e]
    exact r3 j (by omega)
theorem s_rd_empty (hG : qGood Ls xs P) (hk : qRd k) (hQ : ∀ M', cRd M' k 0 f → qFm [k] M M' → Q none M') : P 24 0 [(0, .ref k)] [] M Q := by
  refine v_rd_empty_0 hG hk ?_
  simp (disch := omega) only [iI_add, iI_sub, iI_mul, iI_neg, iI_lt, iI_le, iI_eq, iI_cl, vp_iI, Classical.not_not, iLn1000000005, iLn1000000004, iLn1000000003, iLn1000000002, iLn1000000001, iLn99999, iLn9999, iLn2, iLn1, iL0, iL1, iL2, iL3, iL4, iL5, iL6, iL7, iL8, iL9, iL10, iL15, iL16, iL31, iL32, iL40, iL42, iL45, iL48, iL57, iL59, iL63, iL64, iL65, iL120, iL126, iL455, iL520, iL9999, iL99999, iN2, iN8, iN64, iN65, iN120, iN130, iN520]
  exact hQ _ ⟨by rw [pI_e]; rfl, by omega, fun j hj => absurd hj (by omega)⟩ (qFm.pI (by simp))
theorem cRd.eqv {g : Nat → Int} (h : cRd M k n f) (hg : ∀ j, j < n → g j = f j) : cRd M k n g := ⟨h.1, h.2.1, fun j hj => by rw [hg j hj]; exact h.2.2 j hj⟩
theorem cRd.fm {M' : qMem} {A : List Nat} (h : cRd M k n f) (hF : qFm A M M') (h1 : k ∉ A) (h2 : rf k 0 ∉ A) : cRd M' k n f := ⟨by rw [(hF k h1).1]; exact h.1, h.2.1, fun j hj => by rw [(hF _ h2).1]; exact h.2.2 j hj⟩
theorem s_rd_appendTimes (hG : qGood Ls xs P) {x : Int} {t : Nat} (hk : qRd k) (hR : cRd M k n f) (hx : okv x) (h2 : n + t ≤ 64) (hQ : ∀ M', cRd M' k (n + t) (fun j => if j < n then f j else x) → qFm [k, rf k 0] M M' → Q none M') : P 23 0 [(0, .ref k), (1, .int (iI x)), (2, .int (iI t))] [] M Q := by
  refine v_rd_appendTimes_0 hG hk ?_
  have key : ∀ (d j : Nat) (M1 : qMem), j + d = t → cRd M1 k (n + j) (fun i => if i < n then f i else x) → qFm [k, rf k 0] M M1 → P 23 2 [(0, .ref k), (1, .int (iI x)), (2, .int (iI t)), (3, .int (iI j))] [] M1 Q := by
    intro d
    induction d with
    | zero =>
      intro j M1 hj hR1 hF
      refine v_rd_appendTimes_2 hG hk ?_
      simp (disch := omega) only [iI_add, iI_sub, iI_mul, iI_neg, iI_lt, iI_le, iI_eq, iI_cl, vp_iI, Classical.not_not, iLn1000000005, iLn1000000004, iLn1000000003, iLn1000000002, iLn1000000001, iLn99999, iLn9999, iLn2, iLn1, iL0, iL1, iL2, iL3, iL4, iL5, iL6, iL7, iL8, iL9, iL10, iL15, iL16, iL31, iL32, iL40, iL42, iL45, iL48, iL57, iL59, iL63, iL64, iL65, iL120, iL126, iL455, iL520, iL9999, iL99999, iN2, iN8, iN64, iN65, iN120, iN130, iN520]
      refine ⟨fun c => ?_, fun c => by omega⟩
      have e : j = t := by omega
      subst e
      exact hQ M1 hR1 hF
    | succ d ih =>
      intro j M1 hj hR1 hF
      refine v_rd_appendTimes_2 hG hk ?_
      simp (disch := omega) only [iI_add, iI_sub, iI_mul, iI_neg, iI_lt, iI_le, iI_eq, iI_cl, vp_iI, Classical.not_not, iLn1000000005, iLn1000000004, iLn1000000003, iLn1000000002, iLn1000000001, iLn99999, iLn9999, iLn2, iLn1, iL0, iL1, iL2, iL3, iL4, iL5, iL6, iL7, iL8, iL9, iL10, iL15, iL16, iL31, iL32, iL40, iL42, iL45, iL48, iL57, iL59, iL63, iL64, iL65, iL120, iL126, iL455, iL520, iL9999, iL99999, iN2, iN8, iN64, iN65, iN120, iN130, iN520]
      refine ⟨fun c => by omega, fun c => ?_⟩
      refine s_rd_append hG hk hR1 hx (by omega) (fun M2 hR2 hF2 => ?_)
      refine v_rd_appendTimes_8 hG hk ?_
      simp (disch := omega) only [iI_add, iI_sub, iI_mul, iI_neg, iI_lt, iI_le, iI_eq, iI_cl, vp_iI, Classical.not_not, iLn1000000005, iLn1000000004, iLn1000000003, iLn1000000002, iLn1000000001, iLn99999, iLn9999, iLn2, iLn1, iL0, iL1, iL2, iL3, iL4, iL5, iL6, iL7, iL8, iL9, iL10, iL15, iL16, iL31, iL32, iL40, iL42, iL45, iL48, iL57, iL59, iL63, iL64, iL65, iL120, iL126, iL455, iL520, iL9999, iL99999, iN2, iN8, iN64, iN65, iN120, iN130, iN520]
      refine ih (j + 1) M2 (by omega) ?_ (hF.tr hF2)
      refine cRd.eqv (n := n + (j + 1)) hR2 (fun i hi => ?_)
      by_cases e : i = n + j
      · subst e
        rw [if_neg (by omega), if_pos rfl]
      · rw [if_neg e]
  simp (disch := omega) only [iI_add, iI_sub, iI_mul, iI_neg, iI_lt, iI_le, iI_eq, iI_cl, vp_iI, Classical.not_not, iLn1000000005, iLn1000000004, iLn1000000003, iLn1000000002, iLn1000000001, iLn99999, iLn9999, iLn2, iLn1, iL0, iL1, iL2, iL3, iL4, iL5, iL6, iL7, iL8, iL9, iL10, iL15, iL16, iL31, iL32, iL40, iL42, iL45, iL48, iL57, iL59, iL63, iL64, iL65, iL120, iL126, iL455, iL520, iL9999, iL99999, iN2, iN8, iN64, iN65, iN120, iN130, iN520]
  exact key t 0 M (by omega) (hR.eqv (fun j hj => by rw [if_pos hj])) qFm.rf
theorem s_rd_copyFrom (hG : qGood Ls xs P) {k1 n1 : Nat} {f1 : Nat → Int} (hk : qRd k) (hk1 : qRd k1) (hne : k1 ≠ k) (hne2 : rf k1 0 ≠ rf k 0) (hR : cRd M k1 n1 f1) (hQ : ∀ M', cRd M' k n1 f1 → qFm [k, rf k 0] M M' → Q none M') : P 25 0 [(0, .ref k), (1, .ref k1)] [] M Q := by
  have a1 : k1 ∉ [k, rf k 0] := by
    simp only [List.mem_cons, List.not_mem_nil, or_false, not_or]
    exact ⟨hne, fun e => by have q := hk1.1; rw [e, hk.2.1] at q; omega⟩
  have a2 : rf k1 0 ∉ [k, rf k 0] := by
    simp only [List.mem_cons, List.not_mem_nil, or_false, not_or]
    exact ⟨fun e => by have q := hk.1; rw [← e, hk1.2.1] at q; omega, hne2⟩
  refine v_rd_copyFrom_0 hG hk hk1 ?_
  refine s_rd_empty (f := f1) hG hk (fun M0 hR0 hF0 => ?_)
  refine v_rd_copyFrom_2 hG hk hk1 ?_
  have key : ∀ (d j : Nat) (M1 : qMem), j + d = n1 → cRd M1 k j f1 → qFm [k, rf k 0] M M1 → P 25 4 [(0, .ref k), (1, .ref k1), (2, .int (iI j))] [] M1 Q := by
    intro d
    induction d with
    | zero =>
      intro j M1 hj hR1 hF
      have hn1 := hR.2.1
      refine v_rd_copyFrom_4 hG hk hk1 ?_
      refine s_rd_size hG hk1 (hR.fm hF a1 a2) ?_
      refine v_rd_copyFrom_7 hG hk hk1 ?_
      simp (disch := omega) only [iI_add, iI_sub, iI_mul, iI_neg, iI_lt, iI_le, iI_eq, iI_cl, vp_iI, Classical.not_not, iLn1000000005, iLn1000000004, iLn1000000003, iLn1000000002, iLn1000000001, iLn99999, iLn9999, iLn2, iLn1, iL0, iL1, iL2, iL3, iL4, iL5, iL6, iL7, iL8, iL9, iL10, iL15, iL16, iL31, iL32, iL40, iL42, iL45, iL48, iL57, iL59, iL63, iL64, iL65, iL120, iL126, iL455, iL520, iL9999, iL99999, iN2, iN8, iN64, iN65, iN120, iN130, iN520]
      refine ⟨fun c => ?_, fun c => by omega⟩
      have e : j = n1 := by omega
      subst e
      exact hQ M1 hR1 hF
    | succ d ih =>
      intro j M1 hj hR1 hF
      have hn1 := hR.2.1
      have hS := hR.fm hF a1 a2
      refine v_rd_copyFrom_4 hG hk hk1 ?_
      refine s_rd_size hG hk1 hS ?_
      refine v_rd_copyFrom_7 hG hk hk1 ?_
      simp (disch := omega) only [iI_add, iI_sub, iI_mul, iI_neg, iI_lt, iI_le, iI_eq, iI_cl, vp_iI, Classical.not_not, iLn1000000005, iLn1000000004, iLn1000000003, iLn1000000002, iLn1000000001, iLn99999, iLn9999, iLn2, iLn1, iL0, iL1, iL2, iL3, iL4, iL5, iL6, iL7, iL8, iL9, iL10, iL15, iL16, iL31, iL32, iL40, iL42, iL45, iL48, iL57, iL59, iL63, iL64, iL65, iL120, iL126, iL455, iL520, iL9999, iL99999, iN2, iN8, iN64, iN65, iN120, iN130, iN520]
      refine ⟨fun c => by omega, fun c => ?_⟩
      refine s_rd_at hG hk1 hS (by omega) (by omega) ?_
      refine v_rd_copyFrom_12 hG hk hk1 ?_
      refine s_rd_append hG hk hR1 (vl_ok hR.ok _) (by omega) (fun M2 hR2 hF2 => ?_)
      refine v_rd_copyFrom_13 hG hk hk1 ?_
      simp (disch := omega) only [iI_add, iI_sub, iI_mul, iI_neg, iI_lt, iI_le, iI_eq, iI_cl, vp_iI, Classical.not_not, iLn1000000005, iLn1000000004, iLn1000000003, iLn1000000002, iLn1000000001, iLn99999, iLn9999, iLn2, iLn1, iL0, iL1, iL2, iL3, iL4, iL5, iL6, iL7, iL8, iL9, iL10, iL15, iL16, iL31, iL32, iL40, iL42, iL45, iL48, iL57, iL59, iL63, iL64, iL65, iL120, iL126, iL455, iL520, iL9999, iL99999, iN2, iN8, iN64, iN65, iN120, iN130, iN520]
      refine ih (j + 1) M2 (by omega) (hR2.eqv (fun i hi => ?_)) (hF.tr hF2)
      by_cases e : i = j
      · subst e
        rw [if_pos rfl]
        unfold vl
        rw [if_pos (by omega)]
        congr 1
      · rw [if_neg e]
  simp (disch := omega) only [iI_add, iI_sub, iI_mul, iI_neg, iI_lt, iI_le, iI_eq, iI_cl, vp_iI, Classical.not_not, iLn1000000005, iLn1000000004, iLn1000000003, iLn1000000002, iLn1000000001, iLn99999, iLn9999, iLn2, iLn1, iL0, iL1, iL2, iL3, iL4, iL5, iL6, iL7, iL8, iL9, iL10, iL15, iL16, iL31, iL32, iL40, iL42, iL45, iL48, iL57, iL59, iL63, iL64, iL65, iL120, iL126, iL455, iL520, iL9999, iL99999, iN2, iN8, iN64, iN65, iN120, iN130, iN520]
  exact key n1 0 M0 (by omega) hR0 (hF0.up (by simp))
end RD
end
section
/-! readings: counts, gaps, lines, differences -/
def lsz (f : Nat → Int) : Nat → Int
  | 0 => (-1000000001)
  | j + 1 => if f j ≠ (-1000000001) ∧ (lsz f j = (-1000000001) ∨ f j < lsz f j) then f j else lsz f j
def grz (f : Nat → Int) : Nat → Int
  | 0 => (-1000000001)
  | j + 1 => if grz f j < f j then f j else grz f j
def stg (f : Nat → Int) (i : Nat) : Bool := decide (f i = (-1000000001)) && (decide (i = 0) || decide (f (i - 1) ≠ (-1000000001)))
def gpe (f : Nat → Int) : Nat → Nat → Nat
  | 0, i => i
  | d + 1, i => if f i = (-1000000001) then gpe f d (i + 1) else i
def lgz (n : Nat) (f : Nat → Int) : Nat → Int
  | 0 => 0
  | j + 1 => if stg f j = true then (if lgz n f j < (gpe f (n - j) j : Int) - j then (gpe f (n - j) j : Int) - j else lgz n f j) else lgz n f j
def lnz (n : Nat) (f : Nat → Int) (i j t : Int) : Int := vl n f i + ((vl n f j - vl n f i) * (t - i)) / (j - i)
def otl (n : Nat) (f : Nat → Int) (lim : Int) (i : Nat) : Bool := decide (dif n f 2 1 ((i : Int) - 1) ≠ (-1000000001)) && (decide (2 * lim < dif n f 2 1 ((i : Int) - 1)) || decide (dif n f 2 1 ((i : Int) - 1) < -2 * lim))
theorem lsz_ok {n : Nat} {f : Nat → Int} (hf : ∀ j, j < n → okv (f j)) : ∀ j, j ≤ n → okv (lsz f j) := by
  intro j
  induction j with
  | zero => intro _; exact Or.inl rfl
  | succ j ih =>
    intro h
    unfold lsz
    split
    · exact hf j (by omega)
    · exact ih (by omega)
theorem grz_ok {n : Nat} {f : Nat → Int} (hf : ∀ j, j < n → okv (f j)) : ∀ j, j ≤ n → okv (grz f j) := by
  intro j
  induction j with
  | zero => intro _; exact Or.inl rfl
  | succ j ih =>
    intro h
    unfold grz
    split
    · exact hf j (by omega)
    · exact ih (by omega)
theorem gpe_in (f : Nat → Int) : ∀ d i, i ≤ gpe f d i ∧ gpe f d i ≤ i + d := by
  intro d
  induction d with
  | zero => intro i; exact ⟨Nat.le_refl _, Nat.le_refl _⟩
  | succ d ih =>
    intro i
    unfold gpe
    have h := ih (i + 1)
    split <;> omega
theorem gpe_s (f : Nat → Int) (d i : Nat) : gpe f (d + 1) i = if f i = (-1000000001) then gpe f d (i + 1) else i := rfl
theorem lgz_in {n : Nat} {f : Nat → Int} : ∀ j, j ≤ n → 0 ≤ lgz n f j ∧ lgz n f j ≤ n := by
  intro j
  induction j with
  | zero => intro _; unfold lgz; omega
  | succ j ih =>
    intro h
    have h1 := ih (by omega)
    have h2 := gpe_in f (n - j) j
    unfold lgz
    split
    · split <;> omega
    · exact h1
theorem vl_nat {n : Nat} {f : Nat → Int} {j : Nat} (h : j < n) : vl n f j = f j := by
  unfold vl
  rw [if_pos (by omega)]
  congr 1
section RD2
variable {Ls : Nat} {xs : Nat → Int32} {P : qSem} {k n : Nat} {f : Nat → Int} {M : qMem} {Q : qPost}
theorem s_max (hG : qGood Ls xs P) {a b : Int} (h1 : -2147483648 ≤ a) (h2 : a < 2147483648) (h3 : -2147483648 ≤ b) (h4 : b < 2147483648) (hQ : Q (some (.int (iI (if a < b then b else a)))) M) : P 154 0 [(0, .int (iI a)), (1, .int (iI b))] [] M Q := by
  refine v_math_max_0 hG ?_
  simp (disch := omega) only [iI_add, iI_sub, iI_mul, iI_neg, iI_lt, iI_le, iI_eq, iI_cl, vp_iI, Classical.not_not, iLn1000000005, iLn1000000004, iLn1000000003, iLn1000000002, iLn1000000001, iLn99999, iLn9999, iLn2, iLn1, iL0, iL1, iL2, iL3, iL4, iL5, iL6, iL7, iL8, iL9, iL10, iL15, iL16, iL31, iL32, iL40, iL42, iL45, iL48, iL57, iL59, iL63, iL64, iL65, iL120, iL126, iL455, iL520, iL9999, iL99999, iN2, iN8, iN64, iN65, iN120, iN130, iN520]
  exact ⟨fun c => q_i (if_pos c) hQ, fun c => q_i (if_neg c) hQ⟩
theorem s_rd_present (hG : qGood Ls xs P) (hk : qRd k) (hR : cRd M k n f) (hQ : Q (some (.int (iI (cz (fun j => decide (f j ≠ (-1000000001))) n)))) M) : P 26 0 [(0, .ref k)] [] M Q := by
  have hn := hR.2.1
  refine v_rd_present_0 hG hk ?_
  have key : ∀ (d j : Nat), j + d = n → P 26 4 [(0, .ref k), (1, .int (iI (cz (fun j => decide (f j ≠ (-1000000001))) j))), (2, .int (iI j))] [] M Q := by
    intro d
    induction d with
    | zero =>
      intro j hj
      have e : j = n := by omega
      subst e
      refine v_rd_present_4 hG hk ?_
      simp (disch := omega) only [iI_add, iI_sub, iI_mul, iI_neg, iI_lt, iI_le, iI_eq, iI_cl, vp_iI, Classical.not_not, iLn1000000005, iLn1000000004, iLn1000000003, iLn1000000002, iLn1000000001, iLn99999, iLn9999, iLn2, iLn1, iL0, iL1, iL2, iL3, iL4, iL5, iL6, iL7, iL8, iL9, iL10, iL15, iL16, iL31, iL32, iL40, iL42, iL45, iL48, iL57, iL59, iL63, iL64, iL65, iL120, iL126, iL455, iL520, iL9999, iL99999, iN2, iN8, iN64, iN65, iN120, iN130, iN520, hR.1]
      exact ⟨fun c => hQ, fun c => by omega⟩
    | succ d ih =>
      intro j hj
      have hb := cz_in (fun j => decide (f j ≠ (-1000000001))) j
      refine v_rd_present_4 hG hk ?_
      simp (disch := omega) only [iI_add, iI_sub, iI_mul, iI_neg, iI_lt, iI_le, iI_eq, iI_cl, vp_iI, Classical.not_not, iLn1000000005, iLn1000000004, iLn1000000003, iLn1000000002, iLn1000000001, iLn99999, iLn9999, iLn2, iLn1, iL0, iL1, iL2, iL3, iL4, iL5, iL6, iL7, iL8, iL9, iL10, iL15, iL16, iL31, iL32, iL40, iL42, iL45, iL48, iL57, iL59, iL63, iL64, iL65, iL120, iL126, iL455, iL520, iL9999, iL99999, iN2, iN8, iN64, iN65, iN120, iN130, iN520, hR.1]
      refine ⟨fun c => by omega, fun c => ?_⟩
      refine s_rd_has hG hk hR (by omega) (by omega) ?_
      rw [vl_nat (by omega)]
      refine v_rd_present_11 hG hk ?_
      have hz := bZ_in (f j ≠ (-1000000001))
      simp (disch := omega) only [iI_add, iI_sub, iI_mul, iI_neg, iI_lt, iI_le, iI_eq, iI_cl, vp_iI, Classical.not_not, iLn1000000005, iLn1000000004, iLn1000000003, iLn1000000002, iLn1000000001, iLn99999, iLn9999, iLn2, iLn1, iL0, iL1, iL2, iL3, iL4, iL5, iL6, iL7, iL8, iL9, iL10, iL15, iL16, iL31, iL32, iL40, iL42, iL45, iL48, iL57, iL59, iL63, iL64, iL65, iL120, iL126, iL455, iL520, iL9999, iL99999, iN2, iN8, iN64, iN65, iN120, iN130, iN520, bZ_0]
      have hI := ih (j + 1) (by omega)
      unfold cz at hI
      refine ⟨fun c => ?_, fun c => ?_⟩
      · rw [if_neg (by simpa using c)] at hI
        rw [Int.add_zero] at hI
        exact hI
      · rw [if_pos (by simpa using c)] at hI
        exact hI
  simp (disch := omega) only [iI_add, iI_sub, iI_mul, iI_neg, iI_lt, iI_le, iI_eq, iI_cl, vp_iI, Classical.not_not, iLn1000000005, iLn1000000004, iLn1000000003, iLn1000000002, iLn1000000001, iLn99999, iLn9999, iLn2, iLn1, iL0, iL1, iL2, iL3, iL4, iL5, iL6, iL7, iL8, iL9, iL10, iL15, iL16, iL31, iL32, iL40, iL42, iL45, iL48, iL57, iL59, iL63, iL64, iL65, iL120, iL126, iL455, iL520, iL9999, iL99999, iN2, iN8, iN64, iN65, iN120, iN130, iN520]
  exact key n 0 (by omega)
theorem s_rd_least (hG : qGood Ls xs P) (hk : qRd k) (hR : cRd M k n f) (hQ : Q (some (.int (iI (lsz f n)))) M) : P 27 0 [(0, .ref k)] [] M Q := by
  have hn := hR.2.1
  refine v_rd_least_0 hG hk ?_
  have key : ∀ (d j : Nat), j + d = n → P 27 4 [(0, .ref k), (1, .int (iI (lsz f j))), (2, .int (iI j))] [] M Q := by
    intro d
    induction d with
    | zero =>
      intro j hj
      have e : j = n := by omega
      subst e
      refine v_rd_least_4 hG hk ?_
      simp (disch := omega) only [iI_add, iI_sub, iI_mul, iI_neg, iI_lt, iI_le, iI_eq, iI_cl, vp_iI, Classical.not_not, iLn1000000005, iLn1000000004, iLn1000000003, iLn1000000002, iLn1000000001, iLn99999, iLn9999, iLn2, iLn1, iL0, iL1, iL2, iL3, iL4, iL5, iL6, iL7, iL8, iL9, iL10, iL15, iL16, iL31, iL32, iL40, iL42, iL45, iL48, iL57, iL59, iL63, iL64, iL65, iL120, iL126, iL455, iL520, iL9999, iL99999, iN2, iN8, iN64, iN65, iN120, iN130, iN520, hR.1]
      exact ⟨fun c => hQ, fun c => by omega⟩
    | succ d ih =>
      intro j hj
      have hb := lsz_ok hR.ok j (by omega)
      have hv := hR.ok j (by omega)
      unfold okv at hb hv
      have hI := ih (j + 1) (by omega)
      unfold lsz at hI
      refine v_rd_least_4 hG hk ?_
      simp (disch := omega) only [iI_add, iI_sub, iI_mul, iI_neg, iI_lt, iI_le, iI_eq, iI_cl, vp_iI, Classical.not_not, iLn1000000005, iLn1000000004, iLn1000000003, iLn1000000002, iLn1000000001, iLn99999, iLn9999, iLn2, iLn1, iL0, iL1, iL2, iL3, iL4, iL5, iL6, iL7, iL8, iL9, iL10, iL15, iL16, iL31, iL32, iL40, iL42, iL45, iL48, iL57, iL59, iL63, iL64, iL65, iL120, iL126, iL455, iL520, iL9999, iL99999, iN2, iN8, iN64, iN65, iN120, iN130, iN520, hR.1]
      refine ⟨fun c => by omega, fun c => ?_⟩
      refine s_rd_has hG hk hR (by omega) (by omega) ?_
      rw [vl_nat (by omega)]
      refine v_rd_least_11 hG hk ?_
      have hz := bZ_in (f j ≠ (-1000000001))
      simp (disch := omega) only [iI_add, iI_sub, iI_mul, iI_neg, iI_lt, iI_le, iI_eq, iI_cl, vp_iI, Classical.not_not, iLn1000000005, iLn1000000004, iLn1000000003, iLn1000000002, iLn1000000001, iLn99999, iLn9999, iLn2, iLn1, iL0, iL1, iL2, iL3, iL4, iL5, iL6, iL7, iL8, iL9, iL10, iL15, iL16, iL31, iL32, iL40, iL42, iL45, iL48, iL57, iL59, iL63, iL64, iL65, iL120, iL126, iL455, iL520, iL9999, iL99999, iN2, iN8, iN64, iN65, iN120, iN130, iN520, bZ_0]
      refine ⟨fun c => ?_, fun c => ⟨fun c2 => ?_, fun c2 => ?_⟩⟩
      · rw [if_neg (fun z => z.1 c)] at hI
        exact hI
      · refine s_rd_at hG hk hR (by omega) (by omega) ?_
        rw [vl_nat (by omega)]
        refine v_rd_least_23 hG hk ?_
        simp (disch := omega) only [iI_add, iI_sub, iI_mul, iI_neg, iI_lt, iI_le, iI_eq, iI_cl, vp_iI, Classical.not_not, iLn1000000005, iLn1000000004, iLn1000000003, iLn1000000002, iLn1000000001, iLn99999, iLn9999, iLn2, iLn1, iL0, iL1, iL2, iL3, iL4, iL5, iL6, iL7, iL8, iL9, iL10, iL15, iL16, iL31, iL32, iL40, iL42, iL45, iL48, iL57, iL59, iL63, iL64, iL65, iL120, iL126, iL455, iL520, iL9999, iL99999, iN2, iN8, iN64, iN65, iN120, iN130, iN520]
        rw [if_pos ⟨c, Or.inl c2⟩] at hI
        exact hI
      · refine s_rd_at hG hk hR (by omega) (by omega) ?_
        rw [vl_nat (by omega)]
        refine v_rd_least_18 hG hk ?_
        simp (disch := omega) only [iI_add, iI_sub, iI_mul, iI_neg, iI_lt, iI_le, iI_eq, iI_cl, vp_iI, Classical.not_not, iLn1000000005, iLn1000000004, iLn1000000003, iLn1000000002, iLn1000000001, iLn99999, iLn9999, iLn2, iLn1, iL0, iL1, iL2, iL3, iL4, iL5, iL6, iL7, iL8, iL9, iL10, iL15, iL16, iL31, iL32, iL40, iL42, iL45, iL48, iL57, iL59, iL63, iL64, iL65, iL120, iL126, iL455, iL520, iL9999, iL99999, iN2, iN8, iN64, iN65, iN120, iN130, iN520]
        refine ⟨fun c3 => ?_, fun c3 => ?_⟩
        · rw [if_neg (by omega)] at hI
          exact hI
        · refine s_rd_at hG hk hR (by omega) (by omega) ?_
          rw [vl_nat (by omega)]
          refine v_rd_least_23 hG hk ?_
          simp (disch := omega) only [iI_add, iI_sub, iI_mul, iI_neg, iI_lt, iI_le, iI_eq, iI_cl, vp_iI, Classical.not_not, iLn1000000005, iLn1000000004, iLn1000000003, iLn1000000002, iLn1000000001, iLn99999, iLn9999, iLn2, iLn1, iL0, iL1, iL2, iL3, iL4, iL5, iL6, iL7, iL8, iL9, iL10, iL15, iL16, iL31, iL32, iL40, iL42, iL45, iL48, iL57, iL59, iL63, iL64, iL65, iL120, iL126, iL455, iL520, iL9999, iL99999, iN2, iN8, iN64, iN65, iN120, iN130, iN520]
          rw [if_pos (by omega)] at hI
          exact hI
  simp (disch := omega) only [iI_add, iI_sub, iI_mul, iI_neg, iI_lt, iI_le, iI_eq, iI_cl, vp_iI, Classical.not_not, iLn1000000005, iLn1000000004, iLn1000000003, iLn1000000002, iLn1000000001, iLn99999, iLn9999, iLn2, iLn1, iL0, iL1, iL2, iL3, iL4, iL5, iL6, iL7, iL8, iL9, iL10, iL15, iL16, iL31, iL32, iL40, iL42, iL45, iL48, iL57, iL59, iL63, iL64, iL65, iL120, iL126, iL455, iL520, iL9999, iL99999, iN2, iN8, iN64, iN65, iN120, iN130, iN520]
  exact key n 0 (by omega)
theorem s_rd_greatest (hG : qGood Ls xs P) (hk : qRd k) (hR : cRd M k n f) (hQ : Q (some (.int (iI (grz f n)))) M) : P 28 0 [(0, .ref k)] [] M Q := by
  have hn := hR.2.1
  refine v_rd_greatest_0 hG hk ?_
  have key : ∀ (d j : Nat), j + d = n → P 28 4 [(0, .ref k), (1, .int (iI (grz f j))), (2, .int (iI j))] [] M Q := by
    intro d
    induction d with
    | zero =>
      intro j hj
      have e : j = n := by omega
      subst e
      refine v_rd_greatest_4 hG hk ?_
      simp (disch := omega) only [iI_add, iI_sub, iI_mul, iI_neg, iI_lt, iI_le, iI_eq, iI_cl, vp_iI, Classical.not_not, iLn1000000005, iLn1000000004, iLn1000000003, iLn1000000002, iLn1000000001, iLn99999, iLn9999, iLn2, iLn1, iL0, iL1, iL2, iL3, iL4, iL5, iL6, iL7, iL8, iL9, iL10, iL15, iL16, iL31, iL32, iL40, iL42, iL45, iL48, iL57, iL59, iL63, iL64, iL65, iL120, iL126, iL455, iL520, iL9999, iL99999, iN2, iN8, iN64, iN65, iN120, iN130, iN520, hR.1]
      exact ⟨fun c => hQ, fun c => by omega⟩
    | succ d ih =>
      intro j hj
      have hb := grz_ok hR.ok j (by omega)
      have hv := hR.ok j (by omega)
      unfold okv at hb hv
      refine v_rd_greatest_4 hG hk ?_
      simp (disch := omega) only [iI_add, iI_sub, iI_mul, iI_neg, iI_lt, iI_le, iI_eq, iI_cl, vp_iI, Classical.not_not, iLn1000000005, iLn1000000004, iLn1000000003, iLn1000000002, iLn1000000001, iLn99999, iLn9999, iLn2, iLn1, iL0, iL1, iL2, iL3, iL4, iL5, iL6, iL7, iL8, iL9, iL10, iL15, iL16, iL31, iL32, iL40, iL42, iL45, iL48, iL57, iL59, iL63, iL64, iL65, iL120, iL126, iL455, iL520, iL9999, iL99999, iN2, iN8, iN64, iN65, iN120, iN130, iN520, hR.1]
      refine ⟨fun c => by omega, fun c => ?_⟩
      refine s_rd_at hG hk hR (by omega) (by omega) ?_
      rw [vl_nat (by omega)]
      refine v_rd_greatest_12 hG hk ?_
      refine s_max hG (by omega) (by omega) (by omega) (by omega) ?_
      refine v_rd_greatest_13 hG hk ?_
      simp (disch := omega) only [iI_add, iI_sub, iI_mul, iI_neg, iI_lt, iI_le, iI_eq, iI_cl, vp_iI, Classical.not_not, iLn1000000005, iLn1000000004, iLn1000000003, iLn1000000002, iLn1000000001, iLn99999, iLn9999, iLn2, iLn1, iL0, iL1, iL2, iL3, iL4, iL5, iL6, iL7, iL8, iL9, iL10, iL15, iL16, iL31, iL32, iL40, iL42, iL45, iL48, iL57, iL59, iL63, iL64, iL65, iL120, iL126, iL455, iL520, iL9999, iL99999, iN2, iN8, iN64, iN65, iN120, iN130, iN520]
      exact ih (j + 1) (by omega)
  simp (disch := omega) only [iI_add, iI_sub, iI_mul, iI_neg, iI_lt, iI_le, iI_eq, iI_cl, vp_iI, Classical.not_not, iLn1000000005, iLn1000000004, iLn1000000003, iLn1000000002, iLn1000000001, iLn99999, iLn9999, iLn2, iLn1, iL0, iL1, iL2, iL3, iL4, iL5, iL6, iL7, iL8, iL9, iL10, iL15, iL16, iL31, iL32, iL40, iL42, iL45, iL48, iL57, iL59, iL63, iL64, iL65, iL120, iL126, iL455, iL520, iL9999, iL99999, iN2, iN8, iN64, iN65, iN120, iN130, iN520]
  exact key n 0 (by omega)
theorem s_rd_startsGap (hG : qGood Ls xs P) {j : Nat} (hk : qRd k) (hR : cRd M k n f) (hj : j < n) (hQ : Q (some (.int (iI (bZ (stg f j = true))))) M) : P 31 0 [(0, .ref k), (1, .int (iI j))] [] M Q := by
  have hn := hR.2.1
  refine v_rd_startsGap_0 hG hk ?_
  refine s_rd_has hG hk hR (by omega) (by omega) ?_
  rw [vl_nat hj]
  refine v_rd_startsGap_3 hG hk ?_
  have hz := bZ_in (f j ≠ (-1000000001))
  simp (disch := omega) only [iI_add, iI_sub, iI_mul, iI_neg, iI_lt, iI_le, iI_eq, iI_cl, vp_iI, Classical.not_not, iLn1000000005, iLn1000000004, iLn1000000003, iLn1000000002, iLn1000000001, iLn99999, iLn9999, iLn2, iLn1, iL0, iL1, iL2, iL3, iL4, iL5, iL6, iL7, iL8, iL9, iL10, iL15, iL16, iL31, iL32, iL40, iL42, iL45, iL48, iL57, iL59, iL63, iL64, iL65, iL120, iL126, iL455, iL520, iL9999, iL99999, iN2, iN8, iN64, iN65, iN120, iN130, iN520, bZ_0]
  refine ⟨fun c => q_b hQ (bZ_f ?_), fun c => ⟨fun c2 => q_b hQ (bZ_t ?_), fun c2 => ?_⟩⟩
  · simp [stg, c]
  · have e : j = 0 := by omega
    subst e
    simp [stg, c]
  · refine s_rd_has hG hk hR (by omega) (by omega) ?_
    have e : (j : Int) - 1 = ((j - 1 : Nat) : Int) := by omega
    rw [e, vl_nat (by omega)]
    refine v_rd_startsGap_11 hG ?_
    have hz2 := bZ_in (f (j - 1) ≠ (-1000000001))
    simp (disch := omega) only [iI_add, iI_sub, iI_mul, iI_neg, iI_lt, iI_le, iI_eq, iI_cl, vp_iI, Classical.not_not, iLn1000000005, iLn1000000004, iLn1000000003, iLn1000000002, iLn1000000001, iLn99999, iLn9999, iLn2, iLn1, iL0, iL1, iL2, iL3, iL4, iL5, iL6, iL7, iL8, iL9, iL10, iL15, iL16, iL31, iL32, iL40, iL42, iL45, iL48, iL57, iL59, iL63, iL64, iL65, iL120, iL126, iL455, iL520, iL9999, iL99999, iN2, iN8, iN64, iN65, iN120, iN130, iN520, bZ_0]
    refine ⟨fun c3 => q_b hQ (bZ_f ?_), fun c3 => q_b hQ (bZ_t ?_)⟩
    · have : j ≠ 0 := by omega
      simp [stg, c, c3, this]
    · simp [stg, c, c3]
theorem s_rd_gapEnd (hG : qGood Ls xs P) {j : Nat} (hk : qRd k) (hR : cRd M k n f) (hj : j ≤ n) (hQ : Q (some (.int (iI (gpe f (n - j) j)))) M) : P 32 0 [(0, .ref k), (1, .int (iI j))] [] M Q := by
  have hn := hR.2.1
  refine v_rd_gapEnd_0 hG hk ?_
  have key : ∀ (d i : Nat), i + d = n → gpe f d i = gpe f (n - j) j → P 32 2 [(0, .ref k), (2, .int (iI i))] [] M Q := by
    intro d
    induction d with
    | zero =>
      intro i hi he
      have e : i = n := by omega
      subst e
      refine v_rd_gapEnd_2 hG hk ?_
      simp (disch := omega) only [iI_add, iI_sub, iI_mul, iI_neg, iI_lt, iI_le, iI_eq, iI_cl, vp_iI, Classical.not_not, iLn1000000005, iLn1000000004, iLn1000000003, iLn1000000002, iLn1000000001, iLn99999, iLn9999, iLn2, iLn1, iL0, iL1, iL2, iL3, iL4, iL5, iL6, iL7, iL8, iL9, iL10, iL15, iL16, iL31, iL32, iL40, iL42, iL45, iL48, iL57, iL59, iL63, iL64, iL65, iL120, iL126, iL455, iL520, iL9999, iL99999, iN2, iN8, iN64, iN65, iN120, iN130, iN520, hR.1]
      refine ⟨fun c => ?_, fun c => by omega⟩
      rw [← he] at hQ
      exact hQ
    | succ d ih =>
      intro i hi he
      refine v_rd_gapEnd_2 hG hk ?_
      simp (disch := omega) only [iI_add, iI_sub, iI_mul, iI_neg, iI_lt, iI_le, iI_eq, iI_cl, vp_iI, Classical.not_not, iLn1000000005, iLn1000000004, iLn1000000003, iLn1000000002, iLn1000000001, iLn99999, iLn9999, iLn2, iLn1, iL0, iL1, iL2, iL3, iL4, iL5, iL6, iL7, iL8, iL9, iL10, iL15, iL16, iL31, iL32, iL40, iL42, iL45, iL48, iL57, iL59, iL63, iL64, iL65, iL120, iL126, iL455, iL520, iL9999, iL99999, iN2, iN8, iN64, iN65, iN120, iN130, iN520, hR.1]
      refine ⟨fun c => by omega, fun c => ?_⟩
      refine s_rd_has hG hk hR (by omega) (by omega) ?_
      rw [vl_nat (by omega)]
      refine v_rd_gapEnd_9 hG hk ?_
      have hz := bZ_in (f i ≠ (-1000000001))
      simp (disch := omega) only [iI_add, iI_sub, iI_mul, iI_neg, iI_lt, iI_le, iI_eq, iI_cl, vp_iI, Classical.not_not, iLn1000000005, iLn1000000004, iLn1000000003, iLn1000000002, iLn1000000001, iLn99999, iLn9999, iLn2, iLn1, iL0, iL1, iL2, iL3, iL4, iL5, iL6, iL7, iL8, iL9, iL10, iL15, iL16, iL31, iL32, iL40, iL42, iL45, iL48, iL57, iL59, iL63, iL64, iL65, iL120, iL126, iL455, iL520, iL9999, iL99999, iN2, iN8, iN64, iN65, iN120, iN130, iN520, bZ_0]
      rw [gpe_s] at he
      refine ⟨fun c => ?_, fun c => ?_⟩
      · rw [if_neg c] at he
        rw [← he] at hQ
        exact hQ
      · rw [if_pos c] at he
        exact ih (i + 1) (by omega) he
  exact key (n - j) j (by omega) rfl
theorem s_rd_gaps (hG : qGood Ls xs P) (hk : qRd k) (hR : cRd M k n f) (hQ : Q (some (.int (iI (cz (stg f) n)))) M) : P 29 0 [(0, .ref k)] [] M Q := by
  have hn := hR.2.1
  refine v_rd_gaps_0 hG hk ?_
  have key : ∀ (d j : Nat), j + d = n → P 29 4 [(0, .ref k), (1, .int (iI (cz (stg f) j))), (2, .int (iI j))] [] M Q := by
    intro d
    induction d with
    | zero =>
      intro j hj
      have e : j = n := by omega
      subst e
      refine v_rd_gaps_4 hG hk ?_
      simp (disch := omega) only [iI_add, iI_sub, iI_mul, iI_neg, iI_lt, iI_le, iI_eq, iI_cl, vp_iI, Classical.not_not, iLn1000000005, iLn1000000004, iLn1000000003, iLn1000000002, iLn1000000001, iLn99999, iLn9999, iLn2, iLn1, iL0, iL1, iL2, iL3, iL4, iL5, iL6, iL7, iL8, iL9, iL10, iL15, iL16, iL31, iL32, iL40, iL42, iL45, iL48, iL57, iL59, iL63, iL64, iL65, iL120, iL126, iL455, iL520, iL9999, iL99999, iN2, iN8, iN64, iN65, iN120, iN130, iN520, hR.1]
      exact ⟨fun c => hQ, fun c => by omega⟩
    | succ d ih =>
      intro j hj
      have hb := cz_in (stg f) j
      refine v_rd_gaps_4 hG hk ?_
      simp (disch := omega) only [iI_add, iI_sub, iI_mul, iI_neg, iI_lt, iI_le, iI_eq, iI_cl, vp_iI, Classical.not_not, iLn1000000005, iLn1000000004, iLn1000000003, iLn1000000002, iLn1000000001, iLn99999, iLn9999, iLn2, iLn1, iL0, iL1, iL2, iL3, iL4, iL5, iL6, iL7, iL8, iL9, iL10, iL15, iL16, iL31, iL32, iL40, iL42, iL45, iL48, iL57, iL59, iL63, iL64, iL65, iL120, iL126, iL455, iL520, iL9999, iL99999, iN2, iN8, iN64, iN65, iN120, iN130, iN520, hR.1]
      refine ⟨fun c => by omega, fun c => ?_⟩
      refine s_rd_startsGap hG hk hR (by omega) ?_
      refine v_rd_gaps_11 hG hk ?_
      have hz := bZ_in (stg f j = true)
      simp (disch := omega) only [iI_add, iI_sub, iI_mul, iI_neg, iI_lt, iI_le, iI_eq, iI_cl, vp_iI, Classical.not_not, iLn1000000005, iLn1000000004, iLn1000000003, iLn1000000002, iLn1000000001, iLn99999, iLn9999, iLn2, iLn1, iL0, iL1, iL2, iL3, iL4, iL5, iL6, iL7, iL8, iL9, iL10, iL15, iL16, iL31, iL32, iL40, iL42, iL45, iL48, iL57, iL59, iL63, iL64, iL65, iL120, iL126, iL455, iL520, iL9999, iL99999, iN2, iN8, iN64, iN65, iN120, iN130, iN520, bZ_0]
      have hI := ih (j + 1) (by omega)
      unfold cz at hI
      refine ⟨fun c => ?_, fun c => ?_⟩
      · rw [if_neg c] at hI
        rw [Int.add_zero] at hI
        exact hI
      · rw [if_pos c] at hI
        exact hI
  simp (disch := omega) only [iI_add, iI_sub, iI_mul, iI_neg, iI_lt, iI_le, iI_eq, iI_cl, vp_iI, Classical.not_not, iLn1000000005, iLn1000000004, iLn1000000003, iLn1000000002, iLn1000000001, iLn99999, iLn9999, iLn2, iLn1, iL0, iL1, iL2, iL3, iL4, iL5, iL6, iL7, iL8, iL9, iL10, iL15, iL16, iL31, iL32, iL40, iL42, iL45, iL48, iL57, iL59, iL63, iL64, iL65, iL120, iL126, iL455, iL520, iL9999, iL99999, iN2, iN8, iN64, iN65, iN120, iN130, iN520]
  exact key n 0 (by omega)
theorem s_rd_longestGap (hG : qGood Ls xs P) (hk : qRd k) (hR : cRd M k n f) (hQ : Q (some (.int (iI (lgz n f n)))) M) : P 30 0 [(0, .ref k)] [] M Q := by
  have hn := hR.2.1
  refine v_rd_longestGap_0 hG hk ?_
  have key : ∀ (d j : Nat), j + d = n → P 30 4 [(0, .ref k), (1, .int (iI (lgz n f j))), (2, .int (iI j))] [] M Q := by
    intro d
    induction d with
    | zero =>
      intro j hj
      have e : j = n := by omega
      subst e
      refine v_rd_longestGap_4 hG hk ?_
      simp (disch := omega) only [iI_add, iI_sub, iI_mul, iI_neg, iI_lt, iI_le, iI_eq, iI_cl, vp_iI, Classical.not_not, iLn1000000005, iLn1000000004, iLn1000000003, iLn1000000002, iLn1000000001, iLn99999, iLn9999, iLn2, iLn1, iL0, iL1, iL2, iL3, iL4, iL5, iL6, iL7, iL8, iL9, iL10, iL15, iL16, iL31, iL32, iL40, iL42, iL45, iL48, iL57, iL59, iL63, iL64, iL65, iL120, iL126, iL455, iL520, iL9999, iL99999, iN2, iN8, iN64, iN65, iN120, iN130, iN520, hR.1]
      exact ⟨fun c => hQ, fun c => by omega⟩
    | succ d ih =>
      intro j hj
      have hb := lgz_in (n := n) (f := f) j (by omega)
      have hg := gpe_in f (n - j) j
      refine v_rd_longestGap_4 hG hk ?_
      simp (disch := omega) only [iI_add, iI_sub, iI_mul, iI_neg, iI_lt, iI_le, iI_eq, iI_cl, vp_iI, Classical.not_not, iLn1000000005, iLn1000000004, iLn1000000003, iLn1000000002, iLn1000000001, iLn99999, iLn9999, iLn2, iLn1, iL0, iL1, iL2, iL3, iL4, iL5, iL6, iL7, iL8, iL9, iL10, iL15, iL16, iL31, iL32, iL40, iL42, iL45, iL48, iL57, iL59, iL63, iL64, iL65, iL120, iL126, iL455, iL520, iL9999, iL99999, iN2, iN8, iN64, iN65, iN120, iN130, iN520, hR.1]
      refine ⟨fun c => by omega, fun c => ?_⟩
      refine s_rd_startsGap hG hk hR (by omega) ?_
      refine v_rd_longestGap_11 hG hk ?_
      have hz := bZ_in (stg f j = true)
      simp (disch := omega) only [iI_add, iI_sub, iI_mul, iI_neg, iI_lt, iI_le, iI_eq, iI_cl, vp_iI, Classical.not_not, iLn1000000005, iLn1000000004, iLn1000000003, iLn1000000002, iLn1000000001, iLn99999, iLn9999, iLn2, iLn1, iL0, iL1, iL2, iL3, iL4, iL5, iL6, iL7, iL8, iL9, iL10, iL15, iL16, iL31, iL32, iL40, iL42, iL45, iL48, iL57, iL59, iL63, iL64, iL65, iL120, iL126, iL455, iL520, iL9999, iL99999, iN2, iN8, iN64, iN65, iN120, iN130, iN520, bZ_0]
      have hI := ih (j + 1) (by omega)
      unfold lgz at hI
      refine ⟨fun c => ?_, fun c => ?_⟩
      · rw [if_neg c] at hI
        exact hI
      · rw [if_pos c] at hI
        refine s_rd_gapEnd hG hk hR (by omega) ?_
        refine v_rd_longestGap_16 hG hk ?_
        simp (disch := omega) only [iI_add, iI_sub, iI_mul, iI_neg, iI_lt, iI_le, iI_eq, iI_cl, vp_iI, Classical.not_not, iLn1000000005, iLn1000000004, iLn1000000003, iLn1000000002, iLn1000000001, iLn99999, iLn9999, iLn2, iLn1, iL0, iL1, iL2, iL3, iL4, iL5, iL6, iL7, iL8, iL9, iL10, iL15, iL16, iL31, iL32, iL40, iL42, iL45, iL48, iL57, iL59, iL63, iL64, iL65, iL120, iL126, iL455, iL520, iL9999, iL99999, iN2, iN8, iN64, iN65, iN120, iN130, iN520]
        refine s_max hG (by omega) (by omega) (by omega) (by omega) ?_
        refine v_rd_longestGap_19 hG hk ?_
        simp (disch := omega) only [iI_add, iI_sub, iI_mul, iI_neg, iI_lt, iI_le, iI_eq, iI_cl, vp_iI, Classical.not_not, iLn1000000005, iLn1000000004, iLn1000000003, iLn1000000002, iLn1000000001, iLn99999, iLn9999, iLn2, iLn1, iL0, iL1, iL2, iL3, iL4, iL5, iL6, iL7, iL8, iL9, iL10, iL15, iL16, iL31, iL32, iL40, iL42, iL45, iL48, iL57, iL59, iL63, iL64, iL65, iL120, iL126, iL455, iL520, iL9999, iL99999, iN2, iN8, iN64, iN65, iN120, iN130, iN520]
        exact hI
  simp (disch := omega) only [iI_add, iI_sub, iI_mul, iI_neg, iI_lt, iI_le, iI_eq, iI_cl, vp_iI, Classical.not_not, iLn1000000005, iLn1000000004, iLn1000000003, iLn1000000002, iLn1000000001, iLn99999, iLn9999, iLn2, iLn1, iL0, iL1, iL2, iL3, iL4, iL5, iL6, iL7, iL8, iL9, iL10, iL15, iL16, iL31, iL32, iL40, iL42, iL45, iL48, iL57, iL59, iL63, iL64, iL65, iL120, iL126, iL455, iL520, iL9999, iL99999, iN2, iN8, iN64, iN65, iN120, iN130, iN520]
  exact key n 0 (by omega)
theorem s_rd_secondAt (hG : qGood Ls xs P) {m i : Int} (hk : qRd k) (hR : cRd M k n f) (h1 : 0 ≤ m) (h2 : m ≤ 100) (h3 : 0 ≤ i) (h4 : i ≤ 200) (hQ : Q (some (.int (iI (sec n f m i)))) M) : P 37 0 [(0, .ref k), (1, .int (iI m)), (2, .int (iI i))] [] M Q := by
  have o1 := vl_ok hR.ok i
  have o2 := vl_ok hR.ok (i + m)
  have o3 := vl_ok hR.ok (i + 2 * m)
  unfold okv at o1 o2 o3
  refine v_rd_secondAt_0 hG hk ?_
  refine s_rd_at hG hk hR (by omega) (by omega) ?_
  refine v_rd_secondAt_3 hG hk ?_
  simp (disch := omega) only [iI_add, iI_sub, iI_mul, iI_neg, iI_lt, iI_le, iI_eq, iI_cl, vp_iI, Classical.not_not, iLn1000000005, iLn1000000004, iLn1000000003, iLn1000000002, iLn1000000001, iLn99999, iLn9999, iLn2, iLn1, iL0, iL1, iL2, iL3, iL4, iL5, iL6, iL7, iL8, iL9, iL10, iL15, iL16, iL31, iL32, iL40, iL42, iL45, iL48, iL57, iL59, iL63, iL64, iL65, iL120, iL126, iL455, iL520, iL9999, iL99999, iN2, iN8, iN64, iN65, iN120, iN130, iN520]
  refine s_rd_at hG hk hR (by omega) (by omega) ?_
  refine v_rd_secondAt_9 hG hk ?_
  simp (disch := omega) only [iI_add, iI_sub, iI_mul, iI_neg, iI_lt, iI_le, iI_eq, iI_cl, vp_iI, Classical.not_not, iLn1000000005, iLn1000000004, iLn1000000003, iLn1000000002, iLn1000000001, iLn99999, iLn9999, iLn2, iLn1, iL0, iL1, iL2, iL3, iL4, iL5, iL6, iL7, iL8, iL9, iL10, iL15, iL16, iL31, iL32, iL40, iL42, iL45, iL48, iL57, iL59, iL63, iL64, iL65, iL120, iL126, iL455, iL520, iL9999, iL99999, iN2, iN8, iN64, iN65, iN120, iN130, iN520]
  refine s_rd_at hG hk hR (by omega) (by omega) ?_
  refine v_rd_secondAt_17 hG ?_
  simp (disch := omega) only [iI_add, iI_sub, iI_mul, iI_neg, iI_lt, iI_le, iI_eq, iI_cl, vp_iI, Classical.not_not, iLn1000000005, iLn1000000004, iLn1000000003, iLn1000000002, iLn1000000001, iLn99999, iLn9999, iLn2, iLn1, iL0, iL1, iL2, iL3, iL4, iL5, iL6, iL7, iL8, iL9, iL10, iL15, iL16, iL31, iL32, iL40, iL42, iL45, iL48, iL57, iL59, iL63, iL64, iL65, iL120, iL126, iL455, iL520, iL9999, iL99999, iN2, iN8, iN64, iN65, iN120, iN130, iN520]
  unfold sec at hQ
  refine ⟨fun c => ?_, fun c => ⟨fun c2 => ?_, fun c2 => ⟨fun c3 => ?_, fun c3 => ?_⟩⟩⟩
  · rw [if_pos (Or.inl c)] at hQ; exact hQ
  · rw [if_pos (Or.inr (Or.inl c2))] at hQ; exact hQ
  · rw [if_neg (by omega)] at hQ; exact hQ
  · rw [if_pos (Or.inr (Or.inr c3))] at hQ; exact hQ
theorem s_rd_thirdAt (hG : qGood Ls xs P) {m i : Int} (hk : qRd k) (hR : cRd M k n f) (h1 : 0 ≤ m) (h2 : m ≤ 100) (h3 : 0 ≤ i) (h4 : i ≤ 200) (hQ : Q (some (.int (iI (thr n f m i)))) M) : P 38 0 [(0, .ref k), (1, .int (iI m)), (2, .int (iI i))] [] M Q := by
  have o1 := vl_ok hR.ok i
  have o2 := vl_ok hR.ok (i + m)
  have o3 := vl_ok hR.ok (i + 2 * m)
  have o4 := vl_ok hR.ok (i + 3 * m)
  unfold okv at o1 o2 o3 o4
  refine v_rd_thirdAt_0 hG hk ?_
  refine s_rd_at hG hk hR (by omega) (by omega) ?_
  refine v_rd_thirdAt_3 hG hk ?_
  simp (disch := omega) only [iI_add, iI_sub, iI_mul, iI_neg, iI_lt, iI_le, iI_eq, iI_cl, vp_iI, Classical.not_not, iLn1000000005, iLn1000000004, iLn1000000003, iLn1000000002, iLn1000000001, iLn99999, iLn9999, iLn2, iLn1, iL0, iL1, iL2, iL3, iL4, iL5, iL6, iL7, iL8, iL9, iL10, iL15, iL16, iL31, iL32, iL40, iL42, iL45, iL48, iL57, iL59, iL63, iL64, iL65, iL120, iL126, iL455, iL520, iL9999, iL99999, iN2, iN8, iN64, iN65, iN120, iN130, iN520]
  refine s_rd_at hG hk hR (by omega) (by omega) ?_
  refine v_rd_thirdAt_9 hG hk ?_
  simp (disch := omega) only [iI_add, iI_sub, iI_mul, iI_neg, iI_lt, iI_le, iI_eq, iI_cl, vp_iI, Classical.not_not, iLn1000000005, iLn1000000004, iLn1000000003, iLn1000000002, iLn1000000001, iLn99999, iLn9999, iLn2, iLn1, iL0, iL1, iL2, iL3, iL4, iL5, iL6, iL7, iL8, iL9, iL10, iL15, iL16, iL31, iL32, iL40, iL42, iL45, iL48, iL57, iL59, iL63, iL64, iL65, iL120, iL126, iL455, iL520, iL9999, iL99999, iN2, iN8, iN64, iN65, iN120, iN130, iN520]
  refine s_rd_at hG hk hR (by omega) (by omega) ?_
  refine v_rd_thirdAt_17 hG hk ?_
  simp (disch := omega) only [iI_add, iI_sub, iI_mul, iI_neg, iI_lt, iI_le, iI_eq, iI_cl, vp_iI, Classical.not_not, iLn1000000005, iLn1000000004, iLn1000000003, iLn1000000002, iLn1000000001, iLn99999, iLn9999, iLn2, iLn1, iL0, iL1, iL2, iL3, iL4, iL5, iL6, iL7, iL8, iL9, iL10, iL15, iL16, iL31, iL32, iL40, iL42, iL45, iL48, iL57, iL59, iL63, iL64, iL65, iL120, iL126, iL455, iL520, iL9999, iL99999, iN2, iN8, iN64, iN65, iN120, iN130, iN520]
  refine s_rd_at hG hk hR (by omega) (by omega) ?_
  refine v_rd_thirdAt_25 hG ?_
  simp (disch := omega) only [iI_add, iI_sub, iI_mul, iI_neg, iI_lt, iI_le, iI_eq, iI_cl, vp_iI, Classical.not_not, iLn1000000005, iLn1000000004, iLn1000000003, iLn1000000002, iLn1000000001, iLn99999, iLn9999, iLn2, iLn1, iL0, iL1, iL2, iL3, iL4, iL5, iL6, iL7, iL8, iL9, iL10, iL15, iL16, iL31, iL32, iL40, iL42, iL45, iL48, iL57, iL59, iL63, iL64, iL65, iL120, iL126, iL455, iL520, iL9999, iL99999, iN2, iN8, iN64, iN65, iN120, iN130, iN520]
  unfold thr at hQ
  refine ⟨fun c => ?_, fun c => ⟨fun c2 => ?_, fun c2 => ⟨fun c3 => ?_, fun c3 => ⟨fun c4 => ?_, fun c4 => ?_⟩⟩⟩⟩
  · rw [if_pos (Or.inl c)] at hQ; exact hQ
  · rw [if_pos (Or.inr (Or.inl c2))] at hQ; exact hQ
  · rw [if_pos (Or.inr (Or.inr (Or.inl c3)))] at hQ; exact hQ
  · rw [if_neg (by omega)] at hQ; exact hQ
  · rw [if_pos (Or.inr (Or.inr (Or.inr c4)))] at hQ; exact hQ
theorem s_rd_meanAt (hG : qGood Ls xs P) {m : Nat} {i : Int} (hk : qRd k) (hR : cRd M k n f) (h2 : m ≤ 31) (h3 : 0 ≤ i) (h4 : i ≤ 64) (hQ : Q (some (.int (iI (men n f m i)))) M) : P 39 0 [(0, .ref k), (1, .int (iI m)), (2, .int (iI i))] [] M Q := by
  refine v_rd_meanAt_0 hG hk ?_
  have okM : ∀ (d j : Nat), okS (fun j => sec n f m (i + j)) (j + d) = true → okS (fun j => sec n f m (i + j)) j = true := by
    intro d
    induction d with
    | zero => intro j h; exact h
    | succ d ih =>
      intro j h
      refine ih j ?_
      rw [← Nat.add_assoc] at h
      unfold okS at h
      simp only [Bool.and_eq_true] at h
      exact h.1
  have key : ∀ (d j : Nat), j + d = m → okS (fun j => sec n f m (i + j)) j = true → P 39 4 [(0, .ref k), (1, .int (iI m)), (2, .int (iI i)), (3, .int (iI (smS (fun j => sec n f m (i + j)) j))), (4, .int (iI j))] [] M Q := by
    intro d
    induction d with
    | zero =>
      intro j hj ho
      have e : j = m := by omega
      subst e
      refine v_rd_meanAt_4 hG hk ?_
      simp (disch := omega) only [iI_add, iI_sub, iI_mul, iI_neg, iI_lt, iI_le, iI_eq, iI_cl, vp_iI, Classical.not_not, iLn1000000005, iLn1000000004, iLn1000000003, iLn1000000002, iLn1000000001, iLn99999, iLn9999, iLn2, iLn1, iL0, iL1, iL2, iL3, iL4, iL5, iL6, iL7, iL8, iL9, iL10, iL15, iL16, iL31, iL32, iL40, iL42, iL45, iL48, iL57, iL59, iL63, iL64, iL65, iL120, iL126, iL455, iL520, iL9999, iL99999, iN2, iN8, iN64, iN65, iN120, iN130, iN520]
      refine ⟨fun c => ?_, fun c => by omega⟩
      unfold men at hQ
      rw [if_pos ho] at hQ
      exact hQ
    | succ d ih =>
      intro j hj ho
      have o1 := sec_ok hR.ok m (i + j)
      have o2 := smS_in (B := 399996) (fun j => sec_ok hR.ok m (i + j)) j ho
      refine v_rd_meanAt_4 hG hk ?_
      simp (disch := omega) only [iI_add, iI_sub, iI_mul, iI_neg, iI_lt, iI_le, iI_eq, iI_cl, vp_iI, Classical.not_not, iLn1000000005, iLn1000000004, iLn1000000003, iLn1000000002, iLn1000000001, iLn99999, iLn9999, iLn2, iLn1, iL0, iL1, iL2, iL3, iL4, iL5, iL6, iL7, iL8, iL9, iL10, iL15, iL16, iL31, iL32, iL40, iL42, iL45, iL48, iL57, iL59, iL63, iL64, iL65, iL120, iL126, iL455, iL520, iL9999, iL99999, iN2, iN8, iN64, iN65, iN120, iN130, iN520]
      refine ⟨fun c => by omega, fun c => ?_⟩
      refine s_rd_secondAt hG hk hR (by omega) (by omega) (by omega) (by omega) ?_
      refine v_rd_meanAt_13 hG hk ?_
      simp (disch := omega) only [iI_add, iI_sub, iI_mul, iI_neg, iI_lt, iI_le, iI_eq, iI_cl, vp_iI, Classical.not_not, iLn1000000005, iLn1000000004, iLn1000000003, iLn1000000002, iLn1000000001, iLn99999, iLn9999, iLn2, iLn1, iL0, iL1, iL2, iL3, iL4, iL5, iL6, iL7, iL8, iL9, iL10, iL15, iL16, iL31, iL32, iL40, iL42, iL45, iL48, iL57, iL59, iL63, iL64, iL65, iL120, iL126, iL455, iL520, iL9999, iL99999, iN2, iN8, iN64, iN65, iN120, iN130, iN520]
      refine ⟨fun c => ?_, fun c => ?_⟩
      · refine ih (j + 1) (by omega) ?_
        unfold okS
        rw [ho]
        simpa using c
      · have hno : ¬ okS (fun j => sec n f m (i + j)) m = true := by
          intro z
          have z2 := okM d (j + 1) (by rw [show j + 1 + d = m by omega]; exact z)
          unfold okS at z2
          simp only [Bool.and_eq_true, decide_eq_true_eq] at z2
          exact z2.2 c
        unfold men at hQ
        rw [if_neg hno] at hQ
        exact hQ
  simp (disch := omega) only [iI_add, iI_sub, iI_mul, iI_neg, iI_lt, iI_le, iI_eq, iI_cl, vp_iI, Classical.not_not, iLn1000000005, iLn1000000004, iLn1000000003, iLn1000000002, iLn1000000001, iLn99999, iLn9999, iLn2, iLn1, iL0, iL1, iL2, iL3, iL4, iL5, iL6, iL7, iL8, iL9, iL10, iL15, iL16, iL31, iL32, iL40, iL42, iL45, iL48, iL57, iL59, iL63, iL64, iL65, iL120, iL126, iL455, iL520, iL9999, iL99999, iN2, iN8, iN64, iN65, iN120, iN130, iN520]
  exact key m 0 (by omega) rfl
theorem s_rd_differenceAt (hG : qGood Ls xs P) {o : Int} {m : Nat} {i : Int} (hk : qRd k) (hR : cRd M k n f) (h1 : 2 ≤ o) (h1' : o ≤ 4) (h2 : m ≤ 31) (h3 : -2147483648 ≤ i) (h4 : i < 2147483648) (hQ : Q (some (.int (iI (dif n f o m i)))) M) : P 36 0 [(0, .ref k), (1, .int (iI o)), (2, .int (iI m)), (3, .int (iI i))] [] M Q := by
  have hn := hR.2.1
  refine v_rd_differenceAt_0 hG hk ?_
  refine s_rd_reaches hG hk hR h3 h4 ?_
  refine v_rd_differenceAt_3 hG hk ?_
  have hz := bZ_in (0 ≤ i ∧ i < n)
  simp (disch := omega) only [iI_add, iI_sub, iI_mul, iI_neg, iI_lt, iI_le, iI_eq, iI_cl, vp_iI, Classical.not_not, iLn1000000005, iLn1000000004, iLn1000000003, iLn1000000002, iLn1000000001, iLn99999, iLn9999, iLn2, iLn1, iL0, iL1, iL2, iL3, iL4, iL5, iL6, iL7, iL8, iL9, iL10, iL15, iL16, iL31, iL32, iL40, iL42, iL45, iL48, iL57, iL59, iL63, iL64, iL65, iL120, iL126, iL455, iL520, iL9999, iL99999, iN2, iN8, iN64, iN65, iN120, iN130, iN520, bZ_0]
  unfold dif at hQ
  refine ⟨fun c => ?_, fun c => ?_⟩
  · rw [if_pos c] at hQ
    refine ⟨fun c2 => ⟨fun c3 => ?_, fun c3 => ?_⟩, fun c2 => ?_⟩
    · rw [if_neg c2, if_neg c3] at hQ
      refine s_rd_meanAt hG hk hR h2 (by omega) (by omega) ?_
      exact v_rd_differenceAt_26 hG hQ
    · rw [if_neg c2, if_pos c3] at hQ
      refine s_rd_thirdAt hG hk hR (by omega) (by omega) (by omega) (by omega) ?_
      exact v_rd_differenceAt_21 hG (v_rd_differenceAt_26 hG hQ)
    · rw [if_pos c2] at hQ
      refine s_rd_secondAt hG hk hR (by omega) (by omega) (by omega) (by omega) ?_
      exact v_rd_differenceAt_13 hG hQ
  · rw [if_neg c] at hQ
    exact hQ
theorem s_rd_countOf (hG : qGood Ls xs P) {o : Int} {m : Nat} (hk : qRd k) (hR : cRd M k n f) (h1 : 2 ≤ o) (h1' : o ≤ 4) (h2 : m ≤ 31) (hQ : Q (some (.int (iI (cz (fun j => decide (dif n f o m j ≠ (-1000000001))) n)))) M) : P 35 0 [(0, .ref k), (1, .int (iI o)), (2, .int (iI m))] [] M Q := by
  have hn := hR.2.1
  refine v_rd_countOf_0 hG hk ?_
  have key : ∀ (d j : Nat), j + d = n → P 35 4 [(0, .ref k), (1, .int (iI o)), (2, .int (iI m)), (3, .int (iI (cz (fun j => decide (dif n f o m j ≠ (-1000000001))) j))), (4, .int (iI j))] [] M Q := by
    intro d
    induction d with
    | zero =>
      intro j hj
      have e : j = n := by omega
      subst e
      refine v_rd_countOf_4 hG hk ?_
      simp (disch := omega) only [iI_add, iI_sub, iI_mul, iI_neg, iI_lt, iI_le, iI_eq, iI_cl, vp_iI, Classical.not_not, iLn1000000005, iLn1000000004, iLn1000000003, iLn1000000002, iLn1000000001, iLn99999, iLn9999, iLn2, iLn1, iL0, iL1, iL2, iL3, iL4, iL5, iL6, iL7, iL8, iL9, iL10, iL15, iL16, iL31, iL32, iL40, iL42, iL45, iL48, iL57, iL59, iL63, iL64, iL65, iL120, iL126, iL455, iL520, iL9999, iL99999, iN2, iN8, iN64, iN65, iN120, iN130, iN520, hR.1]
      exact ⟨fun c => hQ, fun c => by omega⟩
    | succ d ih =>
      intro j hj
      have hb := cz_in (fun j => decide (dif n f o m j ≠ (-1000000001))) j
      have hd := dif_ok hR.ok h2 o j
      refine v_rd_countOf_4 hG hk ?_
      simp (disch := omega) only [iI_add, iI_sub, iI_mul, iI_neg, iI_lt, iI_le, iI_eq, iI_cl, vp_iI, Classical.not_not, iLn1000000005, iLn1000000004, iLn1000000003, iLn1000000002, iLn1000000001, iLn99999, iLn9999, iLn2, iLn1, iL0, iL1, iL2, iL3, iL4, iL5, iL6, iL7, iL8, iL9, iL10, iL15, iL16, iL31, iL32, iL40, iL42, iL45, iL48, iL57, iL59, iL63, iL64, iL65, iL120, iL126, iL455, iL520, iL9999, iL99999, iN2, iN8, iN64, iN65, iN120, iN130, iN520, hR.1]
      refine ⟨fun c => by omega, fun c => ?_⟩
      refine s_rd_differenceAt hG hk hR h1 h1' h2 (by omega) (by omega) ?_
      refine v_rd_countOf_13 hG hk ?_
      simp (disch := omega) only [iI_add, iI_sub, iI_mul, iI_neg, iI_lt, iI_le, iI_eq, iI_cl, vp_iI, Classical.not_not, iLn1000000005, iLn1000000004, iLn1000000003, iLn1000000002, iLn1000000001, iLn99999, iLn9999, iLn2, iLn1, iL0, iL1, iL2, iL3, iL4, iL5, iL6, iL7, iL8, iL9, iL10, iL15, iL16, iL31, iL32, iL40, iL42, iL45, iL48, iL57, iL59, iL63, iL64, iL65, iL120, iL126, iL455, iL520, iL9999, iL99999, iN2, iN8, iN64, iN65, iN120, iN130, iN520]
      have hI := ih (j + 1) (by omega)
      unfold cz at hI
      refine ⟨fun c => ?_, fun c => ?_⟩
      · rw [if_neg (by simpa using c)] at hI
        rw [Int.add_zero] at hI
        exact hI
      · rw [if_pos (by simpa using c)] at hI
        exact hI
  simp (disch := omega) only [iI_add, iI_sub, iI_mul, iI_neg, iI_lt, iI_le, iI_eq, iI_cl, vp_iI, Classical.not_not, iLn1000000005, iLn1000000004, iLn1000000003, iLn1000000002, iLn1000000001, iLn99999, iLn9999, iLn2, iLn1, iL0, iL1, iL2, iL3, iL4, iL5, iL6, iL7, iL8, iL9, iL10, iL15, iL16, iL31, iL32, iL40, iL42, iL45, iL48, iL57, iL59, iL63, iL64, iL65, iL120, iL126, iL455, iL520, iL9999, iL99999, iN2, iN8, iN64, iN65, iN120, iN130, iN520]
  exact key n 0 (by omega)
theorem s_rd_isOutlier (hG : qGood Ls xs P) {j : Nat} {lim : Int} (hk : qRd k) (hR : cRd M k n f) (hj : j < n) (h1 : 0 ≤ lim) (h2 : lim ≤ 99999) (hQ : Q (some (.int (iI (bZ (otl n f lim j = true))))) M) : P 34 0 [(0, .ref k), (1, .int (iI j)), (2, .int (iI lim))] [] M Q := by
  have hn := hR.2.1
  refine v_rd_isOutlier_0 hG hk ?_
  simp (disch := omega) only [iI_add, iI_sub, iI_mul, iI_neg, iI_lt, iI_le, iI_eq, iI_cl, vp_iI, Classical.not_not, iLn1000000005, iLn1000000004, iLn1000000003, iLn1000000002, iLn1000000001, iLn99999, iLn9999, iLn2, iLn1, iL0, iL1, iL2, iL3, iL4, iL5, iL6, iL7, iL8, iL9, iL10, iL15, iL16, iL31, iL32, iL40, iL42, iL45, iL48, iL57, iL59, iL63, iL64, iL65, iL120, iL126, iL455, iL520, iL9999, iL99999, iN2, iN8, iN64, iN65, iN120, iN130, iN520]
  refine s_rd_differenceAt (m := 1) hG hk hR (by omega) (by omega) (by omega) (by omega) (by omega) ?_
  refine v_rd_isOutlier_7 hG ?_
  have hd := dif_ok (m := 1) hR.ok (by omega) 2 ((j : Int) - 1)
  simp (disch := omega) only [iI_add, iI_sub, iI_mul, iI_neg, iI_lt, iI_le, iI_eq, iI_cl, vp_iI, Classical.not_not, iLn1000000005, iLn1000000004, iLn1000000003, iLn1000000002, iLn1000000001, iLn99999, iLn9999, iLn2, iLn1, iL0, iL1, iL2, iL3, iL4, iL5, iL6, iL7, iL8, iL9, iL10, iL15, iL16, iL31, iL32, iL40, iL42, iL45, iL48, iL57, iL59, iL63, iL64, iL65, iL120, iL126, iL455, iL520, iL9999, iL99999, iN2, iN8, iN64, iN65, iN120, iN130, iN520]
  unfold otl at hQ
  refine ⟨fun c => q_b hQ (bZ_f ?_), fun c => ⟨fun c2 => q_b hQ (bZ_t ?_), fun c2 => ⟨fun c3 => q_b hQ (bZ_f ?_), fun c3 => q_b hQ (bZ_t ?_)⟩⟩⟩
  · simp [c]
  · simp only [Bool.and_eq_true, Bool.or_eq_true, decide_eq_true_eq]
    exact ⟨c, Or.inl c2⟩
  · simp only [Bool.and_eq_true, Bool.or_eq_true, decide_eq_true_eq]
    omega
  · simp only [Bool.and_eq_true, Bool.or_eq_true, decide_eq_true_eq]
    omega
end RD2
end
section
/-! floors; the reference's reading methods -/
theorem fl_t {v b : Int} (hb : 0 < b) : (if v - v.tdiv b * b < 0 then v.tdiv b - 1 else v.tdiv b) = v / b := by
  have h1 : v - v.tdiv b * b = v.tmod b := by
    rw [Int.tmod_def, Int.mul_comm]
  have h2 := tmod_bounds (a := v) hb
  have h3 : b * v.tdiv b + v.tmod b = v := Int.mul_tdiv_add_tmod v b
  rw [h1]
  split
  · refine ((Int.ediv_emod_unique hb (r := v.tmod b + b) (q := v.tdiv b - 1)).mpr ⟨?_, by omega, by omega⟩).1.symm
    rw [Int.mul_sub, Int.mul_one]
    omega
  · refine ((Int.ediv_emod_unique hb (r := v.tmod b) (q := v.tdiv b)).mpr ⟨by omega, by omega, by omega⟩).1.symm
theorem fl_s {v b : Int} (hb : 0 < b) (hv : v < 0) : v - v.tdiv b * b ≤ 0 := by
  have h1 : v.tdiv b = -((-v) / b) := by
    have e := Int.neg_tdiv v b
    rw [Int.tdiv_eq_ediv_of_nonneg (by omega)] at e
    omega
  have h2 := Int.ediv_mul_le (-v) (b := b) (by omega)
  rw [h1, Int.neg_mul]
  omega
theorem l_xor {x y : Int64} (hy : 0 ≤ y.toInt) : 0 ≤ (x ^^^ y).toInt ↔ 0 ≤ x.toInt := by
  have h0 : ∀ z : Int64, 0 ≤ z.toInt ↔ z.toBitVec.msb = false := by
    intro z
    show 0 ≤ z.toBitVec.toInt ↔ _
    rw [BitVec.msb_eq_toInt]
    simp
  rw [h0] at hy
  rw [h0, h0, Int64.toBitVec_xor, BitVec.msb_xor, hy]
  simp
theorem mul_bd {A C : Nat} {a c : Int} (h1 : -(A : Int) ≤ a) (h2 : a ≤ A) (h3 : -(C : Int) ≤ c) (h4 : c ≤ C) : -((A * C : Nat) : Int) ≤ a * c ∧ a * c ≤ ((A * C : Nat) : Int) := by
  have h : (a * c).natAbs ≤ A * C := by
    rw [Int.natAbs_mul]
    exact Nat.mul_le_mul (by omega) (by omega)
  have h5 := Int.le_natAbs (a := a * c)
  have h6 := Int.le_natAbs (a := -(a * c))
  rw [Int.natAbs_neg] at h6
  have h7 : ((a * c).natAbs : Int) ≤ ((A * C : Nat) : Int) := Int.ofNat_le.mpr h
  omega
section MD1
variable {Ls : Nat} {xs : Nat → Int32} {P : qSem} {n : Nat} {f : Nat → Int} {M : qMem} {Q : qPost}
theorem s_floorDiv (hG : qGood Ls xs P) {v b : Int} (h1 : -9223372036854775808 ≤ v) (h2 : v < 9223372036854775808) (hb : 0 < b) (h4 : b < 9223372036854775808) (hQ : Q (some (.long (lI (v / b)))) M) : P 153 0 [(0, .long (lI v)), (2, .long (lI b))] [] M Q := by
  refine v_math_floorDiv_0 hG ?_
  have hf := fl_t (v := v) hb
  have hbd : -9223372036854775808 ≤ v.tdiv b * b ∧ v.tdiv b * b < 9223372036854775808 := by
    have h3 := tmod_bounds (a := v) hb
    have h5 : b * v.tdiv b + v.tmod b = v := Int.mul_tdiv_add_tmod v b
    rcases Int.lt_or_le v 0 with hv | hv
    · have h6 := fl_s hb hv
      rw [Int.mul_comm] at h5
      have h7 : v.tdiv b * b ≤ 0 := by
        have e := Int.neg_tdiv v b
        rw [Int.tdiv_eq_ediv_of_nonneg (by omega)] at e
        have e2 := Int.ediv_nonneg (a := -v) (b := b) (by omega) (by omega)
        have e3 : v.tdiv b ≤ 0 := by omega
        exact Int.mul_nonpos_of_nonpos_of_nonneg e3 (by omega)
      omega
    · rw [Int.tdiv_eq_ediv_of_nonneg hv]
      have h6 := Int.ediv_mul_le v (b := b) (by omega)
      have h7 := Int.mul_nonneg (Int.ediv_nonneg (a := v) (b := b) hv (by omega)) (Int.le_of_lt hb)
      omega
  rw [lL0, lL1, lI_tdiv h1 h2 (by omega) (by omega), lI_mul, lI_sub, lI_eq (by omega) (by omega) (by omega) (by omega)]
  refine ⟨by omega, fun c => ?_, fun c => ?_⟩
  · have hv : 0 ≤ v := by
      have c2 : 0 ≤ (lI v ^^^ lI b).toInt := by
        have e := lg_cmp_ge (lI v ^^^ lI b) (lI 0)
        have c3 := e.mp c
        rw [Int64.le_iff_toInt_le, lI_toInt (a := 0) (by omega) (by omega)] at c3
        exact c3
      rw [l_xor (by rw [lI_toInt (by omega) (by omega)]; omega), lI_toInt h1 h2] at c2
      exact c2
    rw [Int.tdiv_eq_ediv_of_nonneg hv]
    exact hQ
  · have hv : v < 0 := by
      rcases Int.lt_or_le v 0 with q | q
      · exact q
      · exfalso
        apply c
        rw [lg_cmp_ge, Int64.le_iff_toInt_le, lI_toInt (a := 0) (by omega) (by omega), l_xor (by rw [lI_toInt (by omega) (by omega)]; omega), lI_toInt h1 h2]
        exact q
    have h6 := fl_s hb hv
    rw [lg_cmpZ (by omega) (by omega) h1 h2]
    have hz : -1 ≤ cmpZ (v.tdiv b * b) v ∧ cmpZ (v.tdiv b * b) v ≤ 1 := by unfold cmpZ; split <;> (try split) <;> omega
    simp (disch := omega) only [iI_add, iI_sub, iI_mul, iI_neg, iI_lt, iI_le, iI_eq, iI_cl, vp_iI, Classical.not_not, iLn1000000005, iLn1000000004, iLn1000000003, iLn1000000002, iLn1000000001, iLn99999, iLn9999, iLn2, iLn1, iL0, iL1, iL2, iL3, iL4, iL5, iL6, iL7, iL8, iL9, iL10, iL15, iL16, iL31, iL32, iL40, iL42, iL45, iL48, iL57, iL59, iL63, iL64, iL65, iL120, iL126, iL455, iL520, iL9999, iL99999, iN2, iN8, iN64, iN65, iN120, iN130, iN520]
    refine ⟨fun c2 => q_l ?_ hQ, fun c2 => q_l ?_ hQ⟩
    · rw [← hf]
      unfold cmpZ at c2
      split at c2
      · omega
      · split at c2
        · rw [if_neg (by omega)]
        · omega
    · rw [← hf]
      have hne : v.tdiv b * b ≠ v := by
        intro e
        apply c2
        unfold cmpZ
        rw [if_neg (by omega), if_pos e]
      rw [if_pos (by omega)]
theorem s_md_floor (hG : qGood Ls xs P) {v b : Int} (h1 : -4611686018427387904 ≤ v) (h2 : v < 4611686018427387904) (hb : 0 < b) (h4 : b < 4611686018427387904) (hQ : Q (some (.long (lI (v / b)))) M) : P 95 0 [(0, .long (lI v)), (2, .long (lI b))] [] M Q := by
  refine v_md_floor_0 hG ?_
  have hf := fl_t (v := v) hb
  have h3 := tmod_bounds (a := v) hb
  have h5 : v - v.tdiv b * b = v.tmod b := by rw [Int.tmod_def, Int.mul_comm]
  rw [lL0, lL1, lI_tdiv (by omega) (by omega) (by omega) (by omega), lI_mul, lI_sub, lI_sub, lI_eq (by omega) (by omega) (by omega) (by omega), lg_cmpZ (by omega) (by omega) (by omega) (by omega)]
  have hz : -1 ≤ cmpZ (v - v.tdiv b * b) 0 ∧ cmpZ (v - v.tdiv b * b) 0 ≤ 1 := by unfold cmpZ; split <;> (try split) <;> omega
  simp (disch := omega) only [iI_add, iI_sub, iI_mul, iI_neg, iI_lt, iI_le, iI_eq, iI_cl, vp_iI, Classical.not_not, iLn1000000005, iLn1000000004, iLn1000000003, iLn1000000002, iLn1000000001, iLn99999, iLn9999, iLn2, iLn1, iL0, iL1, iL2, iL3, iL4, iL5, iL6, iL7, iL8, iL9, iL10, iL15, iL16, iL31, iL32, iL40, iL42, iL45, iL48, iL57, iL59, iL63, iL64, iL65, iL120, iL126, iL455, iL520, iL9999, iL99999, iN2, iN8, iN64, iN65, iN120, iN130, iN520]
  refine ⟨by omega, by omega, fun c => q_l ?_ hQ, fun c => q_l ?_ hQ⟩
  · rw [← hf]
    unfold cmpZ at c
    split at c
    · rw [if_neg (by omega)]
    · split at c
      · rw [if_neg (by omega)]
      · omega
  · rw [← hf]
    unfold cmpZ at c
    split at c
    · omega
    · split at c
      · omega
      · rw [if_pos (by omega)]
def mX (M : qMem) (n : Nat) (f : Nat → Int) : Prop := M.1 37 64 = iI n ∧ n ≤ 64 ∧ ∀ j, j < n → M.1 37 j = iI (f j) ∧ okv (f j)
theorem mX.ok (h : mX M n f) : ∀ j, j < n → okv (f j) := fun j hj => (h.2.2 j hj).2
theorem mX.eqv {g : Nat → Int} (h : mX M n f) (hg : ∀ j, j < n → g j = f j) : mX M n g := ⟨h.1, h.2.1, fun j hj => by rw [hg j hj]; exact h.2.2 j hj⟩
theorem mX.fm {M' : qMem} (h : mX M n f) (hF : M'.1 37 = M.1 37) : mX M' n f := by
  unfold mX
  rw [hF]
  exact h
theorem s_md_isIn (hG : qGood Ls xs P) {v a b : Int} (h1 : -2147483648 ≤ v) (h2 : v < 2147483648) (h3 : -2147483648 ≤ a) (h4 : a < 2147483648) (h5 : -2147483648 ≤ b) (h6 : b < 2147483648) (hQ : Q (some (.int (iI (bZ (a ≤ v ∧ v ≤ b))))) M) : P 89 0 [(0, .int (iI v)), (1, .int (iI a)), (2, .int (iI b))] [] M Q := by
  refine v_md_isIn_0 hG ?_
  simp (disch := omega) only [iI_add, iI_sub, iI_mul, iI_neg, iI_lt, iI_le, iI_eq, iI_cl, vp_iI, Classical.not_not, iLn1000000005, iLn1000000004, iLn1000000003, iLn1000000002, iLn1000000001, iLn99999, iLn9999, iLn2, iLn1, iL0, iL1, iL2, iL3, iL4, iL5, iL6, iL7, iL8, iL9, iL10, iL15, iL16, iL31, iL32, iL40, iL42, iL45, iL48, iL57, iL59, iL63, iL64, iL65, iL120, iL126, iL455, iL520, iL9999, iL99999, iN2, iN8, iN64, iN65, iN120, iN130, iN520]
  exact ⟨fun c => q_b hQ (bZ_f (by omega)), fun c => ⟨fun c2 => q_b hQ (bZ_f (by omega)), fun c2 => q_b hQ (bZ_t (by omega))⟩⟩
theorem s_md_many (hG : qGood Ls xs P) (hX : mX M n f) (hQ : Q (some (.int (iI n))) M) : P 90 0 [(0, .ref 36)] [] M Q := by
  refine v_md_many_0 hG ?_
  simp (disch := omega) only [iI_add, iI_sub, iI_mul, iI_neg, iI_lt, iI_le, iI_eq, iI_cl, vp_iI, Classical.not_not, iLn1000000005, iLn1000000004, iLn1000000003, iLn1000000002, iLn1000000001, iLn99999, iLn9999, iLn2, iLn1, iL0, iL1, iL2, iL3, iL4, iL5, iL6, iL7, iL8, iL9, iL10, iL15, iL16, iL31, iL32, iL40, iL42, iL45, iL48, iL57, iL59, iL63, iL64, iL65, iL120, iL126, iL455, iL520, iL9999, iL99999, iN2, iN8, iN64, iN65, iN120, iN130, iN520]
  refine ⟨by omega, ?_⟩
  rw [show (64 : Int).toNat = 64 from rfl, hX.1]
  exact hQ
theorem s_md_isReading (hG : qGood Ls xs P) {i : Int} (hX : mX M n f) (h1 : -2147483648 ≤ i) (h2 : i < 2147483648) (hQ : Q (some (.int (iI (bZ (0 ≤ i ∧ i < n))))) M) : P 91 0 [(0, .ref 36), (1, .int (iI i))] [] M Q := by
  have hn := hX.2.1
  refine v_md_isReading_0 hG ?_
  refine s_md_many hG hX ?_
  refine v_md_isReading_4 hG ?_
  simp (disch := omega) only [iI_add, iI_sub, iI_mul, iI_neg, iI_lt, iI_le, iI_eq, iI_cl, vp_iI, Classical.not_not, iLn1000000005, iLn1000000004, iLn1000000003, iLn1000000002, iLn1000000001, iLn99999, iLn9999, iLn2, iLn1, iL0, iL1, iL2, iL3, iL4, iL5, iL6, iL7, iL8, iL9, iL10, iL15, iL16, iL31, iL32, iL40, iL42, iL45, iL48, iL57, iL59, iL63, iL64, iL65, iL120, iL126, iL455, iL520, iL9999, iL99999, iN2, iN8, iN64, iN65, iN120, iN130, iN520]
  refine s_md_isIn hG h1 h2 (by omega) (by omega) (by omega) (by omega) ?_
  refine v_md_isReading_7 hG ⟨bZ_n _, q_i ?_ hQ⟩
  unfold bZ
  split <;> split <;> omega
theorem s_md_isThere (hG : qGood Ls xs P) {i : Int} (hX : mX M n f) (h1 : -2147483648 ≤ i) (h2 : i < 2147483648) (hQ : Q (some (.int (iI (bZ (vl n f i ≠ (-1000000001)))))) M) : P 92 0 [(0, .ref 36), (1, .int (iI i))] [] M Q := by
  have hn := hX.2.1
  refine v_md_isThere_0 hG ?_
  refine s_md_isReading hG hX h1 h2 ?_
  refine v_md_isThere_3 hG ?_
  have hz := bZ_in (0 ≤ i ∧ i < n)
  simp (disch := omega) only [iI_add, iI_sub, iI_mul, iI_neg, iI_lt, iI_le, iI_eq, iI_cl, vp_iI, Classical.not_not, iLn1000000005, iLn1000000004, iLn1000000003, iLn1000000002, iLn1000000001, iLn99999, iLn9999, iLn2, iLn1, iL0, iL1, iL2, iL3, iL4, iL5, iL6, iL7, iL8, iL9, iL10, iL15, iL16, iL31, iL32, iL40, iL42, iL45, iL48, iL57, iL59, iL63, iL64, iL65, iL120, iL126, iL455, iL520, iL9999, iL99999, iN2, iN8, iN64, iN65, iN120, iN130, iN520, bZ_0]
  refine ⟨fun c => q_b hQ (bZ_f ?_), fun c => ⟨by omega, ?_⟩⟩
  · unfold vl
    rw [if_neg c]
    exact fun z => z rfl
  · have hv := (hX.2.2 i.toNat (by omega)).2
    unfold okv at hv
    rw [(hX.2.2 i.toNat (by omega)).1]
    unfold vl at hQ
    rw [if_pos c] at hQ
    simp (disch := omega) only [iI_add, iI_sub, iI_mul, iI_neg, iI_lt, iI_le, iI_eq, iI_cl, vp_iI, Classical.not_not, iLn1000000005, iLn1000000004, iLn1000000003, iLn1000000002, iLn1000000001, iLn99999, iLn9999, iLn2, iLn1, iL0, iL1, iL2, iL3, iL4, iL5, iL6, iL7, iL8, iL9, iL10, iL15, iL16, iL31, iL32, iL40, iL42, iL45, iL48, iL57, iL59, iL63, iL64, iL65, iL120, iL126, iL455, iL520, iL9999, iL99999, iN2, iN8, iN64, iN65, iN120, iN130, iN520]
    exact ⟨fun c2 => q_b hQ (bZ_f (fun z => z c2)), fun c2 => q_b hQ (bZ_t c2)⟩
theorem s_md_isPhase (hG : qGood Ls xs P) {v : Int} (h1 : -9223372036854775808 ≤ v) (h2 : v < 9223372036854775808) (hQ : Q (some (.int (iI (bZ (-99999 ≤ v ∧ v ≤ 99999))))) M) : P 94 0 [(0, .long (lI v))] [] M Q := by
  refine v_md_isPhase_0 hG ?_
  rw [show (-99999 : Int64) = lI (-99999) by decide, show (99999 : Int64) = lI 99999 by decide, lg_cmpZ h1 h2 (by omega) (by omega), lg_cmpZ h1 h2 (by omega) (by omega)]
  have hz : -1 ≤ cmpZ v (-99999) ∧ cmpZ v (-99999) ≤ 1 := by unfold cmpZ; split <;> (try split) <;> omega
  have hz2 : -1 ≤ cmpZ v 99999 ∧ cmpZ v 99999 ≤ 1 := by unfold cmpZ; split <;> (try split) <;> omega
  simp (disch := omega) only [iI_add, iI_sub, iI_mul, iI_neg, iI_lt, iI_le, iI_eq, iI_cl, vp_iI, Classical.not_not, iLn1000000005, iLn1000000004, iLn1000000003, iLn1000000002, iLn1000000001, iLn99999, iLn9999, iLn2, iLn1, iL0, iL1, iL2, iL3, iL4, iL5, iL6, iL7, iL8, iL9, iL10, iL15, iL16, iL31, iL32, iL40, iL42, iL45, iL48, iL57, iL59, iL63, iL64, iL65, iL120, iL126, iL455, iL520, iL9999, iL99999, iN2, iN8, iN64, iN65, iN120, iN130, iN520]
  refine ⟨fun c => q_b hQ (bZ_f ?_), fun c => ⟨fun c2 => q_b hQ (bZ_f ?_), fun c2 => q_b hQ (bZ_t ?_)⟩⟩
  · unfold cmpZ at c
    split at c <;> (try split at c) <;> omega
  · unfold cmpZ at c2
    split at c2 <;> (try split at c2) <;> omega
  · unfold cmpZ at c c2
    split at c <;> split at c2 <;> (try split at c) <;> (try split at c2) <;> omega
theorem vl_at (hX : mX M n f) {i : Int} (h1 : 0 ≤ i) (h2 : i < n) : M.1 37 i.toNat = iI (vl n f i) := by
  rw [(hX.2.2 i.toNat (by omega)).1]
  unfold vl
  rw [if_pos ⟨h1, h2⟩]
theorem s_md_onLine (hG : qGood Ls xs P) {i j t : Int} (hX : mX M n f) (h1 : 0 ≤ i) (h2 : i < j) (h3 : j < n) (h4 : 0 ≤ t) (h5 : t ≤ 64) (hi : vl n f i ≠ (-1000000001)) (hj : vl n f j ≠ (-1000000001)) (hQ : Q (some (.long (lI (lnz n f i j t)))) M) : P 101 0 [(0, .ref 36), (1, .int (iI i)), (2, .int (iI j)), (3, .int (iI t))] [] M Q := by
  have hn := hX.2.1
  have o1 := vl_ok hX.ok i
  have o2 := vl_ok hX.ok j
  unfold okv at o1 o2
  refine v_md_onLine_0 hG ?_
  simp (disch := omega) only [iI_add, iI_sub, iI_mul, iI_neg, iI_lt, iI_le, iI_eq, iI_cl, vp_iI, Classical.not_not, iLn1000000005, iLn1000000004, iLn1000000003, iLn1000000002, iLn1000000001, iLn99999, iLn9999, iLn2, iLn1, iL0, iL1, iL2, iL3, iL4, iL5, iL6, iL7, iL8, iL9, iL10, iL15, iL16, iL31, iL32, iL40, iL42, iL45, iL48, iL57, iL59, iL63, iL64, iL65, iL120, iL126, iL455, iL520, iL9999, iL99999, iN2, iN8, iN64, iN65, iN120, iN130, iN520]
  refine ⟨by omega, by omega, by omega, ?_⟩
  rw [vl_at hX (by omega) h3, vl_at hX h1 (by omega), iI_sub, i2l (by omega) (by omega), i2l (by omega) (by omega), i2l (by omega) (by omega), i2l (by omega) (by omega), lI_mul]
  have hm := mul_bd (A := 199998) (C := 64) (a := vl n f j - vl n f i) (c := t - i) (by omega) (by omega) (by omega) (by omega)
  refine s_md_floor hG (by omega) (by omega) (by omega) (by omega) ?_
  refine v_md_onLine_27 hG ?_
  rw [lI_add]
  exact hQ
theorem s_md_exists2 (hG : qGood Ls xs P) {m i : Int} (hX : mX M n f) (h1 : 0 ≤ m) (h2 : m ≤ 100) (h3 : 0 ≤ i) (h4 : i ≤ 200) (hQ : Q (some (.int (iI (bZ (sec n f m i ≠ (-1000000001)))))) M) : P 120 0 [(0, .ref 36), (1, .int (iI m)), (2, .int (iI i))] [] M Q := by
  have o1 := vl_ok hX.ok i
  have o2 := vl_ok hX.ok (i + m)
  have o3 := vl_ok hX.ok (i + 2 * m)
  unfold okv at o1 o2 o3
  refine v_md_exists2_0 hG ?_
  refine s_md_isThere hG hX (by omega) (by omega) ?_
  refine v_md_exists2_3 hG ?_
  have z1 := bZ_in (vl n f i ≠ (-1000000001))
  simp (disch := omega) only [iI_add, iI_sub, iI_mul, iI_neg, iI_lt, iI_le, iI_eq, iI_cl, vp_iI, Classical.not_not, iLn1000000005, iLn1000000004, iLn1000000003, iLn1000000002, iLn1000000001, iLn99999, iLn9999, iLn2, iLn1, iL0, iL1, iL2, iL3, iL4, iL5, iL6, iL7, iL8, iL9, iL10, iL15, iL16, iL31, iL32, iL40, iL42, iL45, iL48, iL57, iL59, iL63, iL64, iL65, iL120, iL126, iL455, iL520, iL9999, iL99999, iN2, iN8, iN64, iN65, iN120, iN130, iN520, bZ_0]
  refine ⟨fun c => q_b hQ (bZ_f ?_), fun c => ?_⟩
  · unfold sec
    rw [if_pos (Or.inl c)]
    exact fun z => z rfl
  refine s_md_isThere hG hX (by omega) (by omega) ?_
  refine v_md_exists2_9 hG ?_
  have z2 := bZ_in (vl n f (i + m) ≠ (-1000000001))
  simp (disch := omega) only [iI_add, iI_sub, iI_mul, iI_neg, iI_lt, iI_le, iI_eq, iI_cl, vp_iI, Classical.not_not, iLn1000000005, iLn1000000004, iLn1000000003, iLn1000000002, iLn1000000001, iLn99999, iLn9999, iLn2, iLn1, iL0, iL1, iL2, iL3, iL4, iL5, iL6, iL7, iL8, iL9, iL10, iL15, iL16, iL31, iL32, iL40, iL42, iL45, iL48, iL57, iL59, iL63, iL64, iL65, iL120, iL126, iL455, iL520, iL9999, iL99999, iN2, iN8, iN64, iN65, iN120, iN130, iN520, bZ_0]
  refine ⟨fun c2 => q_b hQ (bZ_f ?_), fun c2 => ?_⟩
  · unfold sec
    rw [if_pos (Or.inr (Or.inl c2))]
    exact fun z => z rfl
  refine s_md_isThere hG hX (by omega) (by omega) ?_
  refine v_md_exists2_17 hG ?_
  have z3 := bZ_in (vl n f (i + 2 * m) ≠ (-1000000001))
  simp (disch := omega) only [iI_add, iI_sub, iI_mul, iI_neg, iI_lt, iI_le, iI_eq, iI_cl, vp_iI, Classical.not_not, iLn1000000005, iLn1000000004, iLn1000000003, iLn1000000002, iLn1000000001, iLn99999, iLn9999, iLn2, iLn1, iL0, iL1, iL2, iL3, iL4, iL5, iL6, iL7, iL8, iL9, iL10, iL15, iL16, iL31, iL32, iL40, iL42, iL45, iL48, iL57, iL59, iL63, iL64, iL65, iL120, iL126, iL455, iL520, iL9999, iL99999, iN2, iN8, iN64, iN65, iN120, iN130, iN520, bZ_0]
  refine ⟨fun c3 => q_b hQ (bZ_f ?_), fun c3 => q_b hQ (bZ_t ?_)⟩
  · unfold sec
    rw [if_pos (Or.inr (Or.inr c3))]
    exact fun z => z rfl
  · unfold sec
    rw [if_neg (by omega)]
    omega
theorem sec_r {m i : Int} (h : sec n f m i ≠ (-1000000001)) : (vl n f i ≠ (-1000000001) ∧ vl n f (i + m) ≠ (-1000000001) ∧ vl n f (i + 2 * m) ≠ (-1000000001)) ∧ sec n f m i = vl n f (i + 2 * m) - 2 * vl n f (i + m) + vl n f i := by
  unfold sec at h ⊢
  split
  · rename_i c
    rw [if_pos c] at h
    exact absurd rfl h
  · rename_i c
    exact ⟨by omega, rfl⟩
theorem vl_lt {i : Int} (h : vl n f i ≠ (-1000000001)) : 0 ≤ i ∧ i < n := by
  unfold vl at h
  split at h
  · rename_i c; exact c
  · exact absurd rfl h
theorem s_md_second (hG : qGood Ls xs P) {m i : Int} (hX : mX M n f) (h1 : 0 ≤ m) (h2 : m ≤ 100) (h3 : 0 ≤ i) (h4 : i ≤ 200) (he : sec n f m i ≠ (-1000000001)) (hQ : Q (some (.int (iI (sec n f m i)))) M) : P 121 0 [(0, .ref 36), (1, .int (iI m)), (2, .int (iI i))] [] M Q := by
  have hn := hX.2.1
  obtain ⟨⟨e1, e2, e3⟩, e4⟩ := sec_r he
  have l1 := vl_lt e1
  have l2 := vl_lt e2
  have l3 := vl_lt e3
  refine v_md_second_0 hG ?_
  simp (disch := omega) only [iI_add, iI_sub, iI_mul, iI_neg, iI_lt, iI_le, iI_eq, iI_cl, vp_iI, Classical.not_not, iLn1000000005, iLn1000000004, iLn1000000003, iLn1000000002, iLn1000000001, iLn99999, iLn9999, iLn2, iLn1, iL0, iL1, iL2, iL3, iL4, iL5, iL6, iL7, iL8, iL9, iL10, iL15, iL16, iL31, iL32, iL40, iL42, iL45, iL48, iL57, iL59, iL63, iL64, iL65, iL120, iL126, iL455, iL520, iL9999, iL99999, iN2, iN8, iN64, iN65, iN120, iN130, iN520]
  rw [vl_at hX l1.1 l1.2, vl_at hX l2.1 l2.2, vl_at hX l3.1 l3.2]
  simp (disch := omega) only [iI_add, iI_sub, iI_mul, iI_neg, iI_lt, iI_le, iI_eq, iI_cl, vp_iI, Classical.not_not, iLn1000000005, iLn1000000004, iLn1000000003, iLn1000000002, iLn1000000001, iLn99999, iLn9999, iLn2, iLn1, iL0, iL1, iL2, iL3, iL4, iL5, iL6, iL7, iL8, iL9, iL10, iL15, iL16, iL31, iL32, iL40, iL42, iL45, iL48, iL57, iL59, iL63, iL64, iL65, iL120, iL126, iL455, iL520, iL9999, iL99999, iN2, iN8, iN64, iN65, iN120, iN130, iN520]
  rw [e4] at hQ
  exact ⟨by omega, by omega, by omega, hQ⟩
end MD1
end
section
/-! the reference's differences, counts, gaps, outliers -/
theorem okS_le (g : Nat → Int) : ∀ (d j : Nat), okS g (j + d) = true → okS g j = true := by
  intro d
  induction d with
  | zero => intro j h; exact h
  | succ d ih =>
    intro j h
    refine ih j ?_
    rw [← Nat.add_assoc] at h
    unfold okS at h
    simp only [Bool.and_eq_true] at h
    exact h.1
theorem okS_at (g : Nat → Int) : ∀ (m j : Nat), okS g m = true → j < m → g j ≠ (-1000000001) := by
  intro m j h hj
  have h2 := okS_le g (m - (j + 1)) (j + 1) (by rw [show j + 1 + (m - (j + 1)) = m by omega]; exact h)
  unfold okS at h2
  simp only [Bool.and_eq_true, decide_eq_true_eq] at h2
  exact h2.2
theorem men_ne {n : Nat} {f : Nat → Int} (hf : ∀ j, j < n → okv (f j)) {m : Nat} (hm : m ≤ 31) (i : Int) : men n f m i ≠ (-1000000001) ↔ okS (fun j => sec n f m (i + j)) m = true := by
  unfold men
  split
  · rename_i h
    have h1 := smS_in (B := 399996) (fun j => sec_ok hf m (i + j)) m h
    constructor
    · intro _; exact h
    · intro _; omega
  · rename_i h
    constructor
    · intro q; exact absurd rfl q
    · intro q; exact absurd q h
theorem thr_ne {n : Nat} {f : Nat → Int} (hf : ∀ j, j < n → okv (f j)) {m : Int} {i : Int} : thr n f m i ≠ (-1000000001) ↔ (sec n f m i ≠ (-1000000001) ∧ vl n f (i + 3 * m) ≠ (-1000000001)) := by
  have h1 := vl_ok hf i
  have h2 := vl_ok hf (i + m)
  have h3 := vl_ok hf (i + 2 * m)
  have h4 := vl_ok hf (i + 3 * m)
  unfold okv at h1 h2 h3 h4
  unfold thr sec
  split <;> split <;> omega
def cnd (n : Nat) (f : Nat → Int) (o : Int) (m : Nat) : Int := cz (fun j => decide (dif n f o m j ≠ (-1000000001))) n
def wdz (n : Nat) (f : Nat → Int) : Nat → Int
  | 0 => 0
  | k + 1 => if 0 < cnd n f 2 (k + 1) then ((k + 1 : Nat) : Int) else wdz n f k
theorem wdz_in (n : Nat) (f : Nat → Int) : ∀ k : Nat, 0 ≤ wdz n f k ∧ wdz n f k ≤ k := by
  intro k
  induction k with
  | zero => unfold wdz; omega
  | succ k ih => unfold wdz; split <;> omega
theorem lsz_st (f : Nat → Int) (j : Nat) : lsz f (j + 1) = if f j ≠ (-1000000001) ∧ (lsz f j = (-1000000001) ∨ f j < lsz f j) then f j else lsz f j := rfl
theorem grz_st {n : Nat} {f : Nat → Int} (hf : ∀ j, j < n → okv (f j)) {j : Nat} (hj : j < n) : grz f (j + 1) = if f j ≠ (-1000000001) ∧ (grz f j = (-1000000001) ∨ grz f j < f j) then f j else grz f j := by
  have h1 := grz_ok hf j (by omega)
  have h2 := hf j hj
  unfold okv at h1 h2
  show (if grz f j < f j then f j else grz f j) = _
  split <;> split <;> omega
section MD2
variable {Ls : Nat} {xs : Nat → Int32} {P : qSem} {n : Nat} {f : Nat → Int} {M : qMem} {Q : qPost}
theorem s_md_exists (hG : qGood Ls xs P) {o : Int} {m : Nat} {i : Nat} (hX : mX M n f) (h1 : 2 ≤ o) (h1' : o ≤ 4) (h2 : m ≤ 31) (hi : i < n) (hQ : Q (some (.int (iI (bZ (dif n f o m i ≠ (-1000000001)))))) M) : P 119 0 [(0, .ref 36), (1, .int (iI o)), (2, .int (iI m)), (3, .int (iI i))] [] M Q := by
  have hn := hX.2.1
  have hd : dif n f o m i = (if o = 2 then sec n f m i else if o = 3 then thr n f m i else men n f m i) := by
    unfold dif
    rw [if_pos (by omega)]
  rw [hd] at hQ
  refine v_md_exists_0 hG ?_
  simp (disch := omega) only [iI_add, iI_sub, iI_mul, iI_neg, iI_lt, iI_le, iI_eq, iI_cl, vp_iI, Classical.not_not, iLn1000000005, iLn1000000004, iLn1000000003, iLn1000000002, iLn1000000001, iLn99999, iLn9999, iLn2, iLn1, iL0, iL1, iL2, iL3, iL4, iL5, iL6, iL7, iL8, iL9, iL10, iL15, iL16, iL31, iL32, iL40, iL42, iL45, iL48, iL57, iL59, iL63, iL64, iL65, iL120, iL126, iL455, iL520, iL9999, iL99999, iN2, iN8, iN64, iN65, iN120, iN130, iN520]
  refine ⟨fun c => ?_, fun c => ?_⟩
  · refine s_md_exists2 hG hX (by omega) (by omega) (by omega) (by omega) ?_
    refine v_md_exists_27 hG ?_
    have hz := bZ_in (sec n f m i ≠ (-1000000001))
    simp (disch := omega) only [iI_add, iI_sub, iI_mul, iI_neg, iI_lt, iI_le, iI_eq, iI_cl, vp_iI, Classical.not_not, iLn1000000005, iLn1000000004, iLn1000000003, iLn1000000002, iLn1000000001, iLn99999, iLn9999, iLn2, iLn1, iL0, iL1, iL2, iL3, iL4, iL5, iL6, iL7, iL8, iL9, iL10, iL15, iL16, iL31, iL32, iL40, iL42, iL45, iL48, iL57, iL59, iL63, iL64, iL65, iL120, iL126, iL455, iL520, iL9999, iL99999, iN2, iN8, iN64, iN65, iN120, iN130, iN520, bZ_0]
    refine ⟨fun c2 => q_b hQ (bZ_f ?_), fun c2 => ⟨fun c3 => q_b hQ (bZ_t ?_), fun c3 => ?_⟩⟩
    · rcases (show o = 2 ∨ o = 3 by omega) with e | e
      · rw [if_pos e]
        exact fun z => z c2
      · rw [if_neg (by omega), if_pos e, thr_ne hX.ok]
        exact fun z => z.1 c2
    · rw [if_pos c3]
      exact c2
    · refine s_md_isThere hG hX (by omega) (by omega) ?_
      refine v_md_exists_38 hG ?_
      have hz2 := bZ_in (vl n f ((i : Int) + 3 * m) ≠ (-1000000001))
      simp (disch := omega) only [iI_add, iI_sub, iI_mul, iI_neg, iI_lt, iI_le, iI_eq, iI_cl, vp_iI, Classical.not_not, iLn1000000005, iLn1000000004, iLn1000000003, iLn1000000002, iLn1000000001, iLn99999, iLn9999, iLn2, iLn1, iL0, iL1, iL2, iL3, iL4, iL5, iL6, iL7, iL8, iL9, iL10, iL15, iL16, iL31, iL32, iL40, iL42, iL45, iL48, iL57, iL59, iL63, iL64, iL65, iL120, iL126, iL455, iL520, iL9999, iL99999, iN2, iN8, iN64, iN65, iN120, iN130, iN520, bZ_0]
      rw [if_neg c3, if_pos (by omega)] at hQ
      refine ⟨fun c4 => q_b hQ (bZ_f ?_), fun c4 => q_b hQ (bZ_t ?_)⟩
      · rw [thr_ne hX.ok]
        exact fun z => z.2 c4
      · rw [thr_ne hX.ok]
        exact ⟨c2, c4⟩
  · rw [if_neg (by omega), if_neg (by omega)] at hQ
    have key : ∀ (d j : Nat), j + d = m → P 119 7 [(0, .ref 36), (2, .int (iI m)), (3, .int (iI i)), (4, .int (iI (bZ (okS (fun j => sec n f m ((i : Int) + j)) j = true)))), (5, .int (iI j))] [] M Q := by
      intro d
      induction d with
      | zero =>
        intro j hj
        have e : j = m := by omega
        subst e
        refine v_md_exists_7 hG ?_
        simp (disch := omega) only [iI_add, iI_sub, iI_mul, iI_neg, iI_lt, iI_le, iI_eq, iI_cl, vp_iI, Classical.not_not, iLn1000000005, iLn1000000004, iLn1000000003, iLn1000000002, iLn1000000001, iLn99999, iLn9999, iLn2, iLn1, iL0, iL1, iL2, iL3, iL4, iL5, iL6, iL7, iL8, iL9, iL10, iL15, iL16, iL31, iL32, iL40, iL42, iL45, iL48, iL57, iL59, iL63, iL64, iL65, iL120, iL126, iL455, iL520, iL9999, iL99999, iN2, iN8, iN64, iN65, iN120, iN130, iN520]
        refine ⟨fun _ => q_b hQ ?_, fun c2 => by omega⟩
        unfold bZ
        simp only [men_ne hX.ok h2]
      | succ d ih =>
        intro j hj
        have hz := bZ_in (okS (fun j => sec n f m ((i : Int) + j)) j = true)
        refine v_md_exists_7 hG ?_
        simp (disch := omega) only [iI_add, iI_sub, iI_mul, iI_neg, iI_lt, iI_le, iI_eq, iI_cl, vp_iI, Classical.not_not, iLn1000000005, iLn1000000004, iLn1000000003, iLn1000000002, iLn1000000001, iLn99999, iLn9999, iLn2, iLn1, iL0, iL1, iL2, iL3, iL4, iL5, iL6, iL7, iL8, iL9, iL10, iL15, iL16, iL31, iL32, iL40, iL42, iL45, iL48, iL57, iL59, iL63, iL64, iL65, iL120, iL126, iL455, iL520, iL9999, iL99999, iN2, iN8, iN64, iN65, iN120, iN130, iN520, bZ_0]
        refine ⟨fun c2 => by omega, fun _ => ⟨fun c3 => q_b hQ ?_, fun c3 => ?_⟩⟩
        · rw [bZ_f c3, bZ_f]
          rw [men_ne hX.ok h2]
          intro z
          exact c3 (okS_le _ (d + 1) j (by rw [hj]; exact z))
        · refine s_md_exists2 hG hX (by omega) (by omega) (by omega) (by omega) ?_
          refine v_md_exists_18 hG ?_
          simp (disch := omega) only [iI_add, iI_sub, iI_mul, iI_neg, iI_lt, iI_le, iI_eq, iI_cl, vp_iI, Classical.not_not, iLn1000000005, iLn1000000004, iLn1000000003, iLn1000000002, iLn1000000001, iLn99999, iLn9999, iLn2, iLn1, iL0, iL1, iL2, iL3, iL4, iL5, iL6, iL7, iL8, iL9, iL10, iL15, iL16, iL31, iL32, iL40, iL42, iL45, iL48, iL57, iL59, iL63, iL64, iL65, iL120, iL126, iL455, iL520, iL9999, iL99999, iN2, iN8, iN64, iN65, iN120, iN130, iN520]
          have hI := ih (j + 1) (by omega)
          have e : bZ (okS (fun j => sec n f m ((i : Int) + j)) (j + 1) = true) = bZ (sec n f m ((i : Int) + j) ≠ (-1000000001)) := by
            unfold bZ okS
            simp only [c3, Bool.true_and, decide_eq_true_eq]
          rw [e] at hI
          exact hI
    have hI := key m 0 (by omega)
    have e : bZ (okS (fun j => sec n f m ((i : Int) + j)) 0 = true) = 1 := bZ_t rfl
    rw [e] at hI
    exact hI
theorem s_md_differenceAt (hG : qGood Ls xs P) {o : Int} {m : Nat} {i : Nat} (hX : mX M n f) (h1 : 2 ≤ o) (h1' : o ≤ 4) (h2 : m ≤ 31) (hi : i < n) (he : dif n f o m i ≠ (-1000000001)) (hQ : Q (some (.int (iI (dif n f o m i)))) M) : P 122 0 [(0, .ref 36), (1, .int (iI o)), (2, .int (iI m)), (3, .int (iI i))] [] M Q := by
  have hn := hX.2.1
  have hd : dif n f o m i = (if o = 2 then sec n f m i else if o = 3 then thr n f m i else men n f m i) := by
    unfold dif
    rw [if_pos (by omega)]
  rw [hd] at hQ he
  refine v_md_differenceAt_0 hG ?_
  simp (disch := omega) only [iI_add, iI_sub, iI_mul, iI_neg, iI_lt, iI_le, iI_eq, iI_cl, vp_iI, Classical.not_not, iLn1000000005, iLn1000000004, iLn1000000003, iLn1000000002, iLn1000000001, iLn99999, iLn9999, iLn2, iLn1, iL0, iL1, iL2, iL3, iL4, iL5, iL6, iL7, iL8, iL9, iL10, iL15, iL16, iL31, iL32, iL40, iL42, iL45, iL48, iL57, iL59, iL63, iL64, iL65, iL120, iL126, iL455, iL520, iL9999, iL99999, iN2, iN8, iN64, iN65, iN120, iN130, iN520]
  refine ⟨fun c => ⟨fun c2 => ?_, fun c2 => ?_⟩, fun c => ?_⟩
  · rw [if_neg c, if_neg c2] at hQ he
    have ho := (men_ne hX.ok h2 _).mp he
    have key : ∀ (d j : Nat), j + d = m → P 122 49 [(0, .ref 36), (2, .int (iI m)), (3, .int (iI i)), (4, .int (iI (smS (fun j => sec n f m ((i : Int) + j)) j))), (5, .int (iI j))] [] M Q := by
      intro d
      induction d with
      | zero =>
        intro j hj
        have e : j = m := by omega
        subst e
        refine v_md_differenceAt_49 hG ?_
        simp (disch := omega) only [iI_add, iI_sub, iI_mul, iI_neg, iI_lt, iI_le, iI_eq, iI_cl, vp_iI, Classical.not_not, iLn1000000005, iLn1000000004, iLn1000000003, iLn1000000002, iLn1000000001, iLn99999, iLn9999, iLn2, iLn1, iL0, iL1, iL2, iL3, iL4, iL5, iL6, iL7, iL8, iL9, iL10, iL15, iL16, iL31, iL32, iL40, iL42, iL45, iL48, iL57, iL59, iL63, iL64, iL65, iL120, iL126, iL455, iL520, iL9999, iL99999, iN2, iN8, iN64, iN65, iN120, iN130, iN520]
        refine ⟨fun _ => ?_, fun c3 => by omega⟩
        unfold men at hQ
        rw [if_pos ho] at hQ
        exact hQ
      | succ d ih =>
        intro j hj
        refine v_md_differenceAt_49 hG ?_
        simp (disch := omega) only [iI_add, iI_sub, iI_mul, iI_neg, iI_lt, iI_le, iI_eq, iI_cl, vp_iI, Classical.not_not, iLn1000000005, iLn1000000004, iLn1000000003, iLn1000000002, iLn1000000001, iLn99999, iLn9999, iLn2, iLn1, iL0, iL1, iL2, iL3, iL4, iL5, iL6, iL7, iL8, iL9, iL10, iL15, iL16, iL31, iL32, iL40, iL42, iL45, iL48, iL57, iL59, iL63, iL64, iL65, iL120, iL126, iL455, iL520, iL9999, iL99999, iN2, iN8, iN64, iN65, iN120, iN130, iN520]
        refine ⟨fun c3 => by omega, fun _ => ?_⟩
        refine s_md_second hG hX (by omega) (by omega) (by omega) (by omega) (okS_at _ m j ho (by omega)) ?_
        refine v_md_differenceAt_59 hG ?_
        simp (disch := omega) only [iI_add, iI_sub, iI_mul, iI_neg, iI_lt, iI_le, iI_eq, iI_cl, vp_iI, Classical.not_not, iLn1000000005, iLn1000000004, iLn1000000003, iLn1000000002, iLn1000000001, iLn99999, iLn9999, iLn2, iLn1, iL0, iL1, iL2, iL3, iL4, iL5, iL6, iL7, iL8, iL9, iL10, iL15, iL16, iL31, iL32, iL40, iL42, iL45, iL48, iL57, iL59, iL63, iL64, iL65, iL120, iL126, iL455, iL520, iL9999, iL99999, iN2, iN8, iN64, iN65, iN120, iN130, iN520]
        exact ih (j + 1) (by omega)
    exact key m 0 (by omega)
  · rw [if_neg c, if_pos c2] at hQ he
    have h3 := (thr_ne hX.ok).mp he
    have h4 := (sec_r h3.1).1
    have l1 := vl_lt h4.1
    have l2 := vl_lt h4.2.1
    have l3 := vl_lt h4.2.2
    have l4 := vl_lt h3.2
    rw [vl_at hX l1.1 l1.2, vl_at hX l2.1 l2.2, vl_at hX l3.1 l3.2, vl_at hX l4.1 l4.2]
    simp (disch := omega) only [iI_add, iI_sub, iI_mul, iI_neg, iI_lt, iI_le, iI_eq, iI_cl, vp_iI, Classical.not_not, iLn1000000005, iLn1000000004, iLn1000000003, iLn1000000002, iLn1000000001, iLn99999, iLn9999, iLn2, iLn1, iL0, iL1, iL2, iL3, iL4, iL5, iL6, iL7, iL8, iL9, iL10, iL15, iL16, iL31, iL32, iL40, iL42, iL45, iL48, iL57, iL59, iL63, iL64, iL65, iL120, iL126, iL455, iL520, iL9999, iL99999, iN2, iN8, iN64, iN65, iN120, iN130, iN520]
    unfold thr at hQ
    rw [if_neg (by omega)] at hQ
    exact ⟨by omega, by omega, by omega, by omega, hQ⟩
  · rw [if_pos c] at hQ he
    refine s_md_second hG hX (by omega) (by omega) (by omega) (by omega) he ?_
    exact v_md_differenceAt_7 hG hQ
theorem s_md_countOf (hG : qGood Ls xs P) {o : Int} {m : Nat} (hX : mX M n f) (h1 : 2 ≤ o) (h1' : o ≤ 4) (h2 : m ≤ 31) (hQ : Q (some (.int (iI (cnd n f o m)))) M) : P 125 0 [(0, .ref 36), (1, .int (iI o)), (2, .int (iI m))] [] M Q := by
  have hn := hX.2.1
  unfold cnd at hQ
  refine v_md_countOf_0 hG ?_
  have key : ∀ (d j : Nat), j + d = n → P 125 4 [(0, .ref 36), (1, .int (iI o)), (2, .int (iI m)), (3, .int (iI (cz (fun j => decide (dif n f o m j ≠ (-1000000001))) j))), (4, .int (iI j))] [] M Q := by
    intro d
    induction d with
    | zero =>
      intro j hj
      have e : j = n := by omega
      subst e
      refine v_md_countOf_4 hG ?_
      refine s_md_many hG hX ?_
      refine v_md_countOf_7 hG ?_
      simp (disch := omega) only [iI_add, iI_sub, iI_mul, iI_neg, iI_lt, iI_le, iI_eq, iI_cl, vp_iI, Classical.not_not, iLn1000000005, iLn1000000004, iLn1000000003, iLn1000000002, iLn1000000001, iLn99999, iLn9999, iLn2, iLn1, iL0, iL1, iL2, iL3, iL4, iL5, iL6, iL7, iL8, iL9, iL10, iL15, iL16, iL31, iL32, iL40, iL42, iL45, iL48, iL57, iL59, iL63, iL64, iL65, iL120, iL126, iL455, iL520, iL9999, iL99999, iN2, iN8, iN64, iN65, iN120, iN130, iN520]
      exact ⟨fun _ => hQ, fun c => by omega⟩
    | succ d ih =>
      intro j hj
      have hb := cz_in (fun j => decide (dif n f o m j ≠ (-1000000001))) j
      refine v_md_countOf_4 hG ?_
      refine s_md_many hG hX ?_
      refine v_md_countOf_7 hG ?_
      simp (disch := omega) only [iI_add, iI_sub, iI_mul, iI_neg, iI_lt, iI_le, iI_eq, iI_cl, vp_iI, Classical.not_not, iLn1000000005, iLn1000000004, iLn1000000003, iLn1000000002, iLn1000000001, iLn99999, iLn9999, iLn2, iLn1, iL0, iL1, iL2, iL3, iL4, iL5, iL6, iL7, iL8, iL9, iL10, iL15, iL16, iL31, iL32, iL40, iL42, iL45, iL48, iL57, iL59, iL63, iL64, iL65, iL120, iL126, iL455, iL520, iL9999, iL99999, iN2, iN8, iN64, iN65, iN120, iN130, iN520]
      refine ⟨fun c => by omega, fun _ => ?_⟩
      refine s_md_exists hG hX h1 h1' h2 (by omega) ?_
      refine v_md_countOf_14 hG ?_
      have hz := bZ_in (dif n f o m j ≠ (-1000000001))
      simp (disch := omega) only [iI_add, iI_sub, iI_mul, iI_neg, iI_lt, iI_le, iI_eq, iI_cl, vp_iI, Classical.not_not, iLn1000000005, iLn1000000004, iLn1000000003, iLn1000000002, iLn1000000001, iLn99999, iLn9999, iLn2, iLn1, iL0, iL1, iL2, iL3, iL4, iL5, iL6, iL7, iL8, iL9, iL10, iL15, iL16, iL31, iL32, iL40, iL42, iL45, iL48, iL57, iL59, iL63, iL64, iL65, iL120, iL126, iL455, iL520, iL9999, iL99999, iN2, iN8, iN64, iN65, iN120, iN130, iN520, bZ_0]
      have hI := ih (j + 1) (by omega)
      unfold cz at hI
      refine ⟨fun c => ?_, fun c => ?_⟩
      · rw [if_neg (by simpa using c)] at hI
        exact hI
      · rw [if_pos (by simpa using c)] at hI
        exact hI
  simp (disch := omega) only [iI_add, iI_sub, iI_mul, iI_neg, iI_lt, iI_le, iI_eq, iI_cl, vp_iI, Classical.not_not, iLn1000000005, iLn1000000004, iLn1000000003, iLn1000000002, iLn1000000001, iLn99999, iLn9999, iLn2, iLn1, iL0, iL1, iL2, iL3, iL4, iL5, iL6, iL7, iL8, iL9, iL10, iL15, iL16, iL31, iL32, iL40, iL42, iL45, iL48, iL57, iL59, iL63, iL64, iL65, iL120, iL126, iL455, iL520, iL9999, iL99999, iN2, iN8, iN64, iN65, iN120, iN130, iN520]
  exact key n 0 (by omega)
theorem s_md_present (hG : qGood Ls xs P) (hX : mX M n f) (hQ : Q (some (.int (iI (cz (fun j => decide (f j ≠ (-1000000001))) n)))) M) : P 114 0 [(0, .ref 36)] [] M Q := by
  have hn := hX.2.1
  refine v_md_present_0 hG ?_
  have key : ∀ (d j : Nat), j + d = n → P 114 4 [(0, .ref 36), (1, .int (iI (cz (fun j => decide (f j ≠ (-1000000001))) j))), (2, .int (iI j))] [] M Q := by
    intro d
    induction d with
    | zero =>
      intro j hj
      have e : j = n := by omega
      subst e
      refine v_md_present_4 hG ?_
      refine s_md_many hG hX ?_
      refine v_md_present_7 hG ?_
      simp (disch := omega) only [iI_add, iI_sub, iI_mul, iI_neg, iI_lt, iI_le, iI_eq, iI_cl, vp_iI, Classical.not_not, iLn1000000005, iLn1000000004, iLn1000000003, iLn1000000002, iLn1000000001, iLn99999, iLn9999, iLn2, iLn1, iL0, iL1, iL2, iL3, iL4, iL5, iL6, iL7, iL8, iL9, iL10, iL15, iL16, iL31, iL32, iL40, iL42, iL45, iL48, iL57, iL59, iL63, iL64, iL65, iL120, iL126, iL455, iL520, iL9999, iL99999, iN2, iN8, iN64, iN65, iN120, iN130, iN520]
      exact ⟨fun _ => hQ, fun c => by omega⟩
    | succ d ih =>
      intro j hj
      have hb := cz_in (fun j => decide (f j ≠ (-1000000001))) j
      refine v_md_present_4 hG ?_
      refine s_md_many hG hX ?_
      refine v_md_present_7 hG ?_
      simp (disch := omega) only [iI_add, iI_sub, iI_mul, iI_neg, iI_lt, iI_le, iI_eq, iI_cl, vp_iI, Classical.not_not, iLn1000000005, iLn1000000004, iLn1000000003, iLn1000000002, iLn1000000001, iLn99999, iLn9999, iLn2, iLn1, iL0, iL1, iL2, iL3, iL4, iL5, iL6, iL7, iL8, iL9, iL10, iL15, iL16, iL31, iL32, iL40, iL42, iL45, iL48, iL57, iL59, iL63, iL64, iL65, iL120, iL126, iL455, iL520, iL9999, iL99999, iN2, iN8, iN64, iN65, iN120, iN130, iN520]
      refine ⟨fun c => by omega, fun _ => ?_⟩
      refine s_md_isThere hG hX (by omega) (by omega) ?_
      rw [vl_nat (by omega)]
      refine v_md_present_12 hG ?_
      have hz := bZ_in (f j ≠ (-1000000001))
      simp (disch := omega) only [iI_add, iI_sub, iI_mul, iI_neg, iI_lt, iI_le, iI_eq, iI_cl, vp_iI, Classical.not_not, iLn1000000005, iLn1000000004, iLn1000000003, iLn1000000002, iLn1000000001, iLn99999, iLn9999, iLn2, iLn1, iL0, iL1, iL2, iL3, iL4, iL5, iL6, iL7, iL8, iL9, iL10, iL15, iL16, iL31, iL32, iL40, iL42, iL45, iL48, iL57, iL59, iL63, iL64, iL65, iL120, iL126, iL455, iL520, iL9999, iL99999, iN2, iN8, iN64, iN65, iN120, iN130, iN520, bZ_0]
      have hI := ih (j + 1) (by omega)
      unfold cz at hI
      refine ⟨fun c => ?_, fun c => ?_⟩
      · rw [if_neg (by simpa using c)] at hI
        exact hI
      · rw [if_pos (by simpa using c)] at hI
        exact hI
  simp (disch := omega) only [iI_add, iI_sub, iI_mul, iI_neg, iI_lt, iI_le, iI_eq, iI_cl, vp_iI, Classical.not_not, iLn1000000005, iLn1000000004, iLn1000000003, iLn1000000002, iLn1000000001, iLn99999, iLn9999, iLn2, iLn1, iL0, iL1, iL2, iL3, iL4, iL5, iL6, iL7, iL8, iL9, iL10, iL15, iL16, iL31, iL32, iL40, iL42, iL45, iL48, iL57, iL59, iL63, iL64, iL65, iL120, iL126, iL455, iL520, iL9999, iL99999, iN2, iN8, iN64, iN65, iN120, iN130, iN520]
  exact key n 0 (by omega)
theorem s_md_widest (hG : qGood Ls xs P) (hX : mX M n f) (hQ : Q (some (.int (iI (wdz n f 31)))) M) : P 116 0 [(0, .ref 36)] [] M Q := by
  have hn := hX.2.1
  refine v_md_widest_0 hG ?_
  have key : ∀ (d j : Nat), j + d = 31 → P 116 4 [(0, .ref 36), (1, .int (iI (wdz n f j))), (2, .int (iI (j + 1 : Nat)))] [] M Q := by
    intro d
    induction d with
    | zero =>
      intro j hj
      have e : j = 31 := by omega
      subst e
      refine v_md_widest_4 hG ?_
      simp (disch := omega) only [iI_add, iI_sub, iI_mul, iI_neg, iI_lt, iI_le, iI_eq, iI_cl, vp_iI, Classical.not_not, iLn1000000005, iLn1000000004, iLn1000000003, iLn1000000002, iLn1000000001, iLn99999, iLn9999, iLn2, iLn1, iL0, iL1, iL2, iL3, iL4, iL5, iL6, iL7, iL8, iL9, iL10, iL15, iL16, iL31, iL32, iL40, iL42, iL45, iL48, iL57, iL59, iL63, iL64, iL65, iL120, iL126, iL455, iL520, iL9999, iL99999, iN2, iN8, iN64, iN65, iN120, iN130, iN520]
      exact ⟨fun _ => hQ, fun c => by omega⟩
    | succ d ih =>
      intro j hj
      refine v_md_widest_4 hG ?_
      simp (disch := omega) only [iI_add, iI_sub, iI_mul, iI_neg, iI_lt, iI_le, iI_eq, iI_cl, vp_iI, Classical.not_not, iLn1000000005, iLn1000000004, iLn1000000003, iLn1000000002, iLn1000000001, iLn99999, iLn9999, iLn2, iLn1, iL0, iL1, iL2, iL3, iL4, iL5, iL6, iL7, iL8, iL9, iL10, iL15, iL16, iL31, iL32, iL40, iL42, iL45, iL48, iL57, iL59, iL63, iL64, iL65, iL120, iL126, iL455, iL520, iL9999, iL99999, iN2, iN8, iN64, iN65, iN120, iN130, iN520]
      refine ⟨fun c => by omega, fun _ => ?_⟩
      refine s_md_countOf hG hX (by omega) (by omega) (by omega) ?_
      refine v_md_widest_11 hG ?_
      have hc := cz_in (fun i => decide (dif n f 2 (j + 1) i ≠ (-1000000001))) n
      have hc2 : cnd n f 2 (j + 1) = cz (fun i => decide (dif n f 2 (j + 1) i ≠ (-1000000001))) n := rfl
      simp (disch := omega) only [iI_add, iI_sub, iI_mul, iI_neg, iI_lt, iI_le, iI_eq, iI_cl, vp_iI, Classical.not_not, iLn1000000005, iLn1000000004, iLn1000000003, iLn1000000002, iLn1000000001, iLn99999, iLn9999, iLn2, iLn1, iL0, iL1, iL2, iL3, iL4, iL5, iL6, iL7, iL8, iL9, iL10, iL15, iL16, iL31, iL32, iL40, iL42, iL45, iL48, iL57, iL59, iL63, iL64, iL65, iL120, iL126, iL455, iL520, iL9999, iL99999, iN2, iN8, iN64, iN65, iN120, iN130, iN520]
      have hI := ih (j + 1) (by omega)
      unfold wdz at hI
      refine ⟨fun c => ?_, fun c => ?_⟩
      · rw [if_neg (by omega)] at hI
        exact hI
      · rw [if_pos (by omega)] at hI
        exact hI
  simp (disch := omega) only [iI_add, iI_sub, iI_mul, iI_neg, iI_lt, iI_le, iI_eq, iI_cl, vp_iI, Classical.not_not, iLn1000000005, iLn1000000004, iLn1000000003, iLn1000000002, iLn1000000001, iLn99999, iLn9999, iLn2, iLn1, iL0, iL1, iL2, iL3, iL4, iL5, iL6, iL7, iL8, iL9, iL10, iL15, iL16, iL31, iL32, iL40, iL42, iL45, iL48, iL57, iL59, iL63, iL64, iL65, iL120, iL126, iL455, iL520, iL9999, iL99999, iN2, iN8, iN64, iN65, iN120, iN130, iN520]
  exact key 31 0 (by omega)
theorem s_md_endOfGap (hG : qGood Ls xs P) {j : Nat} (hX : mX M n f) (hj : j ≤ n) (hQ : Q (some (.int (iI (gpe f (n - j) j)))) M) : P 108 0 [(0, .ref 36), (1, .int (iI j))] [] M Q := by
  have hn := hX.2.1
  refine v_md_endOfGap_0 hG ?_
  have key : ∀ (d i : Nat), i + d = n → gpe f d i = gpe f (n - j) j → P 108 2 [(0, .ref 36), (2, .int (iI i))] [] M Q := by
    intro d
    induction d with
    | zero =>
      intro i hi he
      have e : i = n := by omega
      subst e
      refine v_md_endOfGap_2 hG ?_
      refine s_md_isReading hG hX (by omega) (by omega) ?_
      rw [bZ_f (by omega)]
      refine v_md_endOfGap_5 hG ?_
      simp (disch := omega) only [iI_add, iI_sub, iI_mul, iI_neg, iI_lt, iI_le, iI_eq, iI_cl, vp_iI, Classical.not_not, iLn1000000005, iLn1000000004, iLn1000000003, iLn1000000002, iLn1000000001, iLn99999, iLn9999, iLn2, iLn1, iL0, iL1, iL2, iL3, iL4, iL5, iL6, iL7, iL8, iL9, iL10, iL15, iL16, iL31, iL32, iL40, iL42, iL45, iL48, iL57, iL59, iL63, iL64, iL65, iL120, iL126, iL455, iL520, iL9999, iL99999, iN2, iN8, iN64, iN65, iN120, iN130, iN520]
      refine ⟨fun _ => ?_, fun c => absurd trivial c⟩
      rw [← he] at hQ
      exact hQ
    | succ d ih =>
      intro i hi he
      have hv := hX.ok i (by omega)
      unfold okv at hv
      refine v_md_endOfGap_2 hG ?_
      refine s_md_isReading hG hX (by omega) (by omega) ?_
      rw [bZ_t (by omega)]
      refine v_md_endOfGap_5 hG ?_
      simp (disch := omega) only [iI_add, iI_sub, iI_mul, iI_neg, iI_lt, iI_le, iI_eq, iI_cl, vp_iI, Classical.not_not, iLn1000000005, iLn1000000004, iLn1000000003, iLn1000000002, iLn1000000001, iLn99999, iLn9999, iLn2, iLn1, iL0, iL1, iL2, iL3, iL4, iL5, iL6, iL7, iL8, iL9, iL10, iL15, iL16, iL31, iL32, iL40, iL42, iL45, iL48, iL57, iL59, iL63, iL64, iL65, iL120, iL126, iL455, iL520, iL9999, iL99999, iN2, iN8, iN64, iN65, iN120, iN130, iN520]
      rw [show (i : Int).toNat = i by omega, (hX.2.2 i (by omega)).1]
      simp (disch := omega) only [iI_add, iI_sub, iI_mul, iI_neg, iI_lt, iI_le, iI_eq, iI_cl, vp_iI, Classical.not_not, iLn1000000005, iLn1000000004, iLn1000000003, iLn1000000002, iLn1000000001, iLn99999, iLn9999, iLn2, iLn1, iL0, iL1, iL2, iL3, iL4, iL5, iL6, iL7, iL8, iL9, iL10, iL15, iL16, iL31, iL32, iL40, iL42, iL45, iL48, iL57, iL59, iL63, iL64, iL65, iL120, iL126, iL455, iL520, iL9999, iL99999, iN2, iN8, iN64, iN65, iN120, iN130, iN520]
      rw [gpe_s] at he
      refine ⟨fun c => by omega, fun _ => ⟨by omega, fun c => ?_, fun c => ?_⟩⟩
      · rw [if_neg c] at he
        rw [← he] at hQ
        exact hQ
      · rw [if_pos c] at he
        exact ih (i + 1) (by omega) he
  exact key (n - j) j (by omega) rfl
theorem s_md_beginsGap (hG : qGood Ls xs P) {j : Nat} (hX : mX M n f) (hj : j < n) (hQ : Q (some (.int (iI (bZ (stg f j = true))))) M) : P 109 0 [(0, .ref 36), (1, .int (iI j))] [] M Q := by
  have hn := hX.2.1
  have hv := hX.ok j (by omega)
  have hv2 := hX.ok (j - 1) (by omega)
  unfold okv at hv hv2
  refine v_md_beginsGap_0 hG ?_
  simp (disch := omega) only [iI_add, iI_sub, iI_mul, iI_neg, iI_lt, iI_le, iI_eq, iI_cl, vp_iI, Classical.not_not, iLn1000000005, iLn1000000004, iLn1000000003, iLn1000000002, iLn1000000001, iLn99999, iLn9999, iLn2, iLn1, iL0, iL1, iL2, iL3, iL4, iL5, iL6, iL7, iL8, iL9, iL10, iL15, iL16, iL31, iL32, iL40, iL42, iL45, iL48, iL57, iL59, iL63, iL64, iL65, iL120, iL126, iL455, iL520, iL9999, iL99999, iN2, iN8, iN64, iN65, iN120, iN130, iN520]
  rw [show (j : Int).toNat = j by omega, (hX.2.2 j (by omega)).1]
  simp (disch := omega) only [iI_add, iI_sub, iI_mul, iI_neg, iI_lt, iI_le, iI_eq, iI_cl, vp_iI, Classical.not_not, iLn1000000005, iLn1000000004, iLn1000000003, iLn1000000002, iLn1000000001, iLn99999, iLn9999, iLn2, iLn1, iL0, iL1, iL2, iL3, iL4, iL5, iL6, iL7, iL8, iL9, iL10, iL15, iL16, iL31, iL32, iL40, iL42, iL45, iL48, iL57, iL59, iL63, iL64, iL65, iL120, iL126, iL455, iL520, iL9999, iL99999, iN2, iN8, iN64, iN65, iN120, iN130, iN520]
  refine ⟨by omega, fun c => q_b hQ (bZ_f ?_), fun c => ⟨fun c2 => q_b hQ (bZ_t ?_), fun c2 => ⟨by omega, ?_⟩⟩⟩
  · simp [stg, c]
  · have e : j = 0 := by omega
    subst e
    simp [stg, c]
  · rw [show ((j : Int) - 1).toNat = j - 1 by omega, (hX.2.2 (j - 1) (by omega)).1]
    simp (disch := omega) only [iI_add, iI_sub, iI_mul, iI_neg, iI_lt, iI_le, iI_eq, iI_cl, vp_iI, Classical.not_not, iLn1000000005, iLn1000000004, iLn1000000003, iLn1000000002, iLn1000000001, iLn99999, iLn9999, iLn2, iLn1, iL0, iL1, iL2, iL3, iL4, iL5, iL6, iL7, iL8, iL9, iL10, iL15, iL16, iL31, iL32, iL40, iL42, iL45, iL48, iL57, iL59, iL63, iL64, iL65, iL120, iL126, iL455, iL520, iL9999, iL99999, iN2, iN8, iN64, iN65, iN120, iN130, iN520]
    refine ⟨fun c3 => q_b hQ (bZ_f ?_), fun c3 => q_b hQ (bZ_t ?_)⟩
    · have : j ≠ 0 := by omega
      simp [stg, c, c3, this]
    · simp [stg, c, c3]
theorem s_md_gaps (hG : qGood Ls xs P) {w : Int} (hX : mX M n f) (hw : w = 0 ∨ w = 1) (hQ : Q (some (.int (iI (if w = 0 then cz (stg f) n else lgz n f n)))) M) : P 113 0 [(0, .ref 36), (1, .int (iI w))] [] M Q := by
  have hn := hX.2.1
  refine v_md_gaps_0 hG ?_
  have key : ∀ (d j : Nat), j + d = n → P 113 6 [(0, .ref 36), (1, .int (iI w)), (2, .int (iI (cz (stg f) j))), (3, .int (iI (lgz n f j))), (4, .int (iI j))] [] M Q := by
    intro d
    induction d with
    | zero =>
      intro j hj
      have e : j = n := by omega
      subst e
      refine v_md_gaps_6 hG ?_
      refine s_md_many hG hX ?_
      refine v_md_gaps_9 hG ?_
      simp (disch := omega) only [iI_add, iI_sub, iI_mul, iI_neg, iI_lt, iI_le, iI_eq, iI_cl, vp_iI, Classical.not_not, iLn1000000005, iLn1000000004, iLn1000000003, iLn1000000002, iLn1000000001, iLn99999, iLn9999, iLn2, iLn1, iL0, iL1, iL2, iL3, iL4, iL5, iL6, iL7, iL8, iL9, iL10, iL15, iL16, iL31, iL32, iL40, iL42, iL45, iL48, iL57, iL59, iL63, iL64, iL65, iL120, iL126, iL455, iL520, iL9999, iL99999, iN2, iN8, iN64, iN65, iN120, iN130, iN520]
      refine ⟨fun _ => ⟨fun c => ?_, fun c => ?_⟩, fun c => by omega⟩
      · rw [if_pos c] at hQ
        exact hQ
      · rw [if_neg c] at hQ
        exact hQ
    | succ d ih =>
      intro j hj
      have hb := cz_in (stg f) j
      have hb2 := lgz_in (n := n) (f := f) j (by omega)
      have hg := gpe_in f (n - j) j
      refine v_md_gaps_6 hG ?_
      refine s_md_many hG hX ?_
      refine v_md_gaps_9 hG ?_
      simp (disch := omega) only [iI_add, iI_sub, iI_mul, iI_neg, iI_lt, iI_le, iI_eq, iI_cl, vp_iI, Classical.not_not, iLn1000000005, iLn1000000004, iLn1000000003, iLn1000000002, iLn1000000001, iLn99999, iLn9999, iLn2, iLn1, iL0, iL1, iL2, iL3, iL4, iL5, iL6, iL7, iL8, iL9, iL10, iL15, iL16, iL31, iL32, iL40, iL42, iL45, iL48, iL57, iL59, iL63, iL64, iL65, iL120, iL126, iL455, iL520, iL9999, iL99999, iN2, iN8, iN64, iN65, iN120, iN130, iN520]
      refine ⟨fun c => by omega, fun _ => ?_⟩
      refine s_md_beginsGap hG hX (by omega) ?_
      refine v_md_gaps_13 hG ?_
      have hz := bZ_in (stg f j = true)
      simp (disch := omega) only [iI_add, iI_sub, iI_mul, iI_neg, iI_lt, iI_le, iI_eq, iI_cl, vp_iI, Classical.not_not, iLn1000000005, iLn1000000004, iLn1000000003, iLn1000000002, iLn1000000001, iLn99999, iLn9999, iLn2, iLn1, iL0, iL1, iL2, iL3, iL4, iL5, iL6, iL7, iL8, iL9, iL10, iL15, iL16, iL31, iL32, iL40, iL42, iL45, iL48, iL57, iL59, iL63, iL64, iL65, iL120, iL126, iL455, iL520, iL9999, iL99999, iN2, iN8, iN64, iN65, iN120, iN130, iN520, bZ_0]
      have hI := ih (j + 1) (by omega)
      unfold cz lgz at hI
      refine ⟨fun c => ?_, fun c => ?_⟩
      · rw [if_neg c, if_neg c, Int.add_zero] at hI
        exact hI
      · rw [if_pos c, if_pos c] at hI
        refine s_md_endOfGap hG hX (by omega) ?_
        refine v_md_gaps_18 hG ?_
        simp (disch := omega) only [iI_add, iI_sub, iI_mul, iI_neg, iI_lt, iI_le, iI_eq, iI_cl, vp_iI, Classical.not_not, iLn1000000005, iLn1000000004, iLn1000000003, iLn1000000002, iLn1000000001, iLn99999, iLn9999, iLn2, iLn1, iL0, iL1, iL2, iL3, iL4, iL5, iL6, iL7, iL8, iL9, iL10, iL15, iL16, iL31, iL32, iL40, iL42, iL45, iL48, iL57, iL59, iL63, iL64, iL65, iL120, iL126, iL455, iL520, iL9999, iL99999, iN2, iN8, iN64, iN65, iN120, iN130, iN520]
        refine ⟨fun c2 => ?_, fun c2 => ?_⟩
        · rw [if_neg (by omega)] at hI
          exact hI
        · rw [if_pos (by omega)] at hI
          refine s_md_endOfGap hG hX (by omega) ?_
          refine v_md_gaps_25 hG ?_
          simp (disch := omega) only [iI_add, iI_sub, iI_mul, iI_neg, iI_lt, iI_le, iI_eq, iI_cl, vp_iI, Classical.not_not, iLn1000000005, iLn1000000004, iLn1000000003, iLn1000000002, iLn1000000001, iLn99999, iLn9999, iLn2, iLn1, iL0, iL1, iL2, iL3, iL4, iL5, iL6, iL7, iL8, iL9, iL10, iL15, iL16, iL31, iL32, iL40, iL42, iL45, iL48, iL57, iL59, iL63, iL64, iL65, iL120, iL126, iL455, iL520, iL9999, iL99999, iN2, iN8, iN64, iN65, iN120, iN130, iN520]
          exact hI
  simp (disch := omega) only [iI_add, iI_sub, iI_mul, iI_neg, iI_lt, iI_le, iI_eq, iI_cl, vp_iI, Classical.not_not, iLn1000000005, iLn1000000004, iLn1000000003, iLn1000000002, iLn1000000001, iLn99999, iLn9999, iLn2, iLn1, iL0, iL1, iL2, iL3, iL4, iL5, iL6, iL7, iL8, iL9, iL10, iL15, iL16, iL31, iL32, iL40, iL42, iL45, iL48, iL57, iL59, iL63, iL64, iL65, iL120, iL126, iL455, iL520, iL9999, iL99999, iN2, iN8, iN64, iN65, iN120, iN130, iN520]
  exact key n 0 (by omega)
theorem s_md_end_g (hG : qGood Ls xs P) {w : Int} (acc : Nat → Int) (h0 : acc 0 = (-1000000001)) (hb : ∀ j, j ≤ n → okv (acc j)) (hs : ∀ j, j < n → acc (j + 1) = if f j ≠ (-1000000001) ∧ (acc j = (-1000000001) ∨ (w = 0 ∧ acc j < f j) ∨ (w ≠ 0 ∧ f j < acc j)) then f j else acc j) (hX : mX M n f) (hw : w = 0 ∨ w = 1) (hQ : Q (some (.int (iI (acc n)))) M) : P 115 0 [(0, .ref 36), (1, .int (iI w))] [] M Q := by
  have hn := hX.2.1
  refine v_md_end_0 hG ?_
  have key : ∀ (d j : Nat), j + d = n → P 115 4 [(0, .ref 36), (1, .int (iI w)), (2, .int (iI (acc j))), (3, .int (iI j))] [] M Q := by
    intro d
    induction d with
    | zero =>
      intro j hj
      have hb1 := hb j (by omega)
      unfold okv at hb1
      have e : j = n := by omega
      subst e
      refine v_md_end_4 hG ?_
      refine s_md_many hG hX ?_
      refine v_md_end_7 hG ?_
      simp (disch := omega) only [iI_add, iI_sub, iI_mul, iI_neg, iI_lt, iI_le, iI_eq, iI_cl, vp_iI, Classical.not_not, iLn1000000005, iLn1000000004, iLn1000000003, iLn1000000002, iLn1000000001, iLn99999, iLn9999, iLn2, iLn1, iL0, iL1, iL2, iL3, iL4, iL5, iL6, iL7, iL8, iL9, iL10, iL15, iL16, iL31, iL32, iL40, iL42, iL45, iL48, iL57, iL59, iL63, iL64, iL65, iL120, iL126, iL455, iL520, iL9999, iL99999, iN2, iN8, iN64, iN65, iN120, iN130, iN520]
      exact ⟨fun _ => hQ, fun c => by omega⟩
    | succ d ih =>
      intro j hj
      have hb1 := hb j (by omega)
      have hv := hX.ok j (by omega)
      unfold okv at hb1 hv
      have hI := ih (j + 1) (by omega)
      rw [hs j (by omega)] at hI
      refine v_md_end_4 hG ?_
      refine s_md_many hG hX ?_
      refine v_md_end_7 hG ?_
      simp (disch := omega) only [iI_add, iI_sub, iI_mul, iI_neg, iI_lt, iI_le, iI_eq, iI_cl, vp_iI, Classical.not_not, iLn1000000005, iLn1000000004, iLn1000000003, iLn1000000002, iLn1000000001, iLn99999, iLn9999, iLn2, iLn1, iL0, iL1, iL2, iL3, iL4, iL5, iL6, iL7, iL8, iL9, iL10, iL15, iL16, iL31, iL32, iL40, iL42, iL45, iL48, iL57, iL59, iL63, iL64, iL65, iL120, iL126, iL455, iL520, iL9999, iL99999, iN2, iN8, iN64, iN65, iN120, iN130, iN520]
      refine ⟨fun c => by omega, fun _ => ?_⟩
      refine s_md_isThere hG hX (by omega) (by omega) ?_
      rw [vl_nat (by omega)]
      refine v_md_end_11 hG ?_
      have hz := bZ_in (f j ≠ (-1000000001))
      simp (disch := omega) only [iI_add, iI_sub, iI_mul, iI_neg, iI_lt, iI_le, iI_eq, iI_cl, vp_iI, Classical.not_not, iLn1000000005, iLn1000000004, iLn1000000003, iLn1000000002, iLn1000000001, iLn99999, iLn9999, iLn2, iLn1, iL0, iL1, iL2, iL3, iL4, iL5, iL6, iL7, iL8, iL9, iL10, iL15, iL16, iL31, iL32, iL40, iL42, iL45, iL48, iL57, iL59, iL63, iL64, iL65, iL120, iL126, iL455, iL520, iL9999, iL99999, iN2, iN8, iN64, iN65, iN120, iN130, iN520, bZ_0]
      rw [show (j : Int).toNat = j by omega, (hX.2.2 j (by omega)).1]
      simp (disch := omega) only [iI_add, iI_sub, iI_mul, iI_neg, iI_lt, iI_le, iI_eq, iI_cl, vp_iI, Classical.not_not, iLn1000000005, iLn1000000004, iLn1000000003, iLn1000000002, iLn1000000001, iLn99999, iLn9999, iLn2, iLn1, iL0, iL1, iL2, iL3, iL4, iL5, iL6, iL7, iL8, iL9, iL10, iL15, iL16, iL31, iL32, iL40, iL42, iL45, iL48, iL57, iL59, iL63, iL64, iL65, iL120, iL126, iL455, iL520, iL9999, iL99999, iN2, iN8, iN64, iN65, iN120, iN130, iN520, true_implies, not_true_eq_false, false_implies, and_true]
      have put : ∀ r : Int, r = (if f j ≠ (-1000000001) ∧ (acc j = (-1000000001) ∨ (w = 0 ∧ acc j < f j) ∨ (w ≠ 0 ∧ f j < acc j)) then f j else acc j) → P 115 4 [(0, .ref 36), (1, .int (iI w)), (2, .int (iI r)), (3, .int (iI ((j : Int) + 1)))] [] M Q := fun r hr => by
        rw [hr]
        exact hI
      refine ⟨fun c => put _ ?_, fun c => ⟨fun c2 => ⟨fun c3 => by omega, fun _ => ⟨by omega, put _ ?_⟩⟩, fun c2 => ⟨fun c3 => ⟨by omega, fun c4 => put _ ?_, fun c4 => ⟨fun c5 => by omega, fun _ => ⟨by omega, put _ ?_⟩⟩⟩, fun c3 => ⟨by omega, fun c4 => put _ ?_, fun c4 => ⟨fun c5 => by omega, fun _ => ⟨by omega, put _ ?_⟩⟩⟩⟩⟩⟩
      all_goals (split <;> omega)
  simp (disch := omega) only [iI_add, iI_sub, iI_mul, iI_neg, iI_lt, iI_le, iI_eq, iI_cl, vp_iI, Classical.not_not, iLn1000000005, iLn1000000004, iLn1000000003, iLn1000000002, iLn1000000001, iLn99999, iLn9999, iLn2, iLn1, iL0, iL1, iL2, iL3, iL4, iL5, iL6, iL7, iL8, iL9, iL10, iL15, iL16, iL31, iL32, iL40, iL42, iL45, iL48, iL57, iL59, iL63, iL64, iL65, iL120, iL126, iL455, iL520, iL9999, iL99999, iN2, iN8, iN64, iN65, iN120, iN130, iN520]
  have hI := key n 0 (by omega)
  rw [h0] at hI
  exact hI
theorem s_md_end (hG : qGood Ls xs P) {w : Int} (hX : mX M n f) (hw : w = 0 ∨ w = 1) (hQ : Q (some (.int (iI (if w = 0 then grz f n else lsz f n)))) M) : P 115 0 [(0, .ref 36), (1, .int (iI w))] [] M Q := by
  rcases hw with hw | hw
  · subst hw
    refine s_md_end_g hG (grz f) rfl (grz_ok hX.ok) (fun j hj => ?_) hX (Or.inl rfl) hQ
    rw [grz_st hX.ok hj]
    split <;> split <;> omega
  · subst hw
    refine s_md_end_g hG (lsz f) rfl (lsz_ok hX.ok) (fun j hj => ?_) hX (Or.inr rfl) hQ
    rw [lsz_st]
    split <;> split <;> omega
theorem s_md_isOutlier (hG : qGood Ls xs P) {j : Nat} {lim : Int} (hX : mX M n f) (hj : j < n) (h1 : 0 ≤ lim) (h2 : lim ≤ 99999) (hQ : Q (some (.int (iI (bZ (otl n f lim j = true))))) M) : P 105 0 [(0, .ref 36), (1, .int (iI j)), (2, .int (iI lim))] [] M Q := by
  have hn := hX.2.1
  have o1 := vl_ok hX.ok ((j : Int) - 1)
  have o2 := vl_ok hX.ok (j : Int)
  have o3 := vl_ok hX.ok ((j : Int) + 1)
  have l1 := fun h => vl_lt (n := n) (f := f) (i := (j : Int) - 1) h
  have l3 := fun h => vl_lt (n := n) (f := f) (i := (j : Int) + 1) h
  have hd : dif n f 2 1 ((j : Int) - 1) = if vl n f ((j : Int) - 1) = (-1000000001) ∨ vl n f j = (-1000000001) ∨ vl n f ((j : Int) + 1) = (-1000000001) then (-1000000001) else vl n f ((j : Int) + 1) - 2 * vl n f j + vl n f ((j : Int) - 1) := by
    unfold dif
    split
    · rw [if_pos rfl]
      unfold sec
      rw [show (j : Int) - 1 + ((1 : Nat) : Int) = j by omega, show (j : Int) - 1 + 2 * ((1 : Nat) : Int) = (j : Int) + 1 by omega]
    · rename_i c
      rw [if_pos]
      refine Or.inl ?_
      unfold vl
      rw [if_neg c]
  unfold okv at o1 o2 o3
  unfold otl at hQ
  rw [hd] at hQ
  refine v_md_isOutlier_0 hG ?_
  refine s_md_isThere hG hX (by omega) (by omega) ?_
  refine v_md_isOutlier_3 hG ?_
  have z1 := bZ_in (vl n f (j : Int) ≠ (-1000000001))
  simp (disch := omega) only [iI_add, iI_sub, iI_mul, iI_neg, iI_lt, iI_le, iI_eq, iI_cl, vp_iI, Classical.not_not, iLn1000000005, iLn1000000004, iLn1000000003, iLn1000000002, iLn1000000001, iLn99999, iLn9999, iLn2, iLn1, iL0, iL1, iL2, iL3, iL4, iL5, iL6, iL7, iL8, iL9, iL10, iL15, iL16, iL31, iL32, iL40, iL42, iL45, iL48, iL57, iL59, iL63, iL64, iL65, iL120, iL126, iL455, iL520, iL9999, iL99999, iN2, iN8, iN64, iN65, iN120, iN130, iN520, bZ_0]
  refine ⟨fun c => q_b hQ (bZ_f ?_), fun c => ?_⟩
  · rw [if_pos (Or.inr (Or.inl c))]
    simp
  refine s_md_isThere hG hX (by omega) (by omega) ?_
  refine v_md_isOutlier_9 hG ?_
  have z2 := bZ_in (vl n f ((j : Int) - 1) ≠ (-1000000001))
  simp (disch := omega) only [iI_add, iI_sub, iI_mul, iI_neg, iI_lt, iI_le, iI_eq, iI_cl, vp_iI, Classical.not_not, iLn1000000005, iLn1000000004, iLn1000000003, iLn1000000002, iLn1000000001, iLn99999, iLn9999, iLn2, iLn1, iL0, iL1, iL2, iL3, iL4, iL5, iL6, iL7, iL8, iL9, iL10, iL15, iL16, iL31, iL32, iL40, iL42, iL45, iL48, iL57, iL59, iL63, iL64, iL65, iL120, iL126, iL455, iL520, iL9999, iL99999, iN2, iN8, iN64, iN65, iN120, iN130, iN520, bZ_0]
  refine ⟨fun c2 => q_b hQ (bZ_f ?_), fun c2 => ?_⟩
  · rw [if_pos (Or.inl c2)]
    simp
  refine s_md_isThere hG hX (by omega) (by omega) ?_
  refine v_md_isOutlier_15 hG ?_
  have z3 := bZ_in (vl n f ((j : Int) + 1) ≠ (-1000000001))
  simp (disch := omega) only [iI_add, iI_sub, iI_mul, iI_neg, iI_lt, iI_le, iI_eq, iI_cl, vp_iI, Classical.not_not, iLn1000000005, iLn1000000004, iLn1000000003, iLn1000000002, iLn1000000001, iLn99999, iLn9999, iLn2, iLn1, iL0, iL1, iL2, iL3, iL4, iL5, iL6, iL7, iL8, iL9, iL10, iL15, iL16, iL31, iL32, iL40, iL42, iL45, iL48, iL57, iL59, iL63, iL64, iL65, iL120, iL126, iL455, iL520, iL9999, iL99999, iN2, iN8, iN64, iN65, iN120, iN130, iN520, bZ_0]
  have hq := l1 c2
  refine ⟨fun c3 => ?_, fun c3 => q_b hQ (bZ_f ?_)⟩
  · have hq3 := l3 c3
    rw [vl_at hX (i := (j : Int)) (by omega) (by omega), vl_at hX (i := (j : Int) - 1) (by omega) (by omega), vl_at hX (i := (j : Int) + 1) (by omega) (by omega)]
    simp (disch := omega) only [iI_add, iI_sub, iI_mul, iI_neg, iI_lt, iI_le, iI_eq, iI_cl, vp_iI, Classical.not_not, iLn1000000005, iLn1000000004, iLn1000000003, iLn1000000002, iLn1000000001, iLn99999, iLn9999, iLn2, iLn1, iL0, iL1, iL2, iL3, iL4, iL5, iL6, iL7, iL8, iL9, iL10, iL15, iL16, iL31, iL32, iL40, iL42, iL45, iL48, iL57, iL59, iL63, iL64, iL65, iL120, iL126, iL455, iL520, iL9999, iL99999, iN2, iN8, iN64, iN65, iN120, iN130, iN520]
    rw [if_neg (by omega)] at hQ
    refine ⟨by omega, by omega, by omega, fun c4 => q_b hQ (bZ_t ?_), fun c4 => ⟨fun c5 => q_b hQ (bZ_f ?_), fun c5 => q_b hQ (bZ_t ?_)⟩⟩ <;>
      simp only [Bool.and_eq_true, Bool.or_eq_true, decide_eq_true_eq] <;> omega
  · rw [if_pos (Or.inr (Or.inr c3))]
    simp
theorem s_md_layOutliers (hG : qGood Ls xs P) {lim : Int} (hX : mX M n f) (h1 : 0 ≤ lim) (h2 : lim ≤ 99999) (hQ : ∀ M', qFm [42] M M' → (∀ j, j < n → M'.1 42 j = iI (bZ (otl n f lim j = true))) → Q (some (.int (iI (cz (otl n f lim) n)))) M') : P 106 0 [(0, .ref 36), (1, .int (iI lim))] [] M Q := by
  have hn := hX.2.1
  refine v_md_layOutliers_0 hG ?_
  have key : ∀ (d j : Nat) (M1 : qMem), j + d = n → qFm [42] M M1 → (∀ i, i < j → M1.1 42 i = iI (bZ (otl n f lim i = true))) → P 106 4 [(0, .ref 36), (1, .int (iI lim)), (2, .int (iI (cz (otl n f lim) j))), (3, .int (iI j))] [] M1 Q := by
    intro d
    induction d with
    | zero =>
      intro j M1 hj hF hL
      have e : j = n := by omega
      subst e
      refine v_md_layOutliers_4 hG ?_
      refine s_md_many hG (hX.fm (hF 37 (by decide)).1) ?_
      refine v_md_layOutliers_7 hG ?_
      simp (disch := omega) only [iI_add, iI_sub, iI_mul, iI_neg, iI_lt, iI_le, iI_eq, iI_cl, vp_iI, Classical.not_not, iLn1000000005, iLn1000000004, iLn1000000003, iLn1000000002, iLn1000000001, iLn99999, iLn9999, iLn2, iLn1, iL0, iL1, iL2, iL3, iL4, iL5, iL6, iL7, iL8, iL9, iL10, iL15, iL16, iL31, iL32, iL40, iL42, iL45, iL48, iL57, iL59, iL63, iL64, iL65, iL120, iL126, iL455, iL520, iL9999, iL99999, iN2, iN8, iN64, iN65, iN120, iN130, iN520]
      exact ⟨fun _ => hQ M1 hF hL, fun c => by omega⟩
    | succ d ih =>
      intro j M1 hj hF hL
      have hb := cz_in (otl n f lim) j
      have hX1 := hX.fm (M' := M1) (hF 37 (by decide)).1
      refine v_md_layOutliers_4 hG ?_
      refine s_md_many hG hX1 ?_
      refine v_md_layOutliers_7 hG ?_
      simp (disch := omega) only [iI_add, iI_sub, iI_mul, iI_neg, iI_lt, iI_le, iI_eq, iI_cl, vp_iI, Classical.not_not, iLn1000000005, iLn1000000004, iLn1000000003, iLn1000000002, iLn1000000001, iLn99999, iLn9999, iLn2, iLn1, iL0, iL1, iL2, iL3, iL4, iL5, iL6, iL7, iL8, iL9, iL10, iL15, iL16, iL31, iL32, iL40, iL42, iL45, iL48, iL57, iL59, iL63, iL64, iL65, iL120, iL126, iL455, iL520, iL9999, iL99999, iN2, iN8, iN64, iN65, iN120, iN130, iN520]
      refine ⟨fun c => by omega, fun _ => ?_⟩
      refine s_md_isOutlier hG hX1 (by omega) h1 h2 ?_
      refine v_md_layOutliers_15 hG ?_
      have hz := bZ_in (otl n f lim j = true)
      have hnar : vp_nar .boolean (iI (bZ (otl n f lim j = true))) = iI (bZ (otl n f lim j = true)) := by
        unfold bZ
        split <;> decide
      rw [hnar]
      simp (disch := omega) only [iI_add, iI_sub, iI_mul, iI_neg, iI_lt, iI_le, iI_eq, iI_cl, vp_iI, Classical.not_not, iLn1000000005, iLn1000000004, iLn1000000003, iLn1000000002, iLn1000000001, iLn99999, iLn9999, iLn2, iLn1, iL0, iL1, iL2, iL3, iL4, iL5, iL6, iL7, iL8, iL9, iL10, iL15, iL16, iL31, iL32, iL40, iL42, iL45, iL48, iL57, iL59, iL63, iL64, iL65, iL120, iL126, iL455, iL520, iL9999, iL99999, iN2, iN8, iN64, iN65, iN120, iN130, iN520]
      rw [show (j : Int).toNat = j by omega, pI_e]
      simp (disch := omega) only [iI_add, iI_sub, iI_mul, iI_neg, iI_lt, iI_le, iI_eq, iI_cl, vp_iI, Classical.not_not, iLn1000000005, iLn1000000004, iLn1000000003, iLn1000000002, iLn1000000001, iLn99999, iLn9999, iLn2, iLn1, iL0, iL1, iL2, iL3, iL4, iL5, iL6, iL7, iL8, iL9, iL10, iL15, iL16, iL31, iL32, iL40, iL42, iL45, iL48, iL57, iL59, iL63, iL64, iL65, iL120, iL126, iL455, iL520, iL9999, iL99999, iN2, iN8, iN64, iN65, iN120, iN130, iN520, bZ_0]
      have hI := ih (j + 1) (pI M1 42 j (iI (bZ (otl n f lim j = true)))) (by omega) (hF.tr (qFm.pI (by simp))) (fun i hi => by
        by_cases e : i = j
        · subst e
          exact pI_e
        · rw [pI_nj e]
          exact hL i (by omega))
      unfold cz at hI
      refine ⟨by omega, by omega, fun c => ?_, fun c => ?_⟩
      · rw [if_neg c] at hI
        exact hI
      · rw [if_pos c] at hI
        exact hI
  simp (disch := omega) only [iI_add, iI_sub, iI_mul, iI_neg, iI_lt, iI_le, iI_eq, iI_cl, vp_iI, Classical.not_not, iLn1000000005, iLn1000000004, iLn1000000003, iLn1000000002, iLn1000000001, iLn99999, iLn9999, iLn2, iLn1, iL0, iL1, iL2, iL3, iL4, iL5, iL6, iL7, iL8, iL9, iL10, iL15, iL16, iL31, iL32, iL40, iL42, iL45, iL48, iL57, iL59, iL63, iL64, iL65, iL120, iL126, iL455, iL520, iL9999, iL99999, iN2, iN8, iN64, iN65, iN120, iN130, iN520]
  exact key n 0 M (by omega) qFm.rf (fun i hi => absurd hi (by omega))
end MD2
end
