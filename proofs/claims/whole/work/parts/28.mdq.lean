/-! the reference's queries -/
def mFr (M M' : qMem) : Prop := (∀ a, a ≠ 42 → M'.1 a = M.1 a) ∧ ∀ a, a ≠ 36 → M'.2 a = M.2 a
theorem mFr.rf {M : qMem} : mFr M M := ⟨fun _ _ => rfl, fun _ _ => rfl⟩
theorem mFr.tr {M M1 M2 : qMem} (h : mFr M M1) (h2 : mFr M1 M2) : mFr M M2 := ⟨fun a ha => (h2.1 a ha).trans (h.1 a ha), fun a ha => (h2.2 a ha).trans (h.2 a ha)⟩
theorem mFr.of {M M' : qMem} (h1 : M'.1 = M.1) (h2 : ∀ a, a ≠ 36 → M'.2 a = M.2 a) : mFr M M' := ⟨fun a _ => by rw [h1], h2⟩
theorem mFr.of42 {M M' : qMem} (h : mF42 M M') : mFr M M' := ⟨h.1, fun a _ => by rw [h.2]⟩
section MDQ
variable {Ls : Nat} {xs : Nat → Int32} {P : qSem} {n : Nat} {f : Nat → Int} {M : qMem} {Q : qPost}
theorem mX.fr {M' : qMem} (h : mX M n f) (hF : mFr M M') : mX M' n f := h.fm (hF.1 37 (by decide))
theorem s_md_isWide (hG : qGood Ls xs P) {v : Int} (h : r32 v) (hQ : Q (some (.int (iI (bZ (1 ≤ v ∧ v ≤ 31))))) M) : P 123 0 [(0, .int (iI v))] [] M Q := by
  obtain ⟨h1, h2⟩ := h
  refine v_md_isWide_0 hG ?_
  simp (disch := omega) only [iI_add, iI_sub, iI_mul, iI_neg, iI_lt, iI_le, iI_eq, iI_cl, vp_iI, Classical.not_not, iLn1000000005, iLn1000000004, iLn1000000003, iLn1000000002, iLn1000000001, iLn99999, iLn9999, iLn2, iLn1, iL0, iL1, iL2, iL3, iL4, iL5, iL6, iL7, iL8, iL9, iL10, iL15, iL16, iL31, iL32, iL40, iL42, iL45, iL48, iL57, iL59, iL63, iL64, iL65, iL120, iL126, iL455, iL520, iL9999, iL99999, iN2, iN8, iN64, iN65, iN120, iN130, iN520]
  refine s_md_isIn hG (by omega) (by omega) (by omega) (by omega) (by omega) (by omega) ?_
  exact v_md_isWide_4 hG ⟨bZ_n _, hQ⟩
theorem s_md_isVariance (hG : qGood Ls xs P) {w v : Int} (hw : r32 w) (h : r32 v) (hQ : Q (some (.int (iI (bZ ((0 ≤ w ∧ w ≤ 3) ∧ 1 ≤ v ∧ v ≤ 31))))) M) : P 129 0 [(0, .int (iI w)), (1, .int (iI v))] [] M Q := by
  obtain ⟨h1, h2⟩ := hw
  refine v_md_isVariance_0 hG ?_
  simp (disch := omega) only [iI_add, iI_sub, iI_mul, iI_neg, iI_lt, iI_le, iI_eq, iI_cl, vp_iI, Classical.not_not, iLn1000000005, iLn1000000004, iLn1000000003, iLn1000000002, iLn1000000001, iLn99999, iLn9999, iLn2, iLn1, iL0, iL1, iL2, iL3, iL4, iL5, iL6, iL7, iL8, iL9, iL10, iL15, iL16, iL31, iL32, iL40, iL42, iL45, iL48, iL57, iL59, iL63, iL64, iL65, iL120, iL126, iL455, iL520, iL9999, iL99999, iN2, iN8, iN64, iN65, iN120, iN130, iN520]
  refine s_md_isIn hG (by omega) (by omega) (by omega) (by omega) (by omega) (by omega) ?_
  refine v_md_isVariance_4 hG ?_
  have hz := bZ_in (0 ≤ w ∧ w ≤ 3)
  simp (disch := omega) only [iI_add, iI_sub, iI_mul, iI_neg, iI_lt, iI_le, iI_eq, iI_cl, vp_iI, Classical.not_not, iLn1000000005, iLn1000000004, iLn1000000003, iLn1000000002, iLn1000000001, iLn99999, iLn9999, iLn2, iLn1, iL0, iL1, iL2, iL3, iL4, iL5, iL6, iL7, iL8, iL9, iL10, iL15, iL16, iL31, iL32, iL40, iL42, iL45, iL48, iL57, iL59, iL63, iL64, iL65, iL120, iL126, iL455, iL520, iL9999, iL99999, iN2, iN8, iN64, iN65, iN120, iN130, iN520, bZ_0]
  refine ⟨fun c => q_b hQ (bZ_f (fun z => c z.1)), fun c => ?_⟩
  refine s_md_isWide hG h ?_
  refine v_md_isVariance_7 hG ?_
  have hz2 := bZ_in (1 ≤ v ∧ v ≤ 31)
  simp (disch := omega) only [iI_add, iI_sub, iI_mul, iI_neg, iI_lt, iI_le, iI_eq, iI_cl, vp_iI, Classical.not_not, iLn1000000005, iLn1000000004, iLn1000000003, iLn1000000002, iLn1000000001, iLn99999, iLn9999, iLn2, iLn1, iL0, iL1, iL2, iL3, iL4, iL5, iL6, iL7, iL8, iL9, iL10, iL15, iL16, iL31, iL32, iL40, iL42, iL45, iL48, iL57, iL59, iL63, iL64, iL65, iL120, iL126, iL455, iL520, iL9999, iL99999, iN2, iN8, iN64, iN65, iN120, iN130, iN520, bZ_0]
  exact ⟨fun c2 => q_b hQ (bZ_f (fun z => c2 z.2)), fun c2 => q_b hQ (bZ_t ⟨c, c2⟩)⟩
theorem M_reading (hG : qGood Ls xs P) {i : Int} (hX : mX M n f) (hi : r32 i) (hQ : Q (some (.int (iI (aReading n f i)))) M) : P 118 0 [(0, .ref 36), (1, .int (iI i))] [] M Q := by
  obtain ⟨h1, h2⟩ := hi
  have hn := hX.2.1
  unfold aReading at hQ
  refine v_md_reading_0 hG ?_
  refine s_md_isReading hG hX h1 h2 ?_
  refine v_md_reading_3 hG ?_
  have hz := bZ_in (0 ≤ i ∧ i < n)
  simp (disch := omega) only [iI_add, iI_sub, iI_mul, iI_neg, iI_lt, iI_le, iI_eq, iI_cl, vp_iI, Classical.not_not, iLn1000000005, iLn1000000004, iLn1000000003, iLn1000000002, iLn1000000001, iLn99999, iLn9999, iLn2, iLn1, iL0, iL1, iL2, iL3, iL4, iL5, iL6, iL7, iL8, iL9, iL10, iL15, iL16, iL31, iL32, iL40, iL42, iL45, iL48, iL57, iL59, iL63, iL64, iL65, iL120, iL126, iL455, iL520, iL9999, iL99999, iN2, iN8, iN64, iN65, iN120, iN130, iN520, bZ_0]
  refine ⟨fun c => ?_, fun c => ⟨by omega, ?_⟩⟩
  · rw [if_neg c] at hQ
    exact hQ
  · rw [if_pos c] at hQ
    rw [(hX.2.2 i.toNat (by omega)).1]
    exact hQ
theorem M_difference (hG : qGood Ls xs P) {o m i : Int} (hX : mX M n f) (ho : r32 o) (hm : r32 m) (hi : r32 i) (hQ : Q (some (.int (iI (aDiff n f o m i)))) M) : P 124 0 [(0, .ref 36), (1, .int (iI o)), (2, .int (iI m)), (3, .int (iI i))] [] M Q := by
  have hn := hX.2.1
  unfold aDiff at hQ
  obtain ⟨o1, o2⟩ := ho
  refine v_md_difference_0 hG ?_
  simp (disch := omega) only [iI_add, iI_sub, iI_mul, iI_neg, iI_lt, iI_le, iI_eq, iI_cl, vp_iI, Classical.not_not, iLn1000000005, iLn1000000004, iLn1000000003, iLn1000000002, iLn1000000001, iLn99999, iLn9999, iLn2, iLn1, iL0, iL1, iL2, iL3, iL4, iL5, iL6, iL7, iL8, iL9, iL10, iL15, iL16, iL31, iL32, iL40, iL42, iL45, iL48, iL57, iL59, iL63, iL64, iL65, iL120, iL126, iL455, iL520, iL9999, iL99999, iN2, iN8, iN64, iN65, iN120, iN130, iN520]
  refine s_md_isIn hG (by omega) (by omega) (by omega) (by omega) (by omega) (by omega) ?_
  refine v_md_difference_4 hG ?_
  have hz := bZ_in (2 ≤ o ∧ o ≤ 4)
  simp (disch := omega) only [iI_add, iI_sub, iI_mul, iI_neg, iI_lt, iI_le, iI_eq, iI_cl, vp_iI, Classical.not_not, iLn1000000005, iLn1000000004, iLn1000000003, iLn1000000002, iLn1000000001, iLn99999, iLn9999, iLn2, iLn1, iL0, iL1, iL2, iL3, iL4, iL5, iL6, iL7, iL8, iL9, iL10, iL15, iL16, iL31, iL32, iL40, iL42, iL45, iL48, iL57, iL59, iL63, iL64, iL65, iL120, iL126, iL455, iL520, iL9999, iL99999, iN2, iN8, iN64, iN65, iN120, iN130, iN520, bZ_0]
  refine ⟨fun c => ?_, fun c => ?_⟩
  · rw [if_neg (fun z => c z.1)] at hQ
    exact hQ
  refine s_md_isWide hG hm ?_
  refine v_md_difference_7 hG ?_
  have hz2 := bZ_in (1 ≤ m ∧ m ≤ 31)
  obtain ⟨h1, h2⟩ := id hi
  simp (disch := omega) only [iI_add, iI_sub, iI_mul, iI_neg, iI_lt, iI_le, iI_eq, iI_cl, vp_iI, Classical.not_not, iLn1000000005, iLn1000000004, iLn1000000003, iLn1000000002, iLn1000000001, iLn99999, iLn9999, iLn2, iLn1, iL0, iL1, iL2, iL3, iL4, iL5, iL6, iL7, iL8, iL9, iL10, iL15, iL16, iL31, iL32, iL40, iL42, iL45, iL48, iL57, iL59, iL63, iL64, iL65, iL120, iL126, iL455, iL520, iL9999, iL99999, iN2, iN8, iN64, iN65, iN120, iN130, iN520, bZ_0]
  refine ⟨fun c2 => ?_, fun c2 => ⟨fun c3 => ?_, fun c3 => ?_⟩⟩
  · rw [if_neg (fun z => c2 z.2.1)] at hQ
    exact hQ
  · rw [if_pos ⟨c, c2, c3⟩] at hQ
    refine s_md_isReading hG hX h1 h2 ?_
    refine v_md_difference_15 hG ?_
    have hz3 := bZ_in (0 ≤ i ∧ i < n)
    simp (disch := omega) only [iI_add, iI_sub, iI_mul, iI_neg, iI_lt, iI_le, iI_eq, iI_cl, vp_iI, Classical.not_not, iLn1000000005, iLn1000000004, iLn1000000003, iLn1000000002, iLn1000000001, iLn99999, iLn9999, iLn2, iLn1, iL0, iL1, iL2, iL3, iL4, iL5, iL6, iL7, iL8, iL9, iL10, iL15, iL16, iL31, iL32, iL40, iL42, iL45, iL48, iL57, iL59, iL63, iL64, iL65, iL120, iL126, iL455, iL520, iL9999, iL99999, iN2, iN8, iN64, iN65, iN120, iN130, iN520, bZ_0]
    refine ⟨fun c4 => q_i ?_ hQ, fun c4 => ?_⟩
    · unfold dif
      rw [if_neg c4]
    · have e : m = ((m.toNat : Nat) : Int) := by omega
      have e2 : i = ((i.toNat : Nat) : Int) := by omega
      generalize m.toNat = mn at *
      generalize i.toNat = jn at *
      subst e
      subst e2
      refine s_md_exists hG hX c.1 c.2 (by omega) (by omega) ?_
      refine v_md_difference_21 hG ?_
      have hz4 := bZ_in (dif n f o mn jn ≠ (-1000000001))
      simp (disch := omega) only [iI_add, iI_sub, iI_mul, iI_neg, iI_lt, iI_le, iI_eq, iI_cl, vp_iI, Classical.not_not, iLn1000000005, iLn1000000004, iLn1000000003, iLn1000000002, iLn1000000001, iLn99999, iLn9999, iLn2, iLn1, iL0, iL1, iL2, iL3, iL4, iL5, iL6, iL7, iL8, iL9, iL10, iL15, iL16, iL31, iL32, iL40, iL42, iL45, iL48, iL57, iL59, iL63, iL64, iL65, iL120, iL126, iL455, iL520, iL9999, iL99999, iN2, iN8, iN64, iN65, iN120, iN130, iN520, bZ_0]
      refine ⟨fun c5 => q_i c5 hQ, fun c5 => ?_⟩
      refine s_md_differenceAt hG hX c.1 c.2 (by omega) (by omega) c5 ?_
      exact v_md_difference_27 hG hQ
  · rw [if_neg (fun z => c3 z.2.2)] at hQ
    exact hQ
theorem M_count (hG : qGood Ls xs P) {o m : Int} (hX : mX M n f) (ho : r32 o) (hm : r32 m) (hQ : Q (some (.int (iI (aCount n f o m)))) M) : P 126 0 [(0, .ref 36), (1, .int (iI o)), (2, .int (iI m))] [] M Q := by
  unfold aCount at hQ
  obtain ⟨o1, o2⟩ := ho
  refine v_md_count_0 hG ?_
  simp (disch := omega) only [iI_add, iI_sub, iI_mul, iI_neg, iI_lt, iI_le, iI_eq, iI_cl, vp_iI, Classical.not_not, iLn1000000005, iLn1000000004, iLn1000000003, iLn1000000002, iLn1000000001, iLn99999, iLn9999, iLn2, iLn1, iL0, iL1, iL2, iL3, iL4, iL5, iL6, iL7, iL8, iL9, iL10, iL15, iL16, iL31, iL32, iL40, iL42, iL45, iL48, iL57, iL59, iL63, iL64, iL65, iL120, iL126, iL455, iL520, iL9999, iL99999, iN2, iN8, iN64, iN65, iN120, iN130, iN520]
  refine s_md_isIn hG (by omega) (by omega) (by omega) (by omega) (by omega) (by omega) ?_
  refine v_md_count_4 hG ?_
  have hz := bZ_in (2 ≤ o ∧ o ≤ 4)
  simp (disch := omega) only [iI_add, iI_sub, iI_mul, iI_neg, iI_lt, iI_le, iI_eq, iI_cl, vp_iI, Classical.not_not, iLn1000000005, iLn1000000004, iLn1000000003, iLn1000000002, iLn1000000001, iLn99999, iLn9999, iLn2, iLn1, iL0, iL1, iL2, iL3, iL4, iL5, iL6, iL7, iL8, iL9, iL10, iL15, iL16, iL31, iL32, iL40, iL42, iL45, iL48, iL57, iL59, iL63, iL64, iL65, iL120, iL126, iL455, iL520, iL9999, iL99999, iN2, iN8, iN64, iN65, iN120, iN130, iN520, bZ_0]
  refine ⟨fun c => ?_, fun c => ?_⟩
  · rw [if_neg (fun z => c z.1)] at hQ
    exact hQ
  refine s_md_isWide hG hm ?_
  refine v_md_count_7 hG ?_
  have hz2 := bZ_in (1 ≤ m ∧ m ≤ 31)
  simp (disch := omega) only [iI_add, iI_sub, iI_mul, iI_neg, iI_lt, iI_le, iI_eq, iI_cl, vp_iI, Classical.not_not, iLn1000000005, iLn1000000004, iLn1000000003, iLn1000000002, iLn1000000001, iLn99999, iLn9999, iLn2, iLn1, iL0, iL1, iL2, iL3, iL4, iL5, iL6, iL7, iL8, iL9, iL10, iL15, iL16, iL31, iL32, iL40, iL42, iL45, iL48, iL57, iL59, iL63, iL64, iL65, iL120, iL126, iL455, iL520, iL9999, iL99999, iN2, iN8, iN64, iN65, iN120, iN130, iN520, bZ_0]
  refine ⟨fun c2 => ?_, fun c2 => ?_⟩
  · rw [if_neg (fun z => c2 z.2)] at hQ
    exact hQ
  · rw [if_pos ⟨c, c2⟩] at hQ
    have e : m = ((m.toNat : Nat) : Int) := by omega
    rw [e]
    refine s_md_countOf hG hX c.1 c.2 (by omega) ?_
    exact v_md_count_12 hG hQ
theorem M_variance (hG : qGood Ls xs P) {w m p : Int} (hX : mX M n f) (hw : r32 w) (hm : r32 m) (hp : r32 p) (hQ : ∀ M', mFr M M' → Q (some (.long (lI (aVar n f w m p)))) M') : P 130 0 [(0, .ref 36), (1, .int (iI w)), (2, .int (iI m)), (3, .int (iI p))] [] M Q := by
  have hQ0 := hQ M mFr.rf
  unfold aVar at hQ hQ0
  refine v_md_variance_0 hG ?_
  refine s_md_isVariance hG hw hm ?_
  refine v_md_variance_3 hG ?_
  rw [show (-1000000002 : Int64) = lI (-1000000002) by decide]
  have hz := bZ_in ((0 ≤ w ∧ w ≤ 3) ∧ 1 ≤ m ∧ m ≤ 31)
  obtain ⟨p1, p2⟩ := id hp
  simp (disch := omega) only [iI_add, iI_sub, iI_mul, iI_neg, iI_lt, iI_le, iI_eq, iI_cl, vp_iI, Classical.not_not, iLn1000000005, iLn1000000004, iLn1000000003, iLn1000000002, iLn1000000001, iLn99999, iLn9999, iLn2, iLn1, iL0, iL1, iL2, iL3, iL4, iL5, iL6, iL7, iL8, iL9, iL10, iL15, iL16, iL31, iL32, iL40, iL42, iL45, iL48, iL57, iL59, iL63, iL64, iL65, iL120, iL126, iL455, iL520, iL9999, iL99999, iN2, iN8, iN64, iN65, iN120, iN130, iN520, bZ_0]
  refine ⟨fun c => ?_, fun c => ?_⟩
  · rw [if_neg (fun z => c ⟨z.1, z.2.1⟩)] at hQ0
    exact hQ0
  refine s_md_isIn hG (by omega) (by omega) (by omega) (by omega) (by omega) (by omega) ?_
  refine v_md_variance_8 hG ?_
  rw [show (-1000000002 : Int64) = lI (-1000000002) by decide]
  have hz2 := bZ_in (0 ≤ p ∧ p ≤ 1)
  simp (disch := omega) only [iI_add, iI_sub, iI_mul, iI_neg, iI_lt, iI_le, iI_eq, iI_cl, vp_iI, Classical.not_not, iLn1000000005, iLn1000000004, iLn1000000003, iLn1000000002, iLn1000000001, iLn99999, iLn9999, iLn2, iLn1, iL0, iL1, iL2, iL3, iL4, iL5, iL6, iL7, iL8, iL9, iL10, iL15, iL16, iL31, iL32, iL40, iL42, iL45, iL48, iL57, iL59, iL63, iL64, iL65, iL120, iL126, iL455, iL520, iL9999, iL99999, iN2, iN8, iN64, iN65, iN120, iN130, iN520, bZ_0]
  refine ⟨fun c2 => ?_, fun c2 => ?_⟩
  · simp only [if_pos (show (0 ≤ w ∧ w ≤ 3) ∧ (1 ≤ m ∧ m ≤ 31) ∧ (0 ≤ p ∧ p ≤ 1) by omega)] at hQ
    have e : m = ((m.toNat : Nat) : Int) := by omega
    rw [e]
    refine s_md_layVariance hG hX c.1 (by omega) (by omega) (fun M1 hM1 hM2 hV => ?_)
    have hq := hQ M1 (mFr.of hM1 hM2)
    refine v_md_variance_15 hG ?_
    rw [show (-1000000001 : Int64) = lI (-1000000001) by decide]
    have hz3 := bZ_in (vD n f w m.toNat ≠ 0)
    simp (disch := omega) only [iI_add, iI_sub, iI_mul, iI_neg, iI_lt, iI_le, iI_eq, iI_cl, vp_iI, Classical.not_not, iLn1000000005, iLn1000000004, iLn1000000003, iLn1000000002, iLn1000000001, iLn99999, iLn9999, iLn2, iLn1, iL0, iL1, iL2, iL3, iL4, iL5, iL6, iL7, iL8, iL9, iL10, iL15, iL16, iL31, iL32, iL40, iL42, iL45, iL48, iL57, iL59, iL63, iL64, iL65, iL120, iL126, iL455, iL520, iL9999, iL99999, iN2, iN8, iN64, iN65, iN120, iN130, iN520, bZ_0]
    refine ⟨fun c5 => ⟨fun c6 => ?_, fun c6 => ?_⟩, fun c5 => ?_⟩
    · rw [if_neg c5, if_neg c6] at hq
      rw [(hV c5).2]
      exact hq
    · rw [if_neg c5, if_pos c6] at hq
      rw [(hV c5).1]
      exact hq
    · rw [if_pos (by omega)] at hq
      exact hq
  · rw [if_neg (fun z => c2 z.2.2)] at hQ0
    exact hQ0
theorem M_deviation (hG : qGood Ls xs P) {w m : Int} (hX : mX M n f) (hw : r32 w) (hm : r32 m) (hQ : ∀ M', mFr M M' → Q (some (.long (lI (aDev n f w m)))) M') : P 131 0 [(0, .ref 36), (1, .int (iI w)), (2, .int (iI m))] [] M Q := by
  have hQ0 := hQ M mFr.rf
  unfold aDev at hQ hQ0
  refine v_md_deviation_0 hG ?_
  refine s_md_isVariance hG hw hm ?_
  refine v_md_deviation_3 hG ?_
  rw [show (-1000000002 : Int64) = lI (-1000000002) by decide]
  have hz := bZ_in ((0 ≤ w ∧ w ≤ 3) ∧ 1 ≤ m ∧ m ≤ 31)
  simp (disch := omega) only [iI_add, iI_sub, iI_mul, iI_neg, iI_lt, iI_le, iI_eq, iI_cl, vp_iI, Classical.not_not, iLn1000000005, iLn1000000004, iLn1000000003, iLn1000000002, iLn1000000001, iLn99999, iLn9999, iLn2, iLn1, iL0, iL1, iL2, iL3, iL4, iL5, iL6, iL7, iL8, iL9, iL10, iL15, iL16, iL31, iL32, iL40, iL42, iL45, iL48, iL57, iL59, iL63, iL64, iL65, iL120, iL126, iL455, iL520, iL9999, iL99999, iN2, iN8, iN64, iN65, iN120, iN130, iN520, bZ_0]
  refine ⟨fun c => ?_, fun c => ?_⟩
  · simp only [if_pos (show (0 ≤ w ∧ w ≤ 3) ∧ (1 ≤ m ∧ m ≤ 31) by omega)] at hQ
    have e : m = ((m.toNat : Nat) : Int) := by omega
    rw [e]
    have bnd := vND hX.ok hX.2.1 (m := m.toNat) (by omega) (by omega) (w := w) c.1
    refine s_md_layVariance hG hX c.1 (by omega) (by omega) (fun M1 hM1 hM2 hV => ?_)
    have hq := hQ M1 (mFr.of hM1 hM2)
    refine v_md_deviation_10 hG ?_
    rw [show (-1000000001 : Int64) = lI (-1000000001) by decide]
    have hz3 := bZ_in (vD n f w m.toNat ≠ 0)
    simp (disch := omega) only [iI_add, iI_sub, iI_mul, iI_neg, iI_lt, iI_le, iI_eq, iI_cl, vp_iI, Classical.not_not, iLn1000000005, iLn1000000004, iLn1000000003, iLn1000000002, iLn1000000001, iLn99999, iLn9999, iLn2, iLn1, iL0, iL1, iL2, iL3, iL4, iL5, iL6, iL7, iL8, iL9, iL10, iL15, iL16, iL31, iL32, iL40, iL42, iL45, iL48, iL57, iL59, iL63, iL64, iL65, iL120, iL126, iL455, iL520, iL9999, iL99999, iN2, iN8, iN64, iN65, iN120, iN130, iN520, bZ_0]
    refine ⟨fun c5 => ?_, fun c5 => ?_⟩
    · rw [if_neg c5] at hq
      have b2 := tr6_in hX.ok hX.2.1 (m := m.toNat) (by omega) (by omega) (w := w) c.1 c5
      have hpos : 0 < vD n f w m.toNat := by omega
      have m1 := Nat.mod_lt (vN n f w m.toNat) hpos
      have e6 : tr6 (vN n f w m.toNat) (vD n f w m.toNat) = vN n f w m.toNat / vD n f w m.toNat * 1000000 + vN n f w m.toNat % vD n f w m.toNat * 1000000 / vD n f w m.toNat := rfl
      rw [(hV c5).1, (hV c5).2, lL0, lI_eq (by omega) (by omega) (by omega) (by omega), lI_rem hpos (by omega) (by omega), lI_div (by omega) (by omega), show (1000000 : Int64) = lI 1000000 by decide, lI_mul, lI_mul]
      generalize vN n f w m.toNat = a at *
      generalize vD n f w m.toNat = b at *
      have e3 : 1000000 * ((a % b : Nat) : Int) = ((a % b * 1000000 : Nat) : Int) := by omega
      have e4 : 1000000 * ((a / b : Nat) : Int) = ((a / b * 1000000 : Nat) : Int) := by omega
      rw [e3, e4, lI_div (by omega) (by omega), lI_add]
      have e5 : ((a / b * 1000000 : Nat) : Int) + ((a % b * 1000000 / b : Nat) : Int) = ((tr6 a b : Nat) : Int) := by
        rw [e6]
        exact (Int.natCast_add _ _).symm
      rw [e5]
      refine ⟨by omega, by omega, by omega, ?_⟩
      have key : ∀ (k : Nat) (lo hi : Int), 0 ≤ lo → lo < hi → hi ≤ 1000000000 → (hi - lo).toNat ≤ k → lo * lo ≤ ((tr6 a b : Nat) : Int) → ((tr6 a b : Nat) : Int) < hi * hi → P 131 36 [(3, .long (lI ((tr6 a b : Nat) : Int))), (5, .long (lI lo)), (7, .long (lI hi))] [] M1 Q := by
        intro k
        induction k with
        | zero => intro lo hi h1 h2 _ h3; omega
        | succ k ih =>
          intro lo hi h1 h2 h3 h4 h5 h6
          refine v_md_deviation_36 hG ?_
          have hd : lI ((lo + hi) : Int) / lI 2 = lI ((lo + hi) / 2) := by
            rw [lI_tdiv (by omega) (by omega) (by omega) (by omega), Int.tdiv_eq_ediv_of_nonneg (by omega)]
          have hmm := mul_bd (A := 1000000000) (C := 1000000000) (a := (lo + hi) / 2) (c := (lo + hi) / 2) (by omega) (by omega) (by omega) (by omega)
          rw [lI_sub, lI_add, lL1, show (2 : Int64) = lI 2 by decide, hd, lI_mul, lg_cmpZ (by omega) (by omega) (by omega) (by omega), lg_cmpZ (by omega) (by omega) (by omega) (by omega), lL0, lI_eq (by omega) (by omega) (by omega) (by omega)]
          have y1 := cmpZ_in (hi - lo) 1
          have y2 := cmpZ_in ((lo + hi) / 2 * ((lo + hi) / 2)) ((tr6 a b : Nat) : Int)
          simp (disch := omega) only [iI_add, iI_sub, iI_mul, iI_neg, iI_lt, iI_le, iI_eq, iI_cl, vp_iI, Classical.not_not, iLn1000000005, iLn1000000004, iLn1000000003, iLn1000000002, iLn1000000001, iLn99999, iLn9999, iLn2, iLn1, iL0, iL1, iL2, iL3, iL4, iL5, iL6, iL7, iL8, iL9, iL10, iL15, iL16, iL31, iL32, iL40, iL42, iL45, iL48, iL57, iL59, iL63, iL64, iL65, iL120, iL126, iL455, iL520, iL9999, iL99999, iN2, iN8, iN64, iN65, iN120, iN130, iN520, cmpZ_le, cmpZ_p]
          refine ⟨fun d => ?_, fun d => ⟨by omega, fun d2 => ?_, fun d2 => ?_⟩⟩
          · rw [isq_eq h1 h5 (by rw [show lo + 1 = hi by omega]; exact h6)] at hq
            exact hq
          · exact ih lo ((lo + hi) / 2) h1 (by omega) (by omega) (by omega) h5 d2
          · exact ih ((lo + hi) / 2) hi (by omega) (by omega) h3 (by omega) (by omega) h6
      rw [show (1000000000 : Int64) = lI 1000000000 by decide]
      exact key 1000000000 0 1000000000 (by omega) (by omega) (by omega) (by omega) (by omega) (by omega)
    · rw [if_pos (by omega)] at hq
      exact hq
  · rw [if_neg c] at hQ0
    exact hQ0
theorem s_md_compared (hG : qGood Ls xs P) {w : Int} {m o : Nat} (hX : mX M n f) (hw : wOK w) (hm : 1 ≤ m) (hm2 : m ≤ 31) (ho : 1 ≤ o) (ho2 : o ≤ 31) (hQ : ∀ M', mFr M M' → Q (some (.int (iI (if vD n f w m = 0 ∨ vD n f w o = 0 then (-1000000001) else if aCmp2 n f w m o = 0 then 0 else if aCmp2 n f w m o < 0 then 1 else 2)))) M') : P 133 0 [(0, .ref 36), (1, .int (iI w)), (2, .int (iI m)), (3, .int (iI o))] [] M Q := by
  have b := vND hX.ok hX.2.1 (m := m) hm hm2 hw
  have b2 := vND hX.ok hX.2.1 (m := o) ho ho2 hw
  refine v_md_compared_0 hG ?_
  refine s_md_layVariance hG hX hw hm hm2 (fun M1 hM1 hM2 hV => ?_)
  refine v_md_compared_4 hG ?_
  have hz := bZ_in (vD n f w m ≠ 0)
  simp (disch := omega) only [iI_add, iI_sub, iI_mul, iI_neg, iI_lt, iI_le, iI_eq, iI_cl, vp_iI, Classical.not_not, iLn1000000005, iLn1000000004, iLn1000000003, iLn1000000002, iLn1000000001, iLn99999, iLn9999, iLn2, iLn1, iL0, iL1, iL2, iL3, iL4, iL5, iL6, iL7, iL8, iL9, iL10, iL15, iL16, iL31, iL32, iL40, iL42, iL45, iL48, iL57, iL59, iL63, iL64, iL65, iL120, iL126, iL455, iL520, iL9999, iL99999, iN2, iN8, iN64, iN65, iN120, iN130, iN520, bZ_0]
  refine ⟨fun c => ?_, fun c => ?_⟩
  · rw [(hV c).1, (hV c).2]
    refine s_md_layVariance hG (hX.fm (by rw [hM1])) hw ho ho2 (fun M2 hM3 hM4 hV2 => ?_)
    have hq := hQ M2 ((mFr.of hM1 hM2).tr (mFr.of hM3 hM4))
    refine v_md_compared_17 hG ?_
    have hz2 := bZ_in (vD n f w o ≠ 0)
    simp (disch := omega) only [iI_add, iI_sub, iI_mul, iI_neg, iI_lt, iI_le, iI_eq, iI_cl, vp_iI, Classical.not_not, iLn1000000005, iLn1000000004, iLn1000000003, iLn1000000002, iLn1000000001, iLn99999, iLn9999, iLn2, iLn1, iL0, iL1, iL2, iL3, iL4, iL5, iL6, iL7, iL8, iL9, iL10, iL15, iL16, iL31, iL32, iL40, iL42, iL45, iL48, iL57, iL59, iL63, iL64, iL65, iL120, iL126, iL455, iL520, iL9999, iL99999, iN2, iN8, iN64, iN65, iN120, iN130, iN520, bZ_0]
    refine ⟨fun c2 => ?_, fun c2 => ?_⟩
    · rw [if_neg (by omega)] at hq
      rw [(hV2 c2).1, (hV2 c2).2]
      refine s_md_order hG (by omega) (by omega) (by omega) (by omega) (by omega) (by omega) ?_
      refine v_md_compared_27 hG ?_
      have hz6 := cmpZ_in (vN n f w m * vD n f w o : Nat) (vN n f w o * vD n f w m : Nat)
      unfold aCmp2 at hq
      generalize cmpZ (vN n f w m * vD n f w o : Nat) (vN n f w o * vD n f w m : Nat) = cc at *
      simp (disch := omega) only [iI_add, iI_sub, iI_mul, iI_neg, iI_lt, iI_le, iI_eq, iI_cl, vp_iI, Classical.not_not, iLn1000000005, iLn1000000004, iLn1000000003, iLn1000000002, iLn1000000001, iLn99999, iLn9999, iLn2, iLn1, iL0, iL1, iL2, iL3, iL4, iL5, iL6, iL7, iL8, iL9, iL10, iL15, iL16, iL31, iL32, iL40, iL42, iL45, iL48, iL57, iL59, iL63, iL64, iL65, iL120, iL126, iL455, iL520, iL9999, iL99999, iN2, iN8, iN64, iN65, iN120, iN130, iN520]
      refine ⟨fun c7 => ⟨fun c8 => ?_, fun c8 => ?_⟩, fun c7 => ?_⟩
      · rw [if_neg c7, if_neg (by omega)] at hq
        exact hq
      · rw [if_neg c7, if_pos (by omega)] at hq
        exact hq
      · rw [if_pos c7] at hq
        exact hq
    · rw [if_pos (by omega)] at hq
      exact hq
  · have hq := hQ M1 (mFr.of hM1 hM2)
    rw [if_pos (by omega)] at hq
    exact hq
theorem M_compare (hG : qGood Ls xs P) {w m o : Int} (hX : mX M n f) (hw : r32 w) (hm : r32 m) (ho : r32 o) (hQ : ∀ M', mFr M M' → Q (some (.int (iI (aCmp n f w m o)))) M') : P 134 0 [(0, .ref 36), (1, .int (iI w)), (2, .int (iI m)), (3, .int (iI o))] [] M Q := by
  have hQ0 := hQ M mFr.rf
  unfold aCmp at hQ hQ0
  refine v_md_compare_0 hG ?_
  refine s_md_isVariance hG hw hm ?_
  refine v_md_compare_3 hG ?_
  have hz := bZ_in ((0 ≤ w ∧ w ≤ 3) ∧ 1 ≤ m ∧ m ≤ 31)
  simp (disch := omega) only [iI_add, iI_sub, iI_mul, iI_neg, iI_lt, iI_le, iI_eq, iI_cl, vp_iI, Classical.not_not, iLn1000000005, iLn1000000004, iLn1000000003, iLn1000000002, iLn1000000001, iLn99999, iLn9999, iLn2, iLn1, iL0, iL1, iL2, iL3, iL4, iL5, iL6, iL7, iL8, iL9, iL10, iL15, iL16, iL31, iL32, iL40, iL42, iL45, iL48, iL57, iL59, iL63, iL64, iL65, iL120, iL126, iL455, iL520, iL9999, iL99999, iN2, iN8, iN64, iN65, iN120, iN130, iN520, bZ_0]
  refine ⟨fun c => ?_, fun c => ?_⟩
  · rw [if_neg (fun z => c ⟨z.1, z.2.1⟩)] at hQ0
    exact hQ0
  refine s_md_isWide hG ho ?_
  refine v_md_compare_6 hG ?_
  have hz2 := bZ_in (1 ≤ o ∧ o ≤ 31)
  simp (disch := omega) only [iI_add, iI_sub, iI_mul, iI_neg, iI_lt, iI_le, iI_eq, iI_cl, vp_iI, Classical.not_not, iLn1000000005, iLn1000000004, iLn1000000003, iLn1000000002, iLn1000000001, iLn99999, iLn9999, iLn2, iLn1, iL0, iL1, iL2, iL3, iL4, iL5, iL6, iL7, iL8, iL9, iL10, iL15, iL16, iL31, iL32, iL40, iL42, iL45, iL48, iL57, iL59, iL63, iL64, iL65, iL120, iL126, iL455, iL520, iL9999, iL99999, iN2, iN8, iN64, iN65, iN120, iN130, iN520, bZ_0]
  refine ⟨fun c2 => ?_, fun c2 => ?_⟩
  · rw [if_neg (fun z => c2 z.2.2)] at hQ0
    exact hQ0
  · simp only [if_pos (show (0 ≤ w ∧ w ≤ 3) ∧ (1 ≤ m ∧ m ≤ 31) ∧ (1 ≤ o ∧ o ≤ 31) by omega)] at hQ
    have e : m = ((m.toNat : Nat) : Int) := by omega
    have e2 : o = ((o.toNat : Nat) : Int) := by omega
    rw [e, e2]
    exact s_md_compared hG hX c.1 (by omega) (by omega) (by omega) (by omega) (fun M' hF => v_md_compare_12 hG (hQ M' hF))
theorem M_best (hG : qGood Ls xs P) {w : Int} (hX : mX M n f) (hw : r32 w) (hQ : ∀ M', mFr M M' → Q (some (.int (iI (aBest n f w)))) M') : P 135 0 [(0, .ref 36), (1, .int (iI w))] [] M Q := by
  have hQ0 := hQ M mFr.rf
  unfold aBest at hQ hQ0
  obtain ⟨w1, w2⟩ := hw
  refine v_md_best_0 hG ?_
  simp (disch := omega) only [iI_add, iI_sub, iI_mul, iI_neg, iI_lt, iI_le, iI_eq, iI_cl, vp_iI, Classical.not_not, iLn1000000005, iLn1000000004, iLn1000000003, iLn1000000002, iLn1000000001, iLn99999, iLn9999, iLn2, iLn1, iL0, iL1, iL2, iL3, iL4, iL5, iL6, iL7, iL8, iL9, iL10, iL15, iL16, iL31, iL32, iL40, iL42, iL45, iL48, iL57, iL59, iL63, iL64, iL65, iL120, iL126, iL455, iL520, iL9999, iL99999, iN2, iN8, iN64, iN65, iN120, iN130, iN520]
  refine s_md_isIn hG (by omega) (by omega) (by omega) (by omega) (by omega) (by omega) ?_
  refine v_md_best_4 hG ?_
  have hz := bZ_in (0 ≤ w ∧ w ≤ 3)
  simp (disch := omega) only [iI_add, iI_sub, iI_mul, iI_neg, iI_lt, iI_le, iI_eq, iI_cl, vp_iI, Classical.not_not, iLn1000000005, iLn1000000004, iLn1000000003, iLn1000000002, iLn1000000001, iLn99999, iLn9999, iLn2, iLn1, iL0, iL1, iL2, iL3, iL4, iL5, iL6, iL7, iL8, iL9, iL10, iL15, iL16, iL31, iL32, iL40, iL42, iL45, iL48, iL57, iL59, iL63, iL64, iL65, iL120, iL126, iL455, iL520, iL9999, iL99999, iN2, iN8, iN64, iN65, iN120, iN130, iN520, bZ_0]
  refine ⟨fun c => ?_, fun c => ?_⟩
  · simp only [if_pos c] at hQ
    have key : ∀ (d j : Nat) (M1 : qMem), j + d = 31 → mFr M M1 → P 135 11 [(0, .ref 36), (1, .int (iI w)), (2, .int (iI (if bsz n f w j = 0 then (-1000000001) else bsz n f w j))), (3, .int (iI (j + 1 : Nat)))] [] M1 Q := by
      intro d
      induction d with
      | zero =>
        intro j M1 hj hFm
        have e : j = 31 := by omega
        subst e
        refine v_md_best_11 hG ?_
        simp (disch := omega) only [iI_add, iI_sub, iI_mul, iI_neg, iI_lt, iI_le, iI_eq, iI_cl, vp_iI, Classical.not_not, iLn1000000005, iLn1000000004, iLn1000000003, iLn1000000002, iLn1000000001, iLn99999, iLn9999, iLn2, iLn1, iL0, iL1, iL2, iL3, iL4, iL5, iL6, iL7, iL8, iL9, iL10, iL15, iL16, iL31, iL32, iL40, iL42, iL45, iL48, iL57, iL59, iL63, iL64, iL65, iL120, iL126, iL455, iL520, iL9999, iL99999, iN2, iN8, iN64, iN65, iN120, iN130, iN520]
        exact ⟨fun _ => hQ M1 hFm, fun c2 => by omega⟩
      | succ d ih =>
        intro j M1 hj hFm
        have hbi := bsz_in n f w j
        have hX1 := hX.fr hFm
        refine v_md_best_11 hG ?_
        simp (disch := omega) only [iI_add, iI_sub, iI_mul, iI_neg, iI_lt, iI_le, iI_eq, iI_cl, vp_iI, Classical.not_not, iLn1000000005, iLn1000000004, iLn1000000003, iLn1000000002, iLn1000000001, iLn99999, iLn9999, iLn2, iLn1, iL0, iL1, iL2, iL3, iL4, iL5, iL6, iL7, iL8, iL9, iL10, iL15, iL16, iL31, iL32, iL40, iL42, iL45, iL48, iL57, iL59, iL63, iL64, iL65, iL120, iL126, iL455, iL520, iL9999, iL99999, iN2, iN8, iN64, iN65, iN120, iN130, iN520]
        refine ⟨fun c2 => by omega, fun _ => ?_⟩
        refine s_md_layVariance hG hX1 c (by omega) (by omega) (fun M2 hM3 hM4 hV => ?_)
        have hFm2 : mFr M M2 := hFm.tr (mFr.of hM3 hM4)
        refine v_md_best_18 hG ?_
        have hz3 := bZ_in (vD n f w (j + 1) ≠ 0)
        have hrange : -1000000001 ≤ (if bsz n f w j = 0 then ((-1000000001) : Int) else bsz n f w j) ∧ (if bsz n f w j = 0 then ((-1000000001) : Int) else bsz n f w j) ≤ 31 := by split <;> omega
        have hNN : ((if bsz n f w j = 0 then ((-1000000001) : Int) else bsz n f w j) = (-1000000001)) ↔ bsz n f w j = 0 := by split <;> omega
        simp (disch := omega) only [iI_add, iI_sub, iI_mul, iI_neg, iI_lt, iI_le, iI_eq, iI_cl, vp_iI, Classical.not_not, iLn1000000005, iLn1000000004, iLn1000000003, iLn1000000002, iLn1000000001, iLn99999, iLn9999, iLn2, iLn1, iL0, iL1, iL2, iL3, iL4, iL5, iL6, iL7, iL8, iL9, iL10, iL15, iL16, iL31, iL32, iL40, iL42, iL45, iL48, iL57, iL59, iL63, iL64, iL65, iL120, iL126, iL455, iL520, iL9999, iL99999, iN2, iN8, iN64, iN65, iN120, iN130, iN520, bZ_0, hNN]
        have keep : ∀ M3 : qMem, mFr M M3 → bsz n f w (j + 1) = bsz n f w j → P 135 11 [(0, .ref 36), (1, .int (iI w)), (2, .int (iI (if bsz n f w j = 0 then (-1000000001) else bsz n f w j))), (3, .int (iI (((j + 1 : Nat) : Int) + 1)))] [] M3 Q := by
          intro M3 h3 hb1
          have hI := ih (j + 1) M3 (by omega) h3
          rw [hb1] at hI
          exact hI
        have take : ∀ M3 : qMem, mFr M M3 → bsz n f w (j + 1) = j + 1 → P 135 11 [(0, .ref 36), (1, .int (iI w)), (2, .int (iI ((j + 1 : Nat) : Int))), (3, .int (iI (((j + 1 : Nat) : Int) + 1)))] [] M3 Q := by
          intro M3 h3 hb1
          have hI := ih (j + 1) M3 (by omega) h3
          rw [hb1, if_neg (by omega)] at hI
          exact hI
        refine ⟨fun c3 => keep M2 hFm2 (by rw [bsz_s, if_neg (by omega)]), fun c3 => ⟨fun c4 => take M2 hFm2 (by rw [bsz_s, if_pos ⟨by omega, Or.inl c4⟩]), fun c4 => ?_⟩⟩
        have hD2 := bsz_D n f w j c4
        rw [if_neg c4]
        refine s_md_compared hG (hX.fr hFm2) c (by omega) (by omega) (by omega) (by omega) (fun M3 hF3 => ?_)
        refine v_md_best_27 hG ?_
        rw [if_neg (by omega)]
        have hr : ∀ x : Int, 0 ≤ (if x = 0 then (0 : Int) else if x < 0 then 1 else 2) ∧ (if x = 0 then (0 : Int) else if x < 0 then 1 else 2) ≤ 2 := by intro x; split <;> (try split) <;> omega
        have hr2 := hr (aCmp2 n f w (j + 1) (bsz n f w j))
        have h1 : ((if aCmp2 n f w (j + 1) (bsz n f w j) = 0 then (0 : Int) else if aCmp2 n f w (j + 1) (bsz n f w j) < 0 then 1 else 2) = 1) ↔ aCmp2 n f w (j + 1) (bsz n f w j) < 0 := by split <;> (try split) <;> omega
        simp (disch := omega) only [iI_add, iI_sub, iI_mul, iI_neg, iI_lt, iI_le, iI_eq, iI_cl, vp_iI, Classical.not_not, iLn1000000005, iLn1000000004, iLn1000000003, iLn1000000002, iLn1000000001, iLn99999, iLn9999, iLn2, iLn1, iL0, iL1, iL2, iL3, iL4, iL5, iL6, iL7, iL8, iL9, iL10, iL15, iL16, iL31, iL32, iL40, iL42, iL45, iL48, iL57, iL59, iL63, iL64, iL65, iL120, iL126, iL455, iL520, iL9999, iL99999, iN2, iN8, iN64, iN65, iN120, iN130, iN520, h1]
        refine ⟨fun c5 => ?_, fun c5 => ?_⟩
        · have hk := keep M3 (hFm2.tr hF3) (by rw [bsz_s, if_neg (by omega)])
          rw [if_neg c4] at hk
          exact hk
        · exact take M3 (hFm2.tr hF3) (by rw [bsz_s, if_pos ⟨by omega, Or.inr c5⟩])
    exact key 31 0 M (by omega) mFr.rf
  · rw [if_neg c] at hQ0
    exact hQ0
theorem i_shr : ∀ k, k < 4 → ((8 : Int32) >>> ((iI (k : Nat)) &&& 31)).toInt64 = lI ((8 / 2 ^ k : Nat) : Int) := by decide +kernel
theorem s_md_noiseAt (hG : qGood Ls xs P) {m : Nat} (hX : mX M n f) (hm : 1 ≤ m) (hm2 : m ≤ 15) (hQ : ∀ M', mFr M M' → Q (some (.int (iI (knd n f m)))) M') : P 136 0 [(0, .ref 36), (1, .int (iI m))] [] M Q := by
  have w0 : wOK 0 := ⟨by decide, by decide⟩
  have b := vND hX.ok hX.2.1 (m := m) (by omega) (by omega) w0
  have b2 := vND hX.ok hX.2.1 (m := 2 * m) (by omega) (by omega) w0
  unfold knd at hQ
  refine v_md_noiseAt_0 hG ?_
  rw [show (0 : Int32) = iI 0 by decide]
  refine s_md_layVariance hG hX w0 (by omega) (by omega) (fun M1 hM1 hM2 hV => ?_)
  have hq1 := hQ M1 (mFr.of hM1 hM2)
  refine v_md_noiseAt_4 hG ?_
  have hz3 := bZ_in (vD n f 0 m ≠ 0)
  simp (disch := omega) only [iI_add, iI_sub, iI_mul, iI_neg, iI_lt, iI_le, iI_eq, iI_cl, vp_iI, Classical.not_not, iLn1000000005, iLn1000000004, iLn1000000003, iLn1000000002, iLn1000000001, iLn99999, iLn9999, iLn2, iLn1, iL0, iL1, iL2, iL3, iL4, iL5, iL6, iL7, iL8, iL9, iL10, iL15, iL16, iL31, iL32, iL40, iL42, iL45, iL48, iL57, iL59, iL63, iL64, iL65, iL120, iL126, iL455, iL520, iL9999, iL99999, iN2, iN8, iN64, iN65, iN120, iN130, iN520, bZ_0]
  refine ⟨fun c => ?_, fun c => ?_⟩
  · rw [if_pos (by omega)] at hq1
    exact hq1
  have hz5 := cmpZ_in (vN n f 0 m : Int) 0
  rw [(hV c).1, (hV c).2, lL0, lg_cmpZ (by omega) (by omega) (by omega) (by omega), show 2 * (m : Int) = ((2 * m : Nat) : Int) by omega, show (3 : Int64) = lI 3 by decide, lI_mul]
  simp (disch := omega) only [iI_add, iI_sub, iI_mul, iI_neg, iI_lt, iI_le, iI_eq, iI_cl, vp_iI, Classical.not_not, iLn1000000005, iLn1000000004, iLn1000000003, iLn1000000002, iLn1000000001, iLn99999, iLn9999, iLn2, iLn1, iL0, iL1, iL2, iL3, iL4, iL5, iL6, iL7, iL8, iL9, iL10, iL15, iL16, iL31, iL32, iL40, iL42, iL45, iL48, iL57, iL59, iL63, iL64, iL65, iL120, iL126, iL455, iL520, iL9999, iL99999, iN2, iN8, iN64, iN65, iN120, iN130, iN520, cmpZ_0]
  refine ⟨fun c3 => ?_, fun c3 => ?_⟩
  · refine s_md_layVariance hG (hX.fm (by rw [hM1])) w0 (by omega) (by omega) (fun M2 hM3 hM4 hV2 => ?_)
    have hq := hQ M2 ((mFr.of hM1 hM2).tr (mFr.of hM3 hM4))
    refine v_md_noiseAt_26 hG ?_
    have hz4 := bZ_in (vD n f 0 (2 * m) ≠ 0)
    simp (disch := omega) only [iI_add, iI_sub, iI_mul, iI_neg, iI_lt, iI_le, iI_eq, iI_cl, vp_iI, Classical.not_not, iLn1000000005, iLn1000000004, iLn1000000003, iLn1000000002, iLn1000000001, iLn99999, iLn9999, iLn2, iLn1, iL0, iL1, iL2, iL3, iL4, iL5, iL6, iL7, iL8, iL9, iL10, iL15, iL16, iL31, iL32, iL40, iL42, iL45, iL48, iL57, iL59, iL63, iL64, iL65, iL120, iL126, iL455, iL520, iL9999, iL99999, iN2, iN8, iN64, iN65, iN120, iN130, iN520, bZ_0]
    refine ⟨fun c2 => ?_, fun c2 => ?_⟩
    · rw [if_neg (by omega)] at hq
      have e3 : 3 * ((vN n f 0 m : Nat) : Int) = ((3 * vN n f 0 m : Nat) : Int) := by omega
      rw [e3]
      have step : ∀ (F k : Nat), k < 4 → F = 8 / 2 ^ k → F ≤ 8 → (nzc n f m F ≤ 0 → Q (some (.int (iI (k : Nat)))) M2) → (¬ nzc n f m F ≤ 0 → P 136 31 [(0, .ref 36), (2, .long (lI ((3 * vN n f 0 m : Nat) : Int))), (4, .long (lI (vD n f 0 m))), (6, .int (iI (k + 1 : Nat)))] [] M2 Q) → P 136 31 [(0, .ref 36), (2, .long (lI ((3 * vN n f 0 m : Nat) : Int))), (4, .long (lI (vD n f 0 m))), (6, .int (iI (k : Nat)))] [] M2 Q := by
        intro F k k1 hF f2 q1 q2
        refine v_md_noiseAt_31 hG ?_
        rw [show (8 : Int32) >>> (iI (k : Nat) &&& 31) = (8 : Int32) >>> (iI (k : Nat) &&& 31) from rfl, i_shr k k1, ← hF, (hV2 c2).1, (hV2 c2).2, lI_mul]
        have u1 : F * vN n f 0 (2 * m) ≤ 8 * vN n f 0 (2 * m) := Nat.mul_le_mul_right _ f2
        have e4 : ((F : Nat) : Int) * ((vN n f 0 (2 * m) : Nat) : Int) = ((F * vN n f 0 (2 * m) : Nat) : Int) := (Int.natCast_mul _ _).symm
        rw [e4]
        simp (disch := omega) only [iI_add, iI_sub, iI_mul, iI_neg, iI_lt, iI_le, iI_eq, iI_cl, vp_iI, Classical.not_not, iLn1000000005, iLn1000000004, iLn1000000003, iLn1000000002, iLn1000000001, iLn99999, iLn9999, iLn2, iLn1, iL0, iL1, iL2, iL3, iL4, iL5, iL6, iL7, iL8, iL9, iL10, iL15, iL16, iL31, iL32, iL40, iL42, iL45, iL48, iL57, iL59, iL63, iL64, iL65, iL120, iL126, iL455, iL520, iL9999, iL99999, iN2, iN8, iN64, iN65, iN120, iN130, iN520]
        refine ⟨fun c4 => by omega, fun _ => ?_⟩
        refine s_md_order hG (by omega) (by omega) (by omega) (by omega) (by omega) (by omega) ?_
        refine v_md_noiseAt_46 hG ?_
        have hcc : nzc n f m F = cmpZ (F * vN n f 0 (2 * m) * vD n f 0 m : Nat) (3 * vN n f 0 m * vD n f 0 (2 * m) : Nat) := rfl
        have hz6 := cmpZ_in (F * vN n f 0 (2 * m) * vD n f 0 m : Nat) (3 * vN n f 0 m * vD n f 0 (2 * m) : Nat)
        rw [← hcc] at hz6 ⊢
        simp (disch := omega) only [iI_add, iI_sub, iI_mul, iI_neg, iI_lt, iI_le, iI_eq, iI_cl, vp_iI, Classical.not_not, iLn1000000005, iLn1000000004, iLn1000000003, iLn1000000002, iLn1000000001, iLn99999, iLn9999, iLn2, iLn1, iL0, iL1, iL2, iL3, iL4, iL5, iL6, iL7, iL8, iL9, iL10, iL15, iL16, iL31, iL32, iL40, iL42, iL45, iL48, iL57, iL59, iL63, iL64, iL65, iL120, iL126, iL455, iL520, iL9999, iL99999, iN2, iN8, iN64, iN65, iN120, iN130, iN520]
        exact ⟨fun c4 => q2 (by omega), fun c4 => q1 (by omega)⟩
      refine step 8 0 (by omega) (by decide) (by omega) (fun d => ?_) (fun d => ?_)
      · rw [if_pos d] at hq; exact hq
      rw [if_neg d] at hq
      refine step 4 1 (by omega) (by decide) (by omega) (fun d => ?_) (fun d => ?_)
      · rw [if_pos d] at hq; exact hq
      rw [if_neg d] at hq
      refine step 2 2 (by omega) (by decide) (by omega) (fun d => ?_) (fun d => ?_)
      · rw [if_pos d] at hq; exact hq
      rw [if_neg d] at hq
      refine step 1 3 (by omega) (by decide) (by omega) (fun d => ?_) (fun d => ?_)
      · rw [if_pos d] at hq; exact hq
      rw [if_neg d] at hq
      refine v_md_noiseAt_31 hG ?_
      simp (disch := omega) only [iI_add, iI_sub, iI_mul, iI_neg, iI_lt, iI_le, iI_eq, iI_cl, vp_iI, Classical.not_not, iLn1000000005, iLn1000000004, iLn1000000003, iLn1000000002, iLn1000000001, iLn99999, iLn9999, iLn2, iLn1, iL0, iL1, iL2, iL3, iL4, iL5, iL6, iL7, iL8, iL9, iL10, iL15, iL16, iL31, iL32, iL40, iL42, iL45, iL48, iL57, iL59, iL63, iL64, iL65, iL120, iL126, iL455, iL520, iL9999, iL99999, iN2, iN8, iN64, iN65, iN120, iN130, iN520]
      exact ⟨fun _ => hq, fun c4 => by omega⟩
    · rw [if_pos (by omega)] at hq
      exact hq
  · rw [if_pos (by omega)] at hq1
    exact hq1
theorem M_noise (hG : qGood Ls xs P) {m : Int} (hX : mX M n f) (hm : r32 m) (hQ : ∀ M', mFr M M' → Q (some (.int (iI (aNoise n f m)))) M') : P 137 0 [(0, .ref 36), (1, .int (iI m))] [] M Q := by
  have hQ0 := hQ M mFr.rf
  obtain ⟨h1, h2⟩ := hm
  unfold aNoise at hQ hQ0
  refine v_md_noise_0 hG ?_
  simp (disch := omega) only [iI_add, iI_sub, iI_mul, iI_neg, iI_lt, iI_le, iI_eq, iI_cl, vp_iI, Classical.not_not, iLn1000000005, iLn1000000004, iLn1000000003, iLn1000000002, iLn1000000001, iLn99999, iLn9999, iLn2, iLn1, iL0, iL1, iL2, iL3, iL4, iL5, iL6, iL7, iL8, iL9, iL10, iL15, iL16, iL31, iL32, iL40, iL42, iL45, iL48, iL57, iL59, iL63, iL64, iL65, iL120, iL126, iL455, iL520, iL9999, iL99999, iN2, iN8, iN64, iN65, iN120, iN130, iN520]
  refine s_md_isIn hG (by omega) (by omega) (by omega) (by omega) (by omega) (by omega) ?_
  refine v_md_noise_4 hG ?_
  have hz := bZ_in (1 ≤ m ∧ m ≤ 15)
  simp (disch := omega) only [iI_add, iI_sub, iI_mul, iI_neg, iI_lt, iI_le, iI_eq, iI_cl, vp_iI, Classical.not_not, iLn1000000005, iLn1000000004, iLn1000000003, iLn1000000002, iLn1000000001, iLn99999, iLn9999, iLn2, iLn1, iL0, iL1, iL2, iL3, iL4, iL5, iL6, iL7, iL8, iL9, iL10, iL15, iL16, iL31, iL32, iL40, iL42, iL45, iL48, iL57, iL59, iL63, iL64, iL65, iL120, iL126, iL455, iL520, iL9999, iL99999, iN2, iN8, iN64, iN65, iN120, iN130, iN520, bZ_0]
  refine ⟨fun c => ?_, fun c => ?_⟩
  · rw [if_neg c] at hQ0
    exact hQ0
  · simp only [if_pos c] at hQ
    have e : m = ((m.toNat : Nat) : Int) := by omega
    rw [e]
    exact s_md_noiseAt hG hX (by omega) (by omega) (fun M' hF => v_md_noise_8 hG (hQ M' hF))
theorem M_freedom (hG : qGood Ls xs P) {m : Int} (hX : mX M n f) (hm : r32 m) (hQ : ∀ M', mFr M M' → Q (some (.int (iI (aFree n f m)))) M') : P 138 0 [(0, .ref 36), (1, .int (iI m))] [] M Q := by
  have hQ0 := hQ M mFr.rf
  obtain ⟨h1, h2⟩ := hm
  have hn := hX.2.1
  unfold aFree at hQ hQ0
  refine v_md_freedom_0 hG ?_
  simp (disch := omega) only [iI_add, iI_sub, iI_mul, iI_neg, iI_lt, iI_le, iI_eq, iI_cl, vp_iI, Classical.not_not, iLn1000000005, iLn1000000004, iLn1000000003, iLn1000000002, iLn1000000001, iLn99999, iLn9999, iLn2, iLn1, iL0, iL1, iL2, iL3, iL4, iL5, iL6, iL7, iL8, iL9, iL10, iL15, iL16, iL31, iL32, iL40, iL42, iL45, iL48, iL57, iL59, iL63, iL64, iL65, iL120, iL126, iL455, iL520, iL9999, iL99999, iN2, iN8, iN64, iN65, iN120, iN130, iN520]
  refine s_md_isIn hG (by omega) (by omega) (by omega) (by omega) (by omega) (by omega) ?_
  refine v_md_freedom_4 hG ?_
  have hz := bZ_in (1 ≤ m ∧ m ≤ 15)
  simp (disch := omega) only [iI_add, iI_sub, iI_mul, iI_neg, iI_lt, iI_le, iI_eq, iI_cl, vp_iI, Classical.not_not, iLn1000000005, iLn1000000004, iLn1000000003, iLn1000000002, iLn1000000001, iLn99999, iLn9999, iLn2, iLn1, iL0, iL1, iL2, iL3, iL4, iL5, iL6, iL7, iL8, iL9, iL10, iL15, iL16, iL31, iL32, iL40, iL42, iL45, iL48, iL57, iL59, iL63, iL64, iL65, iL120, iL126, iL455, iL520, iL9999, iL99999, iN2, iN8, iN64, iN65, iN120, iN130, iN520, bZ_0]
  refine ⟨fun c => ?_, fun c => ?_⟩
  · simp only [if_pos c] at hQ
    have e : m = ((m.toNat : Nat) : Int) := by omega
    generalize hmm : m.toNat = mn at *
    subst e
    refine s_md_noiseAt hG hX (by omega) (by omega) (fun M1 hF => ?_)
    have hq := hQ M1 hF
    have hki := knd_in n f mn
    refine v_md_freedom_10 hG ?_
    simp (disch := omega) only [iI_add, iI_sub, iI_mul, iI_neg, iI_lt, iI_le, iI_eq, iI_cl, vp_iI, Classical.not_not, iLn1000000005, iLn1000000004, iLn1000000003, iLn1000000002, iLn1000000001, iLn99999, iLn9999, iLn2, iLn1, iL0, iL1, iL2, iL3, iL4, iL5, iL6, iL7, iL8, iL9, iL10, iL15, iL16, iL31, iL32, iL40, iL42, iL45, iL48, iL57, iL59, iL63, iL64, iL65, iL120, iL126, iL455, iL520, iL9999, iL99999, iN2, iN8, iN64, iN65, iN120, iN130, iN520]
    refine ⟨fun c3 => ?_, fun c3 => ?_⟩
    · rw [if_neg c3] at hq
      have hc1 := knd_c hX.ok hX.2.1 (m := mn) (by omega) (by omega) c3
      have hb := cz_in (fun j => decide (dif n f 2 mn j ≠ (-1000000001))) n
      have e : cnd n f 2 mn = cz (fun j => decide (dif n f 2 mn j ≠ (-1000000001))) n := rfl
      rw [← e] at hb
      refine s_md_countOf hG (hX.fr hF) (by omega) (by omega) (by omega) ?_
      generalize hcg : cnd n f 2 mn = cc at *
      generalize hkg : knd n f mn = k at *
      have m1 := mul_bd (A := 65) (C := 94) (a := cc + 1) (c := cc + 2 * (mn : Int)) (by omega) (by omega) (by omega) (by omega)
      have m2 := mul_bd (A := 192) (C := 64) (a := 3 * cc) (c := cc) (by omega) (by omega) (by omega) (by omega)
      have m3 := mul_bd (A := 320) (C := 64) (a := 5 * cc) (c := cc) (by omega) (by omega) (by omega) (by omega)
      have p1 := Int.mul_nonneg (a := cc + 1) (b := cc + 2 * (mn : Int)) (by omega) (by omega)
      have p2 := Int.mul_nonneg (a := 3 * cc) (b := cc) (by omega) (by omega)
      have p3 := Int.mul_nonneg (a := 5 * cc) (b := cc) (by omega) (by omega)
      have g : ∀ x y : Int, 0 ≤ x → x ≤ 100000 → 0 < y → 0 ≤ x / y ∧ x / y ≤ 100000 := by
        intro x y h1 h2 h3
        have h4 := Int.ediv_nonneg h1 (Int.le_of_lt h3)
        have h5 := Int.ediv_le_self y h1
        omega
      have g1 := g ((cc + 1) * (cc + 2 * (mn : Int))) (2 * (cc + mn)) p1 (by omega) (by omega)
      have g2 := g (3 * cc * cc) (2 * (cc + mn)) p2 (by omega) (by omega)
      have g3 := g (5 * cc * cc) (4 * (cc + 3 * (mn : Int))) p3 (by omega) (by omega)
      have g4 := g cc (mn : Int) (by omega) (by omega) (by omega)
      refine v_md_freedom_20 hG ?_
      simp only [iL0, iL1, iL2, iL3, iL4, iL5, iI_mul, iI_add]
      rw [iI_div p1 (by omega) (by omega) (by omega), iI_div p2 (by omega) (by omega) (by omega), iI_div p3 (by omega) (by omega) (by omega), iI_div (by omega) (by omega) (by omega) (by omega)]
      unfold dof at hq
      simp (disch := omega) only [iI_add, iI_sub, iI_mul, iI_neg, iI_lt, iI_le, iI_eq, iI_cl, vp_iI, Classical.not_not, iLn1000000005, iLn1000000004, iLn1000000003, iLn1000000002, iLn1000000001, iLn99999, iLn9999, iLn2, iLn1, iL0, iL1, iL2, iL3, iL4, iL5, iL6, iL7, iL8, iL9, iL10, iL15, iL16, iL31, iL32, iL40, iL42, iL45, iL48, iL57, iL59, iL63, iL64, iL65, iL120, iL126, iL455, iL520, iL9999, iL99999, iN2, iN8, iN64, iN65, iN120, iN130, iN520]
      refine ⟨fun d0 => ⟨fun d1 => ⟨fun d2 => ⟨by omega, fun d3 => q_i ?_ hq, fun d3 => q_i ?_ hq⟩, fun d2 => ⟨by omega, fun d3 => q_i ?_ hq, fun d3 => q_i ?_ hq⟩⟩, fun d1 => ⟨by omega, fun d3 => q_i ?_ hq, fun d3 => q_i ?_ hq⟩⟩, fun d0 => ⟨by omega, fun d3 => q_i ?_ hq, fun d3 => q_i ?_ hq⟩⟩
      · rw [if_neg d0, if_neg d1, if_neg d2, if_neg (by omega)]
      · rw [if_neg d0, if_neg d1, if_neg d2, if_pos (by omega)]
      · rw [if_neg d0, if_neg d1, if_pos d2, if_neg (by omega)]
      · rw [if_neg d0, if_neg d1, if_pos d2, if_pos (by omega)]
      · rw [if_neg d0, if_pos d1, if_neg (by omega)]
      · rw [if_neg d0, if_pos d1, if_pos (by omega)]
      · rw [if_pos d0, if_neg (by omega)]
      · rw [if_pos d0, if_pos (by omega)]
    · rw [if_pos c3] at hq
      exact hq
  · rw [if_neg c] at hQ0
    exact hQ0
theorem M_told (hG : qGood Ls xs P) {w tl d : Int} (hX : mX M n f) (hT : M.1 36 6 = iI tl) (hD : M.1 36 2 = iI d) (hw : r32 w) (hQ : Q (some (.int (iI (aTold n f tl d w)))) M) : P 117 0 [(0, .ref 36), (1, .int (iI w))] [] M Q := by
  obtain ⟨h1, h2⟩ := hw
  unfold aTold at hQ
  refine v_md_told_0 hG ?_
  rw [hT, hD, show Int32.ofInt 0 = iI 0 from rfl, show Int32.ofInt 1 = iI 1 from rfl, show Int32.ofInt 2 = iI 2 from rfl, show Int32.ofInt 3 = iI 3 from rfl, show Int32.ofInt 4 = iI 4 from rfl, show Int32.ofInt 5 = iI 5 from rfl, show Int32.ofInt 6 = iI 6 from rfl, show Int32.ofInt 7 = iI 7 from rfl, show Int32.ofInt 8 = iI 8 from rfl]
  simp (disch := omega) only [iI_add, iI_sub, iI_mul, iI_neg, iI_lt, iI_le, iI_eq, iI_cl, vp_iI, Classical.not_not, iLn1000000005, iLn1000000004, iLn1000000003, iLn1000000002, iLn1000000001, iLn99999, iLn9999, iLn2, iLn1, iL0, iL1, iL2, iL3, iL4, iL5, iL6, iL7, iL8, iL9, iL10, iL15, iL16, iL31, iL32, iL40, iL42, iL45, iL48, iL57, iL59, iL63, iL64, iL65, iL120, iL126, iL455, iL520, iL9999, iL99999, iN2, iN8, iN64, iN65, iN120, iN130, iN520]
  refine ⟨fun c => ?_, fun c => ?_⟩
  · rw [if_pos c] at hQ
    exact s_md_many hG hX (v_md_told_4 hG hQ)
  rw [if_neg c] at hQ
  refine ⟨fun c => ?_, fun c => ?_⟩
  · rw [if_pos c] at hQ
    exact s_md_present hG hX (v_md_told_7 hG hQ)
  rw [if_neg c] at hQ
  refine ⟨fun c => ?_, fun c => ?_⟩
  · rw [if_pos c] at hQ
    exact s_md_end hG hX (Or.inr rfl) (v_md_told_11 hG hQ)
  rw [if_neg c] at hQ
  refine ⟨fun c => ?_, fun c => ?_⟩
  · rw [if_pos c] at hQ
    exact s_md_end hG hX (Or.inl rfl) (v_md_told_15 hG hQ)
  rw [if_neg c] at hQ
  refine ⟨fun c => ?_, fun c => ?_⟩
  · rw [if_pos c] at hQ
    exact s_md_gaps hG hX (Or.inl rfl) (v_md_told_19 hG hQ)
  rw [if_neg c] at hQ
  refine ⟨fun c => ?_, fun c => ?_⟩
  · rw [if_pos c] at hQ
    exact s_md_gaps hG hX (Or.inr rfl) (v_md_told_23 hG hQ)
  rw [if_neg c] at hQ
  refine ⟨fun c => ?_, fun c => ?_⟩
  · rw [if_pos c] at hQ
    exact s_md_widest hG hX (v_md_told_26 hG hQ)
  rw [if_neg c] at hQ
  refine ⟨fun c => ?_, fun c => ?_⟩
  · rw [if_pos c] at hQ
    exact hQ
  rw [if_neg c] at hQ
  refine ⟨fun c => ?_, fun c => ?_⟩
  · rw [if_pos c] at hQ
    exact hQ
  rw [if_neg c] at hQ
  exact hQ
theorem M_outliers (hG : qGood Ls xs P) {lim : Int} (hX : mX M n f) (hl : r32 lim) (hQ : ∀ M', mFr M M' → Q (some (.int (iI (aOutl n f lim)))) M') : P 139 0 [(0, .ref 36), (1, .int (iI lim))] [] M Q := by
  have hQ0 := hQ M mFr.rf
  obtain ⟨h1, h2⟩ := hl
  unfold aOutl at hQ hQ0
  refine v_md_outliers_0 hG ?_
  simp (disch := omega) only [iI_add, iI_sub, iI_mul, iI_neg, iI_lt, iI_le, iI_eq, iI_cl, vp_iI, Classical.not_not, iLn1000000005, iLn1000000004, iLn1000000003, iLn1000000002, iLn1000000001, iLn99999, iLn9999, iLn2, iLn1, iL0, iL1, iL2, iL3, iL4, iL5, iL6, iL7, iL8, iL9, iL10, iL15, iL16, iL31, iL32, iL40, iL42, iL45, iL48, iL57, iL59, iL63, iL64, iL65, iL120, iL126, iL455, iL520, iL9999, iL99999, iN2, iN8, iN64, iN65, iN120, iN130, iN520]
  refine s_md_isIn hG (by omega) (by omega) (by omega) (by omega) (by omega) (by omega) ?_
  refine v_md_outliers_4 hG ?_
  have hz := bZ_in (0 ≤ lim ∧ lim ≤ 99999)
  simp (disch := omega) only [iI_add, iI_sub, iI_mul, iI_neg, iI_lt, iI_le, iI_eq, iI_cl, vp_iI, Classical.not_not, iLn1000000005, iLn1000000004, iLn1000000003, iLn1000000002, iLn1000000001, iLn99999, iLn9999, iLn2, iLn1, iL0, iL1, iL2, iL3, iL4, iL5, iL6, iL7, iL8, iL9, iL10, iL15, iL16, iL31, iL32, iL40, iL42, iL45, iL48, iL57, iL59, iL63, iL64, iL65, iL120, iL126, iL455, iL520, iL9999, iL99999, iN2, iN8, iN64, iN65, iN120, iN130, iN520, bZ_0]
  refine ⟨fun c => ?_, fun c => ?_⟩
  · rw [if_neg c] at hQ0
    exact hQ0
  · simp only [if_pos c] at hQ
    exact s_md_layOutliers hG hX c.1 c.2 (fun M' hF _ => v_md_outliers_8 hG (hQ M' (mFr.of42 hF)))
end MDQ
