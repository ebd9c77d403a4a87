/-! thin and removeOutliers, both sides -/
theorem thz_le (n e : Nat) : ∀ c i, thz n e c i ≤ c := by
  intro c
  induction c with
  | zero => intro i; exact Nat.le_refl _
  | succ c ih =>
    intro i
    rw [thz_s]
    split
    · have := ih (i + e); omega
    · omega
theorem thz_0 {n e c i : Nat} (h : n ≤ i) : thz n e c i = 0 := by
  cases c with
  | zero => rfl
  | succ c => rw [thz_s, if_neg (by omega)]
section TH
variable {Ls : Nat} {xs : Nat → Int32} {P : qSem} {M : qMem} {Q : qPost} {s : zSt}
theorem q3Rd : qRd 3 := ⟨rfl, rfl, rfl⟩
theorem C_thin (hG : qGood Ls xs P) {e k : Int} (hS : CS s M) (he : r32 e) (hk : r32 k) (hQ : ∀ M', cFrm M M' → CS (tThin s e k).2 M' → Q (some (.int (iI (tThin s e k).1))) M') : P 43 0 [(0, .ref 0), (1, .int (iI e)), (2, .int (iI k))] [] M Q := by
  obtain ⟨g1, g2⟩ := he
  obtain ⟨g3, g4⟩ := hk
  have hQ0 := hQ M cFrm.rf
  have hn := hS.1.2.1
  unfold tThin at hQ hQ0
  refine v_sa_thin_0 hG ?_
  simp (disch := omega) only [iI_add, iI_sub, iI_mul, iI_neg, iI_lt, iI_le, iI_eq, iI_cl, vp_iI, Classical.not_not, iLn1000000005, iLn1000000004, iLn1000000003, iLn1000000002, iLn1000000001, iLn99999, iLn9999, iLn2, iLn1, iL0, iL1, iL2, iL3, iL4, iL5, iL6, iL7, iL8, iL9, iL10, iL15, iL16, iL31, iL32, iL40, iL42, iL45, iL48, iL57, iL59, iL63, iL64, iL65, iL120, iL126, iL455, iL520, iL9999, iL99999, iN2, iN8, iN64, iN65, iN120, iN130, iN520]
  refine ⟨fun c => ?_, fun c => ⟨fun c2 => ?_, fun c2 => ⟨fun c3 => ?_, fun c3 => ⟨fun c4 => ?_, fun c4 => ?_⟩⟩⟩⟩
  · simp only [if_neg (show ¬ ((1 ≤ e ∧ e ≤ 16) ∧ 0 ≤ k ∧ k < e) by omega)] at hQ0
    exact hQ0 hS
  · simp only [if_neg (show ¬ ((1 ≤ e ∧ e ≤ 16) ∧ 0 ≤ k ∧ k < e) by omega)] at hQ0
    exact hQ0 hS
  · simp only [if_neg (show ¬ ((1 ≤ e ∧ e ≤ 16) ∧ 0 ≤ k ∧ k < e) by omega)] at hQ0
    exact hQ0 hS
  · simp only [if_pos (show ((1 ≤ e ∧ e ≤ 16) ∧ 0 ≤ k ∧ k < e) by omega)] at hQ
    have ee : e = ((e.toNat : Nat) : Int) := by omega
    have ek : k = ((k.toNat : Nat) : Int) := by omega
    generalize e.toNat = en at *
    generalize k.toNat = kn at *
    subst ee
    subst ek
    refine s_rd_empty (f := fun j => s.1.2 (kn + en * j)) hG q3Rd (fun M0 hR0 hF0 => ?_)
    refine v_sa_thin_16 hG ?_
    have key : ∀ (c j i : Nat) (M1 : qMem), j + c = 64 → j ≤ i → i ≤ 100 → i = kn + en * j → j + thz s.1.1 en c i = thz s.1.1 en 64 kn → qFm [3, 4] M M1 → cRd M1 3 j (fun j => s.1.2 (kn + en * j)) → P 43 18 [(0, .ref 0), (1, .int (iI en)), (3, .int (iI i))] [] M1 Q := by
      intro c
      induction c with
      | zero =>
        intro j i M1 hj hji hi100 hi ht hF1 hR1
        have hS1 := hS.nx hF1 (by decide)
        refine v_sa_thin_18 hG ?_
        refine s_rd_size hG q1Rd hS1.1 ?_
        refine v_sa_thin_22 hG ?_
        simp (disch := omega) only [iI_add, iI_sub, iI_mul, iI_neg, iI_lt, iI_le, iI_eq, iI_cl, vp_iI, Classical.not_not, iLn1000000005, iLn1000000004, iLn1000000003, iLn1000000002, iLn1000000001, iLn99999, iLn9999, iLn2, iLn1, iL0, iL1, iL2, iL3, iL4, iL5, iL6, iL7, iL8, iL9, iL10, iL15, iL16, iL31, iL32, iL40, iL42, iL45, iL48, iL57, iL59, iL63, iL64, iL65, iL120, iL126, iL455, iL520, iL9999, iL99999, iN2, iN8, iN64, iN65, iN120, iN130, iN520]
        refine ⟨fun _ => ?_, fun c => by omega⟩
        refine C_rec hG hS1 (fun M2 hR2 hF2 hK => ?_)
        refine v_sa_thin_40 hG ?_
        refine s_rd_copyFrom hG q1Rd q3Rd (by omega) (by decide) (hR1.fm hF2 (by decide) (by decide)) (fun M3 hR3 hF3 => ?_)
        refine v_sa_thin_45 hG ?_
        refine s_rd_size hG q1Rd hR3 ?_
        refine v_sa_thin_48 hG ?_
        have ej : j = thz s.1.1 en 64 kn := by rw [← ht]; rfl
        obtain ⟨k1, k2⟩ := hK M3 (j, fun j => s.1.2 (kn + en * j)) hF3 hR3
        rw [← ej] at hQ
        refine hQ M3 (fun a ha => ?_) k2
        rw [k1 a ha, (hF1 a (by simp only [List.mem_cons, List.not_mem_nil, or_false, not_or]; omega)).1]
      | succ c ih =>
        intro j i M1 hj hji hi100 hi ht hF1 hR1
        have hS1 := hS.nx hF1 (by decide)
        refine v_sa_thin_18 hG ?_
        refine s_rd_size hG q1Rd hS1.1 ?_
        refine v_sa_thin_22 hG ?_
        simp (disch := omega) only [iI_add, iI_sub, iI_mul, iI_neg, iI_lt, iI_le, iI_eq, iI_cl, vp_iI, Classical.not_not, iLn1000000005, iLn1000000004, iLn1000000003, iLn1000000002, iLn1000000001, iLn99999, iLn9999, iLn2, iLn1, iL0, iL1, iL2, iL3, iL4, iL5, iL6, iL7, iL8, iL9, iL10, iL15, iL16, iL31, iL32, iL40, iL42, iL45, iL48, iL57, iL59, iL63, iL64, iL65, iL120, iL126, iL455, iL520, iL9999, iL99999, iN2, iN8, iN64, iN65, iN120, iN130, iN520]
        refine ⟨fun c5 => ?_, fun c5 => ?_⟩
        · refine C_rec hG hS1 (fun M2 hR2 hF2 hK => ?_)
          refine v_sa_thin_40 hG ?_
          refine s_rd_copyFrom hG q1Rd q3Rd (by omega) (by decide) (hR1.fm hF2 (by decide) (by decide)) (fun M3 hR3 hF3 => ?_)
          refine v_sa_thin_45 hG ?_
          refine s_rd_size hG q1Rd hR3 ?_
          refine v_sa_thin_48 hG ?_
          have ej : j = thz s.1.1 en 64 kn := by rw [← ht, thz_0 (by omega)]; rfl
          obtain ⟨k1, k2⟩ := hK M3 (j, fun j => s.1.2 (kn + en * j)) hF3 hR3
          rw [← ej] at hQ
          refine hQ M3 (fun a ha => ?_) k2
          rw [k1 a ha, (hF1 a (by simp only [List.mem_cons, List.not_mem_nil, or_false, not_or]; omega)).1]
        · refine s_rd_at hG q1Rd hS1.1 (by omega) (by omega) ?_
          refine v_sa_thin_29 hG ?_
          refine s_rd_append hG q3Rd hR1 (vl_ok hS.1.ok _) (by omega) (fun M2 hR2 hF2 => ?_)
          refine v_sa_thin_30 hG ?_
          simp (disch := omega) only [iI_add, iI_sub, iI_mul, iI_neg, iI_lt, iI_le, iI_eq, iI_cl, vp_iI, Classical.not_not, iLn1000000005, iLn1000000004, iLn1000000003, iLn1000000002, iLn1000000001, iLn99999, iLn9999, iLn2, iLn1, iL0, iL1, iL2, iL3, iL4, iL5, iL6, iL7, iL8, iL9, iL10, iL15, iL16, iL31, iL32, iL40, iL42, iL45, iL48, iL57, iL59, iL63, iL64, iL65, iL120, iL126, iL455, iL520, iL9999, iL99999, iN2, iN8, iN64, iN65, iN120, iN130, iN520]
          rw [thz_s, if_pos (by omega)] at ht
          refine ih (j + 1) (i + en) M2 (by omega) (by omega) (by omega) (by rw [Nat.mul_succ]; omega) (by omega) (hF1.tr hF2) (hR2.eqv (fun q hq => ?_))
          by_cases eq : q = j
          · rw [if_pos eq, eq, ← hi]
            unfold vl
            rw [if_pos (by omega)]
            congr 1
          · rw [if_neg eq]
    exact key 64 0 kn M0 (by omega) (by omega) (by omega) (by omega) (by omega) (hF0.up (by decide)) hR0
  · simp only [if_neg (show ¬ ((1 ≤ e ∧ e ≤ 16) ∧ 0 ≤ k ∧ k < e) by omega)] at hQ0
    exact hQ0 hS
theorem C_removeOutliers (hG : qGood Ls xs P) {lim : Int} (hS : CS s M) (hl : r32 lim) (hQ : ∀ M', cFrm M M' → CS (tOutl s lim).2 M' → Q (some (.int (iI (tOutl s lim).1))) M') : P 41 0 [(0, .ref 0), (1, .int (iI lim))] [] M Q := by
  have hQ0 := hQ M cFrm.rf
  have hn := hS.1.2.1
  unfold tOutl at hQ hQ0
  refine v_sa_removeOutliers_0 hG ?_
  refine s_sa_isLimit hG hl ?_
  refine v_sa_removeOutliers_2 hG ?_
  have hz := bZ_in (0 ≤ lim ∧ lim ≤ 99999)
  simp (disch := omega) only [iI_add, iI_sub, iI_mul, iI_neg, iI_lt, iI_le, iI_eq, iI_cl, vp_iI, Classical.not_not, iLn1000000005, iLn1000000004, iLn1000000003, iLn1000000002, iLn1000000001, iLn99999, iLn9999, iLn2, iLn1, iL0, iL1, iL2, iL3, iL4, iL5, iL6, iL7, iL8, iL9, iL10, iL15, iL16, iL31, iL32, iL40, iL42, iL45, iL48, iL57, iL59, iL63, iL64, iL65, iL120, iL126, iL455, iL520, iL9999, iL99999, iN2, iN8, iN64, iN65, iN120, iN130, iN520, bZ_0]
  refine ⟨fun c => ?_, fun c => ?_⟩
  · simp only [if_pos c] at hQ
    refine s_rd_copyFrom hG q3Rd q1Rd (by omega) (by decide) hS.1 (fun M0 hR0 hF0 => ?_)
    refine v_sa_removeOutliers_12 hG ?_
    have key : ∀ (c' j : Nat) (M1 : qMem), j + c' = s.1.1 → qFm [3, 4] M M1 → cRd M1 3 s.1.1 (fun i => if i < j ∧ otl s.1.1 s.1.2 lim i = true then (-1000000001) else s.1.2 i) → P 41 14 [(0, .ref 0), (1, .int (iI lim)), (2, .int (iI (cz (otl s.1.1 s.1.2 lim) j))), (3, .int (iI j))] [] M1 Q := by
      intro c'
      induction c' with
      | zero =>
        intro j M1 hj hF1 hR1
        have hS1 := hS.nx hF1 (by decide)
        have ej : j = s.1.1 := by omega
        subst ej
        refine v_sa_removeOutliers_14 hG ?_
        refine s_rd_size hG q1Rd hS1.1 ?_
        refine v_sa_removeOutliers_18 hG ?_
        simp (disch := omega) only [iI_add, iI_sub, iI_mul, iI_neg, iI_lt, iI_le, iI_eq, iI_cl, vp_iI, Classical.not_not, iLn1000000005, iLn1000000004, iLn1000000003, iLn1000000002, iLn1000000001, iLn99999, iLn9999, iLn2, iLn1, iL0, iL1, iL2, iL3, iL4, iL5, iL6, iL7, iL8, iL9, iL10, iL15, iL16, iL31, iL32, iL40, iL42, iL45, iL48, iL57, iL59, iL63, iL64, iL65, iL120, iL126, iL455, iL520, iL9999, iL99999, iN2, iN8, iN64, iN65, iN120, iN130, iN520]
        refine ⟨fun _ => ?_, fun c => by omega⟩
        refine C_rec hG hS1 (fun M2 hR2 hF2 hK => ?_)
        refine v_sa_removeOutliers_38 hG ?_
        refine s_rd_copyFrom hG q1Rd q3Rd (by omega) (by decide) (hR1.fm hF2 (by decide) (by decide)) (fun M3 hR3 hF3 => ?_)
        refine v_sa_removeOutliers_43 hG ?_
        obtain ⟨k1, k2⟩ := hK M3 (s.1.1, fun j => if otl s.1.1 s.1.2 lim j = true then (-1000000001) else s.1.2 j) hF3 (hR3.eqv (fun i hi => by
          show (if otl s.1.1 s.1.2 lim i = true then (-1000000001) else s.1.2 i) = (if i < s.1.1 ∧ otl s.1.1 s.1.2 lim i = true then (-1000000001) else s.1.2 i)
          by_cases q : otl s.1.1 s.1.2 lim i = true
          · rw [if_pos q, if_pos ⟨hi, q⟩]
          · rw [if_neg q, if_neg (fun z => q z.2)]))
        refine hQ M3 (fun a ha => ?_) k2
        rw [k1 a ha, (hF1 a (by simp only [List.mem_cons, List.not_mem_nil, or_false, not_or]; omega)).1]
      | succ c' ih =>
        intro j M1 hj hF1 hR1
        have hS1 := hS.nx hF1 (by decide)
        have hb := cz_in (otl s.1.1 s.1.2 lim) j
        refine v_sa_removeOutliers_14 hG ?_
        refine s_rd_size hG q1Rd hS1.1 ?_
        refine v_sa_removeOutliers_18 hG ?_
        simp (disch := omega) only [iI_add, iI_sub, iI_mul, iI_neg, iI_lt, iI_le, iI_eq, iI_cl, vp_iI, Classical.not_not, iLn1000000005, iLn1000000004, iLn1000000003, iLn1000000002, iLn1000000001, iLn99999, iLn9999, iLn2, iLn1, iL0, iL1, iL2, iL3, iL4, iL5, iL6, iL7, iL8, iL9, iL10, iL15, iL16, iL31, iL32, iL40, iL42, iL45, iL48, iL57, iL59, iL63, iL64, iL65, iL120, iL126, iL455, iL520, iL9999, iL99999, iN2, iN8, iN64, iN65, iN120, iN130, iN520]
        refine ⟨fun c => by omega, fun c5 => ?_⟩
        refine s_rd_isOutlier hG q1Rd hS1.1 (by omega) c.1 c.2 ?_
        refine v_sa_removeOutliers_24 hG ?_
        have hz := bZ_in (otl s.1.1 s.1.2 lim j = true)
        have hI := fun M1 => ih (j + 1) M1 (by omega)
        unfold cz at hI
        simp (disch := omega) only [iI_add, iI_sub, iI_mul, iI_neg, iI_lt, iI_le, iI_eq, iI_cl, vp_iI, Classical.not_not, iLn1000000005, iLn1000000004, iLn1000000003, iLn1000000002, iLn1000000001, iLn99999, iLn9999, iLn2, iLn1, iL0, iL1, iL2, iL3, iL4, iL5, iL6, iL7, iL8, iL9, iL10, iL15, iL16, iL31, iL32, iL40, iL42, iL45, iL48, iL57, iL59, iL63, iL64, iL65, iL120, iL126, iL455, iL520, iL9999, iL99999, iN2, iN8, iN64, iN65, iN120, iN130, iN520, bZ_0]
        refine ⟨fun c6 => ?_, fun c6 => ?_⟩
        · rw [if_neg c6, Int.add_zero] at hI
          refine hI M1 hF1 (hR1.eqv (fun i hi => ?_))
          by_cases q : i = j
          · subst q
            rw [if_neg (fun z => c6 z.2), if_neg (fun z => c6 z.2)]
          · by_cases q2 : i < j ∧ otl s.1.1 s.1.2 lim i = true
            · rw [if_pos q2, if_pos ⟨by omega, q2.2⟩]
            · rw [if_neg q2, if_neg (fun z => q2 ⟨by omega, z.2⟩)]
        · rw [if_pos c6] at hI
          refine s_rd_put hG q3Rd hR1 (Or.inl rfl) (by omega) (by omega) (fun M2 hR2 hF2 => ?_)
          refine v_sa_removeOutliers_30 hG ?_
          simp (disch := omega) only [iI_add, iI_sub, iI_mul, iI_neg, iI_lt, iI_le, iI_eq, iI_cl, vp_iI, Classical.not_not, iLn1000000005, iLn1000000004, iLn1000000003, iLn1000000002, iLn1000000001, iLn99999, iLn9999, iLn2, iLn1, iL0, iL1, iL2, iL3, iL4, iL5, iL6, iL7, iL8, iL9, iL10, iL15, iL16, iL31, iL32, iL40, iL42, iL45, iL48, iL57, iL59, iL63, iL64, iL65, iL120, iL126, iL455, iL520, iL9999, iL99999, iN2, iN8, iN64, iN65, iN120, iN130, iN520]
          refine hI M2 (hF1.tr hF2) (hR2.eqv (fun i hi => ?_))
          by_cases q : i = j
          · subst q
            rw [if_pos ⟨by omega, c6⟩, if_pos (by omega)]
          · rw [if_neg (show ¬ i = ((j : Nat) : Int).toNat by omega)]
            by_cases q2 : i < j ∧ otl s.1.1 s.1.2 lim i = true
            · rw [if_pos q2, if_pos ⟨by omega, q2.2⟩]
            · rw [if_neg q2, if_neg (fun z => q2 ⟨by omega, z.2⟩)]
    simp (disch := omega) only [iI_add, iI_sub, iI_mul, iI_neg, iI_lt, iI_le, iI_eq, iI_cl, vp_iI, Classical.not_not, iLn1000000005, iLn1000000004, iLn1000000003, iLn1000000002, iLn1000000001, iLn99999, iLn9999, iLn2, iLn1, iL0, iL1, iL2, iL3, iL4, iL5, iL6, iL7, iL8, iL9, iL10, iL15, iL16, iL31, iL32, iL40, iL42, iL45, iL48, iL57, iL59, iL63, iL64, iL65, iL120, iL126, iL455, iL520, iL9999, iL99999, iN2, iN8, iN64, iN65, iN120, iN130, iN520]
    exact key s.1.1 0 M0 (by omega) hF0 (hR0.eqv (fun i hi => by rw [if_neg (fun z => absurd z.1 (by omega))]))
  · simp only [if_neg c] at hQ0
    exact hQ0 hS
end TH
