/-! lines and drift: the reference's -/
section LNM
variable {Ls : Nat} {xs : Nat → Int32} {P : qSem} {M : qMem} {Q : qPost} {s : zSt} {n k : Nat} {f g : Nat → Int}
theorem M_sub (hG : qGood Ls xs P) (hS : MS s M) (hA : amt 41 s.1.1 g M) (hg : gOK s.1.1 g) (hQ : ∀ M', mFrm M M' → MS (tSub s g).2 M' → Q (some (.int (iI (tSub s g).1))) M') : P 100 0 [(0, .ref 36)] [] M Q := by
  have hQ0 := hQ M mFrm.rf
  have hn := hS.1.2.1
  unfold tSub at hQ hQ0
  refine v_md_subtract_0 hG ?_
  have key : ∀ (d j : Nat), j + d = s.1.1 → sbO s.1.2 g j = true → P 100 4 [(0, .ref 36), (1, .int (iI (sbN s.1.2 g j))), (2, .int (iI j))] [] M Q := by
    intro d
    induction d with
    | zero =>
      intro j hj hO
      have e : j = s.1.1 := by omega
      subst e
      simp only [if_pos hO] at hQ
      refine v_md_subtract_4 hG ?_
      refine s_md_many hG hS.1 ?_
      refine v_md_subtract_7 hG ?_
      simp (disch := omega) only [iI_add, iI_sub, iI_mul, iI_neg, iI_lt, iI_le, iI_eq, iI_cl, vp_iI, Classical.not_not, iLn1000000005, iLn1000000004, iLn1000000003, iLn1000000002, iLn1000000001, iLn99999, iLn9999, iLn2, iLn1, iL0, iL1, iL2, iL3, iL4, iL5, iL6, iL7, iL8, iL9, iL10, iL15, iL16, iL31, iL32, iL40, iL42, iL45, iL48, iL57, iL59, iL63, iL64, iL65, iL120, iL126, iL455, iL520, iL9999, iL99999, iN2, iN8, iN64, iN65, iN120, iN130, iN520]
      refine ⟨fun _ => ?_, fun c => by omega⟩
      refine M_rec2 hG hS (fun M1 hL1 hR1 hF1 hK => ?_)
      refine v_md_subtract_47 hG ?_
      have key2 : ∀ (d j : Nat) (M2 : qMem), j + d = s.1.1 → mFx (37 :: scA) scB M1 M2 → M2.2 = M.2 → mX M2 s.1.1 (fun t => if t < j then sbR s.1.2 g t else s.1.2 t) → P 100 49 [(0, .ref 36), (1, .int (iI (sbN s.1.2 g s.1.1))), (2, .int (iI j))] [] M2 Q := by
        intro d
        induction d with
        | zero =>
          intro j M2 hj hF2 hL2 hR2
          have e : j = s.1.1 := by omega
          subst e
          refine v_md_subtract_49 hG ?_
          refine s_md_many hG hR2 ?_
          refine v_md_subtract_52 hG ?_
          simp (disch := omega) only [iI_add, iI_sub, iI_mul, iI_neg, iI_lt, iI_le, iI_eq, iI_cl, vp_iI, Classical.not_not, iLn1000000005, iLn1000000004, iLn1000000003, iLn1000000002, iLn1000000001, iLn99999, iLn9999, iLn2, iLn1, iL0, iL1, iL2, iL3, iL4, iL5, iL6, iL7, iL8, iL9, iL10, iL15, iL16, iL31, iL32, iL40, iL42, iL45, iL48, iL57, iL59, iL63, iL64, iL65, iL120, iL126, iL455, iL520, iL9999, iL99999, iN2, iN8, iN64, iN65, iN120, iN130, iN520]
          refine ⟨fun _ => ?_, fun c => by omega⟩
          obtain ⟨k1, k2⟩ := hK M2 (s.1.1, sbR s.1.2 g) hF2 (hR2.eqv (fun t ht => by
            show sbR s.1.2 g t = if t < s.1.1 then sbR s.1.2 g t else s.1.2 t
            rw [if_pos ht]))
          exact hQ M2 k1 k2
        | succ d ih =>
          intro j M2 hj hF2 hL2 hR2
          have hf := hS.1.ok j (by omega)
          unfold okv at hf
          have hgj := hg j (by omega)
          have hm := sbO_m (k := j) s.1.1 (by omega) hO
          have ev : vl s.1.1 (fun t => if t < j then sbR s.1.2 g t else s.1.2 t) j = s.1.2 j := by
            rw [vl_nat (show j < s.1.1 by omega)]
            show (if j < j then sbR s.1.2 g j else s.1.2 j) = _
            rw [if_neg (by omega)]
          have ex : M2.1 37 j = iI (s.1.2 j) := by
            have q := (hR2.2.2 j (by omega)).1
            dsimp only at q
            rw [if_neg (by omega)] at q
            exact q
          have hX : ∀ v, v = sbR s.1.2 g j → okv v → mX (pI M2 37 j (iI v)) s.1.1 (fun t => if t < j + 1 then sbR s.1.2 g t else s.1.2 t) := by
            intro v hv hov
            refine ⟨by rw [pI_nj (by omega)]; exact hR2.1, hn, fun t ht => ?_⟩
            dsimp only
            by_cases q : t = j
            · rw [q, pI_e, if_pos (by omega), ← hv]
              exact ⟨rfl, hov⟩
            · rw [pI_nj q]
              have q3 := hR2.2.2 t ht
              dsimp only at q3
              by_cases q2 : t < j
              · rw [if_pos q2] at q3
                rw [if_pos (by omega)]
                exact q3
              · rw [if_neg q2] at q3
                rw [if_neg (by omega)]
                exact q3
          refine v_md_subtract_49 hG ?_
          refine s_md_many hG hR2 ?_
          refine v_md_subtract_52 hG ?_
          simp (disch := omega) only [iI_add, iI_sub, iI_mul, iI_neg, iI_lt, iI_le, iI_eq, iI_cl, vp_iI, Classical.not_not, iLn1000000005, iLn1000000004, iLn1000000003, iLn1000000002, iLn1000000001, iLn99999, iLn9999, iLn2, iLn1, iL0, iL1, iL2, iL3, iL4, iL5, iL6, iL7, iL8, iL9, iL10, iL15, iL16, iL31, iL32, iL40, iL42, iL45, iL48, iL57, iL59, iL63, iL64, iL65, iL120, iL126, iL455, iL520, iL9999, iL99999, iN2, iN8, iN64, iN65, iN120, iN130, iN520]
          refine ⟨fun c => by omega, fun c => ?_⟩
          refine s_md_isThere hG hR2 (by omega) (by omega) ?_
          rw [ev]
          refine v_md_subtract_59 hG ?_
          by_cases hv : s.1.2 j = (-1000000001)
          · rw [bZ_f (fun z => z hv)]
            simp (disch := omega) only [iI_add, iI_sub, iI_mul, iI_neg, iI_lt, iI_le, iI_eq, iI_cl, vp_iI, Classical.not_not, iLn1000000005, iLn1000000004, iLn1000000003, iLn1000000002, iLn1000000001, iLn99999, iLn9999, iLn2, iLn1, iL0, iL1, iL2, iL3, iL4, iL5, iL6, iL7, iL8, iL9, iL10, iL15, iL16, iL31, iL32, iL40, iL42, iL45, iL48, iL57, iL59, iL63, iL64, iL65, iL120, iL126, iL455, iL520, iL9999, iL99999, iN2, iN8, iN64, iN65, iN120, iN130, iN520]
            refine ⟨fun _ => ⟨by omega, ?_⟩, fun c => absurd trivial c⟩
            rw [show ((j : Nat) : Int).toNat = j by omega]
            refine ih (j + 1) _ (by omega) (hF2.tr (mFx.pI (by decide) (by decide))) hL2 (hX _ ?_ (Or.inl rfl))
            unfold sbR
            rw [if_pos hv]
          · rw [bZ_t hv]
            simp (disch := omega) only [iI_add, iI_sub, iI_mul, iI_neg, iI_lt, iI_le, iI_eq, iI_cl, vp_iI, Classical.not_not, iLn1000000005, iLn1000000004, iLn1000000003, iLn1000000002, iLn1000000001, iLn99999, iLn9999, iLn2, iLn1, iL0, iL1, iL2, iL3, iL4, iL5, iL6, iL7, iL8, iL9, iL10, iL15, iL16, iL31, iL32, iL40, iL42, iL45, iL48, iL57, iL59, iL63, iL64, iL65, iL120, iL126, iL455, iL520, iL9999, iL99999, iN2, iN8, iN64, iN65, iN120, iN130, iN520]
            refine ⟨fun c => by omega, fun _ => ⟨by omega, by omega, by omega, ?_⟩⟩
            rw [show ((j : Nat) : Int).toNat = j by omega, ex, hL2, hA j (by omega), i2l (by omega) (by omega), lI_sub, l2i]
            refine ih (j + 1) _ (by omega) (hF2.tr (mFx.pI (by decide) (by decide))) hL2 (hX _ ?_ (Or.inr (hm.resolve_left hv)))
            unfold sbR
            rw [if_neg hv]
      simp (disch := omega) only [iI_add, iI_sub, iI_mul, iI_neg, iI_lt, iI_le, iI_eq, iI_cl, vp_iI, Classical.not_not, iLn1000000005, iLn1000000004, iLn1000000003, iLn1000000002, iLn1000000001, iLn99999, iLn9999, iLn2, iLn1, iL0, iL1, iL2, iL3, iL4, iL5, iL6, iL7, iL8, iL9, iL10, iL15, iL16, iL31, iL32, iL40, iL42, iL45, iL48, iL57, iL59, iL63, iL64, iL65, iL120, iL126, iL455, iL520, iL9999, iL99999, iN2, iN8, iN64, iN65, iN120, iN130, iN520]
      exact key2 s.1.1 0 M1 (by omega) mFx.rf hL1 (hR1.eqv (fun t ht => by rw [if_neg (by omega)]))
    | succ d ih =>
      intro j hj hO
      have hf := hS.1.ok j (by omega)
      have ex := (hS.1.2.2 j (by omega)).1
      unfold okv at hf
      have hgj := hg j (by omega)
      have hcz := cz_in (fun t => decide (s.1.2 t ≠ (-1000000001) ∧ g t ≠ 0)) j
      have hI := ih (j + 1) (by omega)
      rw [sbN_s] at hI
      refine v_md_subtract_4 hG ?_
      refine s_md_many hG hS.1 ?_
      refine v_md_subtract_7 hG ?_
      simp (disch := omega) only [iI_add, iI_sub, iI_mul, iI_neg, iI_lt, iI_le, iI_eq, iI_cl, vp_iI, Classical.not_not, iLn1000000005, iLn1000000004, iLn1000000003, iLn1000000002, iLn1000000001, iLn99999, iLn9999, iLn2, iLn1, iL0, iL1, iL2, iL3, iL4, iL5, iL6, iL7, iL8, iL9, iL10, iL15, iL16, iL31, iL32, iL40, iL42, iL45, iL48, iL57, iL59, iL63, iL64, iL65, iL120, iL126, iL455, iL520, iL9999, iL99999, iN2, iN8, iN64, iN65, iN120, iN130, iN520]
      refine ⟨fun c => by omega, fun c => ?_⟩
      refine s_md_isThere hG hS.1 (by omega) (by omega) ?_
      rw [vl_nat (show j < s.1.1 by omega)]
      refine v_md_subtract_11 hG ?_
      by_cases hv : s.1.2 j = (-1000000001)
      · rw [bZ_f (fun z => z hv)]
        simp (disch := omega) only [iI_add, iI_sub, iI_mul, iI_neg, iI_lt, iI_le, iI_eq, iI_cl, vp_iI, Classical.not_not, iLn1000000005, iLn1000000004, iLn1000000003, iLn1000000002, iLn1000000001, iLn99999, iLn9999, iLn2, iLn1, iL0, iL1, iL2, iL3, iL4, iL5, iL6, iL7, iL8, iL9, iL10, iL15, iL16, iL31, iL32, iL40, iL42, iL45, iL48, iL57, iL59, iL63, iL64, iL65, iL120, iL126, iL455, iL520, iL9999, iL99999, iN2, iN8, iN64, iN65, iN120, iN130, iN520]
        refine ⟨fun _ => ?_, fun c => absurd trivial c⟩
        refine s_md_isThere hG hS.1 (by omega) (by omega) ?_
        rw [vl_nat (show j < s.1.1 by omega), bZ_f (fun z => z hv)]
        refine v_md_subtract_30 hG ?_
        rw [if_neg (fun z => z.1 hv), Int.add_zero] at hI
        have hI2 := hI (by rw [sbO_s, hO, decide_eq_true (Or.inl hv)]; rfl)
        unfold sbN at hI2 ⊢
        simp (disch := omega) only [iI_add, iI_sub, iI_mul, iI_neg, iI_lt, iI_le, iI_eq, iI_cl, vp_iI, Classical.not_not, iLn1000000005, iLn1000000004, iLn1000000003, iLn1000000002, iLn1000000001, iLn99999, iLn9999, iLn2, iLn1, iL0, iL1, iL2, iL3, iL4, iL5, iL6, iL7, iL8, iL9, iL10, iL15, iL16, iL31, iL32, iL40, iL42, iL45, iL48, iL57, iL59, iL63, iL64, iL65, iL120, iL126, iL455, iL520, iL9999, iL99999, iN2, iN8, iN64, iN65, iN120, iN130, iN520]
        refine ⟨fun _ => ?_, fun c => absurd trivial c⟩
        rw [Int.add_zero]
        exact hI2
      · rw [bZ_t hv]
        simp (disch := omega) only [iI_add, iI_sub, iI_mul, iI_neg, iI_lt, iI_le, iI_eq, iI_cl, vp_iI, Classical.not_not, iLn1000000005, iLn1000000004, iLn1000000003, iLn1000000002, iLn1000000001, iLn99999, iLn9999, iLn2, iLn1, iL0, iL1, iL2, iL3, iL4, iL5, iL6, iL7, iL8, iL9, iL10, iL15, iL16, iL31, iL32, iL40, iL42, iL45, iL48, iL57, iL59, iL63, iL64, iL65, iL120, iL126, iL455, iL520, iL9999, iL99999, iN2, iN8, iN64, iN65, iN120, iN130, iN520]
        refine ⟨fun c => by omega, fun _ => ⟨by omega, by omega, ?_⟩⟩
        rw [show ((j : Nat) : Int).toNat = j by omega, ex, hA j (by omega), i2l (by omega) (by omega), lI_sub]
        refine s_md_isPhase hG (by omega) (by omega) ?_
        refine v_md_subtract_23 hG ?_
        by_cases hw : -99999 ≤ s.1.2 j - g j ∧ s.1.2 j - g j ≤ 99999
        · rw [bZ_t hw]
          refine ⟨fun _ => ?_, fun c => absurd (show ¬ iI 1 = 0 by decide) c⟩
          refine s_md_isThere hG hS.1 (by omega) (by omega) ?_
          rw [vl_nat (show j < s.1.1 by omega), bZ_t hv]
          refine v_md_subtract_30 hG ?_
          have hI2 := hI (by rw [sbO_s, hO, decide_eq_true (Or.inr hw)]; rfl)
          have hz0 := cmpZ_0 (g j) 0
          have hz := cmpZ_in (g j) 0
          unfold sbN at hI2 ⊢
          simp (disch := omega) only [iI_add, iI_sub, iI_mul, iI_neg, iI_lt, iI_le, iI_eq, iI_cl, vp_iI, Classical.not_not, iLn1000000005, iLn1000000004, iLn1000000003, iLn1000000002, iLn1000000001, iLn99999, iLn9999, iLn2, iLn1, iL0, iL1, iL2, iL3, iL4, iL5, iL6, iL7, iL8, iL9, iL10, iL15, iL16, iL31, iL32, iL40, iL42, iL45, iL48, iL57, iL59, iL63, iL64, iL65, iL120, iL126, iL455, iL520, iL9999, iL99999, iN2, iN8, iN64, iN65, iN120, iN130, iN520]
          refine ⟨fun c => by omega, fun _ => ⟨by omega, ?_⟩⟩
          rw [show ((j : Nat) : Int).toNat = j by omega, hA j (by omega), lL0, lg_cmpZ (by omega) (by omega) (by omega) (by omega)]
          simp (disch := omega) only [iI_add, iI_sub, iI_mul, iI_neg, iI_lt, iI_le, iI_eq, iI_cl, vp_iI, Classical.not_not, iLn1000000005, iLn1000000004, iLn1000000003, iLn1000000002, iLn1000000001, iLn99999, iLn9999, iLn2, iLn1, iL0, iL1, iL2, iL3, iL4, iL5, iL6, iL7, iL8, iL9, iL10, iL15, iL16, iL31, iL32, iL40, iL42, iL45, iL48, iL57, iL59, iL63, iL64, iL65, iL120, iL126, iL455, iL520, iL9999, iL99999, iN2, iN8, iN64, iN65, iN120, iN130, iN520]
          refine ⟨fun c3 => ?_, fun c3 => ?_⟩
          · rw [if_neg (fun z => z.2 (hz0.mp c3))] at hI2
            exact hI2
          · rw [if_pos ⟨hv, fun z => c3 (hz0.mpr z)⟩] at hI2
            exact hI2
        · rw [bZ_f hw]
          simp only [if_neg (sbO_f (show j < s.1.1 by omega) hv hw)] at hQ0
          exact ⟨fun c => absurd (show iI 0 = 0 by decide) c, fun _ => hQ0 hS⟩
  simp (disch := omega) only [iI_add, iI_sub, iI_mul, iI_neg, iI_lt, iI_le, iI_eq, iI_cl, vp_iI, Classical.not_not, iLn1000000005, iLn1000000004, iLn1000000003, iLn1000000002, iLn1000000001, iLn99999, iLn9999, iLn2, iLn1, iL0, iL1, iL2, iL3, iL4, iL5, iL6, iL7, iL8, iL9, iL10, iL15, iL16, iL31, iL32, iL40, iL42, iL45, iL48, iL57, iL59, iL63, iL64, iL65, iL120, iL126, iL455, iL520, iL9999, iL99999, iN2, iN8, iN64, iN65, iN120, iN130, iN520]
  exact key s.1.1 0 (by omega) rfl
theorem MS.lg {t : Nat} {x : Int64} (h : MS s M) : MS s (pJ M 41 t x) := h.sc ⟨fun _ _ _ => rfl, fun _ _ => rfl⟩
theorem M_removeLine (hG : qGood Ls xs P) {i j : Int} (hS : MS s M) (hi : r32 i) (hj : r32 j) (hQ : ∀ M', mFrm M M' → MS (tLine s i j).2 M' → Q (some (.int (iI (tLine s i j).1))) M') : P 102 0 [(0, .ref 36), (1, .int (iI i)), (2, .int (iI j))] [] M Q := by
  obtain ⟨g1, g2⟩ := hi
  obtain ⟨g3, g4⟩ := hj
  have hQ0 := hQ M mFrm.rf
  have hn := hS.1.2.1
  unfold tLine at hQ hQ0
  refine v_md_removeLine_0 hG ?_
  refine s_md_isReading hG hS.1 g1 g2 ?_
  refine v_md_removeLine_3 hG ?_
  by_cases c1 : 0 ≤ i ∧ i < s.1.1
  · rw [bZ_t c1]
    refine ⟨fun c => absurd c (by decide), fun _ => ?_⟩
    refine s_md_isReading hG hS.1 g3 g4 ?_
    refine v_md_removeLine_7 hG ?_
    by_cases c2 : 0 ≤ j ∧ j < s.1.1
    · rw [bZ_t c2]
      refine ⟨fun c => absurd c (by decide), fun _ => ?_⟩
      simp (disch := omega) only [iI_add, iI_sub, iI_mul, iI_neg, iI_lt, iI_le, iI_eq, iI_cl, vp_iI, Classical.not_not, iLn1000000005, iLn1000000004, iLn1000000003, iLn1000000002, iLn1000000001, iLn99999, iLn9999, iLn2, iLn1, iL0, iL1, iL2, iL3, iL4, iL5, iL6, iL7, iL8, iL9, iL10, iL15, iL16, iL31, iL32, iL40, iL42, iL45, iL48, iL57, iL59, iL63, iL64, iL65, iL120, iL126, iL455, iL520, iL9999, iL99999, iN2, iN8, iN64, iN65, iN120, iN130, iN520]
      refine ⟨fun c3 => ?_, fun c3 => ?_⟩
      · simp only [if_pos (show (0 ≤ i ∧ i < s.1.1) ∧ (0 ≤ j ∧ j < s.1.1) ∧ i < j from ⟨c1, c2, c3⟩)] at hQ hQ0
        refine s_md_isThere hG hS.1 g1 g2 ?_
        refine v_md_removeLine_16 hG ?_
        by_cases c4 : vl s.1.1 s.1.2 i = (-1000000001)
        · rw [bZ_f (fun z => z c4)]
          simp only [if_pos (show vl s.1.1 s.1.2 i = (-1000000001) ∨ vl s.1.1 s.1.2 j = (-1000000001) from Or.inl c4)] at hQ0
          exact ⟨fun _ => hQ0 hS, fun c => absurd (show iI 0 = 0 by decide) c⟩
        · rw [bZ_t c4]
          refine ⟨fun c => absurd c (by decide), fun _ => ?_⟩
          refine s_md_isThere hG hS.1 g3 g4 ?_
          refine v_md_removeLine_20 hG ?_
          by_cases c5 : vl s.1.1 s.1.2 j = (-1000000001)
          · rw [bZ_f (fun z => z c5)]
            simp only [if_pos (show vl s.1.1 s.1.2 i = (-1000000001) ∨ vl s.1.1 s.1.2 j = (-1000000001) from Or.inr c5)] at hQ0
            exact ⟨fun c => absurd (show iI 0 = 0 by decide) c, fun _ => hQ0 hS⟩
          · rw [bZ_t c5]
            refine ⟨fun _ => ?_, fun c => absurd (show ¬ iI 1 = 0 by decide) c⟩
            simp only [if_neg (show ¬ (vl s.1.1 s.1.2 i = (-1000000001) ∨ vl s.1.1 s.1.2 j = (-1000000001)) from fun z => z.elim c4 c5)] at hQ
            have key : ∀ (d t : Nat) (M1 : qMem), t + d = s.1.1 → mFrm M M1 → MS s M1 → amt 41 t (fun t => lnz s.1.1 s.1.2 i j t) M1 → P 102 25 [(0, .ref 36), (1, .int (iI i)), (2, .int (iI j)), (3, .int (iI t))] [] M1 Q := by
              intro d
              induction d with
              | zero =>
                intro t M1 ht hF1 hS1 hA1
                refine v_md_removeLine_25 hG ?_
                refine s_md_many hG hS1.1 ?_
                refine v_md_removeLine_28 hG ?_
                simp (disch := omega) only [iI_add, iI_sub, iI_mul, iI_neg, iI_lt, iI_le, iI_eq, iI_cl, vp_iI, Classical.not_not, iLn1000000005, iLn1000000004, iLn1000000003, iLn1000000002, iLn1000000001, iLn99999, iLn9999, iLn2, iLn1, iL0, iL1, iL2, iL3, iL4, iL5, iL6, iL7, iL8, iL9, iL10, iL15, iL16, iL31, iL32, iL40, iL42, iL45, iL48, iL57, iL59, iL63, iL64, iL65, iL120, iL126, iL455, iL520, iL9999, iL99999, iN2, iN8, iN64, iN65, iN120, iN130, iN520]
                refine ⟨fun _ => ?_, fun c => by omega⟩
                refine M_sub (g := fun t => lnz s.1.1 s.1.2 i j t) hG hS1 (fun u hu => hA1 u (by omega)) (fun u hu => lnz_bd hS.1.ok c4 c5 (by omega) (by omega) (by omega) (by omega)) (fun M2 hF2 hS2 => ?_)
                refine v_md_removeLine_42 hG (hQ M2 (fun a ha => ?_) hS2)
                rw [hF2 a ha, hF1 a ha]
              | succ d ih =>
                intro t M1 ht hF1 hS1 hA1
                refine v_md_removeLine_25 hG ?_
                refine s_md_many hG hS1.1 ?_
                refine v_md_removeLine_28 hG ?_
                simp (disch := omega) only [iI_add, iI_sub, iI_mul, iI_neg, iI_lt, iI_le, iI_eq, iI_cl, vp_iI, Classical.not_not, iLn1000000005, iLn1000000004, iLn1000000003, iLn1000000002, iLn1000000001, iLn99999, iLn9999, iLn2, iLn1, iL0, iL1, iL2, iL3, iL4, iL5, iL6, iL7, iL8, iL9, iL10, iL15, iL16, iL31, iL32, iL40, iL42, iL45, iL48, iL57, iL59, iL63, iL64, iL65, iL120, iL126, iL455, iL520, iL9999, iL99999, iN2, iN8, iN64, iN65, iN120, iN130, iN520]
                refine ⟨fun c => by omega, fun c => ?_⟩
                refine s_md_onLine hG hS1.1 (by omega) c3 (by omega) (by omega) (by omega) c4 c5 ?_
                refine v_md_removeLine_37 hG ?_
                simp (disch := omega) only [iI_add, iI_sub, iI_mul, iI_neg, iI_lt, iI_le, iI_eq, iI_cl, vp_iI, Classical.not_not, iLn1000000005, iLn1000000004, iLn1000000003, iLn1000000002, iLn1000000001, iLn99999, iLn9999, iLn2, iLn1, iL0, iL1, iL2, iL3, iL4, iL5, iL6, iL7, iL8, iL9, iL10, iL15, iL16, iL31, iL32, iL40, iL42, iL45, iL48, iL57, iL59, iL63, iL64, iL65, iL120, iL126, iL455, iL520, iL9999, iL99999, iN2, iN8, iN64, iN65, iN120, iN130, iN520]
                refine ⟨by omega, ?_⟩
                rw [show ((t : Nat) : Int).toNat = t by omega]
                exact ih (t + 1) _ (by omega) hF1 hS1.lg (hA1.pJ (g := fun t => lnz s.1.1 s.1.2 i j t))
            exact key s.1.1 0 M (by omega) mFrm.rf hS (fun u hu => by omega)
      · simp only [if_neg (show ¬ ((0 ≤ i ∧ i < s.1.1) ∧ (0 ≤ j ∧ j < s.1.1) ∧ i < j) from fun z => c3 z.2.2)] at hQ0
        exact hQ0 hS
    · rw [bZ_f c2]
      simp only [if_neg (show ¬ ((0 ≤ i ∧ i < s.1.1) ∧ (0 ≤ j ∧ j < s.1.1) ∧ i < j) from fun z => c2 z.2.1)] at hQ0
      exact ⟨fun _ => hQ0 hS, fun c => absurd (show iI 0 = 0 by decide) c⟩
  · rw [bZ_f c1]
    simp only [if_neg (show ¬ ((0 ≤ i ∧ i < s.1.1) ∧ (0 ≤ j ∧ j < s.1.1) ∧ i < j) from fun z => c1 z.1)] at hQ0
    exact ⟨fun _ => hQ0 hS, fun c => absurd (show iI 0 = 0 by decide) c⟩
theorem M_addLine (hG : qGood Ls xs P) {a b : Int} (hS : MS s M) (ha : r32 a) (hb : r32 b) (hQ : ∀ M', mFrm M M' → MS (tALine s a b).2 M' → Q (some (.int (iI (tALine s a b).1))) M') : P 103 0 [(0, .ref 36), (1, .int (iI a)), (2, .int (iI b))] [] M Q := by
  obtain ⟨g1, g2⟩ := ha
  obtain ⟨g3, g4⟩ := hb
  have hQ0 := hQ M mFrm.rf
  have hn := hS.1.2.1
  unfold tALine at hQ hQ0
  refine v_md_addLine_0 hG ?_
  simp (disch := omega) only [iI_add, iI_sub, iI_mul, iI_neg, iI_lt, iI_le, iI_eq, iI_cl, vp_iI, Classical.not_not, iLn1000000005, iLn1000000004, iLn1000000003, iLn1000000002, iLn1000000001, iLn99999, iLn9999, iLn2, iLn1, iL0, iL1, iL2, iL3, iL4, iL5, iL6, iL7, iL8, iL9, iL10, iL15, iL16, iL31, iL32, iL40, iL42, iL45, iL48, iL57, iL59, iL63, iL64, iL65, iL120, iL126, iL455, iL520, iL9999, iL99999, iN2, iN8, iN64, iN65, iN120, iN130, iN520]
  refine s_md_isIn hG (by omega) (by omega) (by omega) (by omega) (by omega) (by omega) ?_
  refine v_md_addLine_4 hG ?_
  by_cases c4 : -9999 ≤ a ∧ a ≤ 9999
  · rw [bZ_t c4]
    refine ⟨fun c => absurd c (by decide), fun _ => ?_⟩
    simp (disch := omega) only [iI_add, iI_sub, iI_mul, iI_neg, iI_lt, iI_le, iI_eq, iI_cl, vp_iI, Classical.not_not, iLn1000000005, iLn1000000004, iLn1000000003, iLn1000000002, iLn1000000001, iLn99999, iLn9999, iLn2, iLn1, iL0, iL1, iL2, iL3, iL4, iL5, iL6, iL7, iL8, iL9, iL10, iL15, iL16, iL31, iL32, iL40, iL42, iL45, iL48, iL57, iL59, iL63, iL64, iL65, iL120, iL126, iL455, iL520, iL9999, iL99999, iN2, iN8, iN64, iN65, iN120, iN130, iN520]
    refine s_md_isIn hG (by omega) (by omega) (by omega) (by omega) (by omega) (by omega) ?_
    refine v_md_addLine_9 hG ?_
    by_cases c3 : -99999 ≤ b ∧ b ≤ 99999
    · rw [bZ_t c3]
      refine ⟨fun _ => ?_, fun c => absurd (show ¬ iI 1 = 0 by decide) c⟩
      simp only [if_pos (show (-9999 ≤ a ∧ a ≤ 9999) ∧ (-99999 ≤ b ∧ b ≤ 99999) from ⟨c4, c3⟩)] at hQ
      have key : ∀ (d t : Nat) (M1 : qMem), t + d = s.1.1 → mFrm M M1 → MS s M1 → amt 41 t (fun t => -(a * t + b)) M1 → P 103 14 [(0, .ref 36), (1, .int (iI a)), (2, .int (iI b)), (3, .int (iI t))] [] M1 Q := by
        intro d
        induction d with
        | zero =>
          intro t M1 ht hF1 hS1 hA1
          refine v_md_addLine_14 hG ?_
          refine s_md_many hG hS1.1 ?_
          refine v_md_addLine_17 hG ?_
          simp (disch := omega) only [iI_add, iI_sub, iI_mul, iI_neg, iI_lt, iI_le, iI_eq, iI_cl, vp_iI, Classical.not_not, iLn1000000005, iLn1000000004, iLn1000000003, iLn1000000002, iLn1000000001, iLn99999, iLn9999, iLn2, iLn1, iL0, iL1, iL2, iL3, iL4, iL5, iL6, iL7, iL8, iL9, iL10, iL15, iL16, iL31, iL32, iL40, iL42, iL45, iL48, iL57, iL59, iL63, iL64, iL65, iL120, iL126, iL455, iL520, iL9999, iL99999, iN2, iN8, iN64, iN65, iN120, iN130, iN520]
          refine ⟨fun _ => ?_, fun c => by omega⟩
          refine M_sub (g := fun t => -(a * t + b)) hG hS1 (fun u hu => hA1 u (by omega)) (fun u hu => ln_bd c4 c3 (by omega) (by omega)) (fun M2 hF2 hS2 => ?_)
          refine v_md_addLine_35 hG (hQ M2 (fun a ha => ?_) hS2)
          rw [hF2 a ha, hF1 a ha]
        | succ d ih =>
          intro t M1 ht hF1 hS1 hA1
          refine v_md_addLine_14 hG ?_
          refine s_md_many hG hS1.1 ?_
          refine v_md_addLine_17 hG ?_
          rw [i2l g1 g2, i2l g3 g4, i2l (by omega) (by omega), lI_mul, lI_add, lI_neg]
          simp (disch := omega) only [iI_add, iI_sub, iI_mul, iI_neg, iI_lt, iI_le, iI_eq, iI_cl, vp_iI, Classical.not_not, iLn1000000005, iLn1000000004, iLn1000000003, iLn1000000002, iLn1000000001, iLn99999, iLn9999, iLn2, iLn1, iL0, iL1, iL2, iL3, iL4, iL5, iL6, iL7, iL8, iL9, iL10, iL15, iL16, iL31, iL32, iL40, iL42, iL45, iL48, iL57, iL59, iL63, iL64, iL65, iL120, iL126, iL455, iL520, iL9999, iL99999, iN2, iN8, iN64, iN65, iN120, iN130, iN520]
          refine ⟨fun c => by omega, fun c => ⟨by omega, ?_⟩⟩
          rw [show ((t : Nat) : Int).toNat = t by omega]
          exact ih (t + 1) _ (by omega) hF1 hS1.lg (hA1.pJ (g := fun t => -(a * t + b)))
      exact key s.1.1 0 M (by omega) mFrm.rf hS (fun u hu => by omega)
    · rw [bZ_f c3]
      simp only [if_neg (show ¬ ((-9999 ≤ a ∧ a ≤ 9999) ∧ (-99999 ≤ b ∧ b ≤ 99999)) from fun z => c3 z.2)] at hQ0
      exact ⟨fun c => absurd (show iI 0 = 0 by decide) c, fun _ => hQ0 hS⟩
  · rw [bZ_f c4]
    simp only [if_neg (show ¬ ((-9999 ≤ a ∧ a ≤ 9999) ∧ (-99999 ≤ b ∧ b ≤ 99999)) from fun z => c4 z.1)] at hQ0
    exact ⟨fun _ => hQ0 hS, fun c => absurd (show iI 0 = 0 by decide) c⟩
theorem M_removeDrift (hG : qGood Ls xs P) (hS : MS s M) (hQ : ∀ M', mFrm M M' → MS (tDrift s).2 M' → Q (some (.int (iI (tDrift s).1))) M') : P 104 0 [(0, .ref 36)] [] M Q := by
  have hQ0 := hQ M mFrm.rf
  have hn := hS.1.2.1
  have hc := cnd_in s.1.1 s.1.2
  have hb := drf_bd hS.1.ok hn
  have hd := dsz_bd hS.1.ok s.1.1
  unfold tDrift at hQ hQ0
  refine v_md_removeDrift_0 hG ?_
  simp (disch := omega) only [iI_add, iI_sub, iI_mul, iI_neg, iI_lt, iI_le, iI_eq, iI_cl, vp_iI, Classical.not_not, iLn1000000005, iLn1000000004, iLn1000000003, iLn1000000002, iLn1000000001, iLn99999, iLn9999, iLn2, iLn1, iL0, iL1, iL2, iL3, iL4, iL5, iL6, iL7, iL8, iL9, iL10, iL15, iL16, iL31, iL32, iL40, iL42, iL45, iL48, iL57, iL59, iL63, iL64, iL65, iL120, iL126, iL455, iL520, iL9999, iL99999, iN2, iN8, iN64, iN65, iN120, iN130, iN520]
  refine s_md_countOf (m := 1) hG hS.1 (by omega) (by omega) (by omega) ?_
  refine v_md_removeDrift_4 hG ?_
  simp (disch := omega) only [iI_add, iI_sub, iI_mul, iI_neg, iI_lt, iI_le, iI_eq, iI_cl, vp_iI, Classical.not_not, iLn1000000005, iLn1000000004, iLn1000000003, iLn1000000002, iLn1000000001, iLn99999, iLn9999, iLn2, iLn1, iL0, iL1, iL2, iL3, iL4, iL5, iL6, iL7, iL8, iL9, iL10, iL15, iL16, iL31, iL32, iL40, iL42, iL45, iL48, iL57, iL59, iL63, iL64, iL65, iL120, iL126, iL455, iL520, iL9999, iL99999, iN2, iN8, iN64, iN65, iN120, iN130, iN520]
  refine ⟨fun c => ?_, fun c => ?_⟩
  · simp only [if_neg c] at hQ
    have key : ∀ (d j : Nat), j + d = s.1.1 → P 104 13 [(0, .ref 36), (1, .int (iI (cnd s.1.1 s.1.2 2 1))), (2, .long (lI (dsz s.1.1 s.1.2 j))), (4, .int (iI j))] [] M Q := by
      intro d
      induction d with
      | zero =>
        intro j hj
        have e : j = s.1.1 := by omega
        subst e
        refine v_md_removeDrift_13 hG ?_
        refine s_md_many hG hS.1 ?_
        refine v_md_removeDrift_16 hG ?_
        rw [i2l (by omega) (by omega)]
        simp (disch := omega) only [iI_add, iI_sub, iI_mul, iI_neg, iI_lt, iI_le, iI_eq, iI_cl, vp_iI, Classical.not_not, iLn1000000005, iLn1000000004, iLn1000000003, iLn1000000002, iLn1000000001, iLn99999, iLn9999, iLn2, iLn1, iL0, iL1, iL2, iL3, iL4, iL5, iL6, iL7, iL8, iL9, iL10, iL15, iL16, iL31, iL32, iL40, iL42, iL45, iL48, iL57, iL59, iL63, iL64, iL65, iL120, iL126, iL455, iL520, iL9999, iL99999, iN2, iN8, iN64, iN65, iN120, iN130, iN520]
        refine ⟨fun _ => ?_, fun c => by omega⟩
        refine s_md_floor hG (by omega) (by omega) (by omega) (by omega) ?_
        refine v_md_removeDrift_40 hG ?_
        show P 104 43 [(0, .ref 36), (4, .long (lI (drf s.1.1 s.1.2))), (6, .int 0)] [] M Q
        have key2 : ∀ (d t : Nat) (M1 : qMem), t + d = s.1.1 → mFrm M M1 → MS s M1 → amt 41 t (fun t => drf s.1.1 s.1.2 * ((t : Int) * (t - 1) / 2)) M1 → P 104 43 [(0, .ref 36), (4, .long (lI (drf s.1.1 s.1.2))), (6, .int (iI t))] [] M1 Q := by
          intro d
          induction d with
          | zero =>
            intro t M1 ht hF1 hS1 hA1
            refine v_md_removeDrift_43 hG ?_
            refine s_md_many hG hS1.1 ?_
            refine v_md_removeDrift_46 hG ?_
            simp (disch := omega) only [iI_add, iI_sub, iI_mul, iI_neg, iI_lt, iI_le, iI_eq, iI_cl, vp_iI, Classical.not_not, iLn1000000005, iLn1000000004, iLn1000000003, iLn1000000002, iLn1000000001, iLn99999, iLn9999, iLn2, iLn1, iL0, iL1, iL2, iL3, iL4, iL5, iL6, iL7, iL8, iL9, iL10, iL15, iL16, iL31, iL32, iL40, iL42, iL45, iL48, iL57, iL59, iL63, iL64, iL65, iL120, iL126, iL455, iL520, iL9999, iL99999, iN2, iN8, iN64, iN65, iN120, iN130, iN520]
            refine ⟨fun _ => ?_, fun c => by omega⟩
            refine M_sub (g := fun t => drf s.1.1 s.1.2 * ((t : Int) * (t - 1) / 2)) hG hS1 (fun u hu => hA1 u (by omega)) (drf_g hS.1.ok hn) (fun M2 hF2 hS2 => ?_)
            have hq := hQ M2 (fun a ha => by rw [hF2 a ha, hF1 a ha]) hS2
            refine v_md_removeDrift_65 hG ?_
            have hr := tSub_r s (fun t => drf s.1.1 s.1.2 * ((t : Int) * (t - 1) / 2))
            rw [l2i]
            simp (disch := omega) only [iI_add, iI_sub, iI_mul, iI_neg, iI_lt, iI_le, iI_eq, iI_cl, vp_iI, Classical.not_not, iLn1000000005, iLn1000000004, iLn1000000003, iLn1000000002, iLn1000000001, iLn99999, iLn9999, iLn2, iLn1, iL0, iL1, iL2, iL3, iL4, iL5, iL6, iL7, iL8, iL9, iL10, iL15, iL16, iL31, iL32, iL40, iL42, iL45, iL48, iL57, iL59, iL63, iL64, iL65, iL120, iL126, iL455, iL520, iL9999, iL99999, iN2, iN8, iN64, iN65, iN120, iN130, iN520]
            refine ⟨fun c3 => ?_, fun c3 => ?_⟩
            · rw [if_neg c3] at hq
              exact hq
            · rw [if_pos c3] at hq
              exact hq
          | succ d ih =>
            intro t M1 ht hF1 hS1 hA1
            have ht3 := tri t (by omega)
            refine v_md_removeDrift_43 hG ?_
            refine s_md_many hG hS1.1 ?_
            refine v_md_removeDrift_46 hG ?_
            have h0 : 0 ≤ (t : Int) * ((t : Int) - 1) := by omega
            have h1 : (t : Int) * ((t : Int) - 1) ≤ 4032 := by omega
            have e2 : lI (drf s.1.1 s.1.2) * ((iI t * (iI t - (1 : Int32))) / (2 : Int32)).toInt64 = lI (drf s.1.1 s.1.2 * ((t : Int) * (t - 1) / 2)) := by
              rw [iL1, iL2, iI_sub, iI_mul, iI_div h0 (by omega) (by omega) (by omega), i2l (by omega) (by omega), lI_mul]
            rw [e2]
            simp (disch := omega) only [iI_add, iI_sub, iI_mul, iI_neg, iI_lt, iI_le, iI_eq, iI_cl, vp_iI, Classical.not_not, iLn1000000005, iLn1000000004, iLn1000000003, iLn1000000002, iLn1000000001, iLn99999, iLn9999, iLn2, iLn1, iL0, iL1, iL2, iL3, iL4, iL5, iL6, iL7, iL8, iL9, iL10, iL15, iL16, iL31, iL32, iL40, iL42, iL45, iL48, iL57, iL59, iL63, iL64, iL65, iL120, iL126, iL455, iL520, iL9999, iL99999, iN2, iN8, iN64, iN65, iN120, iN130, iN520]
            refine ⟨fun c => by omega, fun c => ⟨by omega, by omega, ?_⟩⟩
            rw [show ((t : Nat) : Int).toNat = t by omega]
            exact ih (t + 1) _ (by omega) hF1 hS1.lg (hA1.pJ (g := fun t => drf s.1.1 s.1.2 * ((t : Int) * (t - 1) / 2)))
        simp (disch := omega) only [iI_add, iI_sub, iI_mul, iI_neg, iI_lt, iI_le, iI_eq, iI_cl, vp_iI, Classical.not_not, iLn1000000005, iLn1000000004, iLn1000000003, iLn1000000002, iLn1000000001, iLn99999, iLn9999, iLn2, iLn1, iL0, iL1, iL2, iL3, iL4, iL5, iL6, iL7, iL8, iL9, iL10, iL15, iL16, iL31, iL32, iL40, iL42, iL45, iL48, iL57, iL59, iL63, iL64, iL65, iL120, iL126, iL455, iL520, iL9999, iL99999, iN2, iN8, iN64, iN65, iN120, iN130, iN520]
        exact key2 s.1.1 0 M (by omega) mFrm.rf hS (fun u hu => by omega)
      | succ d ih =>
        intro j hj
        have hd2 := dif_ok (m := 1) hS.1.ok (by omega) 2 (j : Int)
        have hI := ih (j + 1) (by omega)
        rw [dsz_s] at hI
        refine v_md_removeDrift_13 hG ?_
        refine s_md_many hG hS.1 ?_
        refine v_md_removeDrift_16 hG ?_
        simp (disch := omega) only [iI_add, iI_sub, iI_mul, iI_neg, iI_lt, iI_le, iI_eq, iI_cl, vp_iI, Classical.not_not, iLn1000000005, iLn1000000004, iLn1000000003, iLn1000000002, iLn1000000001, iLn99999, iLn9999, iLn2, iLn1, iL0, iL1, iL2, iL3, iL4, iL5, iL6, iL7, iL8, iL9, iL10, iL15, iL16, iL31, iL32, iL40, iL42, iL45, iL48, iL57, iL59, iL63, iL64, iL65, iL120, iL126, iL455, iL520, iL9999, iL99999, iN2, iN8, iN64, iN65, iN120, iN130, iN520]
        refine ⟨fun c => by omega, fun c => ?_⟩
        refine s_md_exists (m := 1) hG hS.1 (by omega) (by omega) (by omega) (by omega) ?_
        refine v_md_removeDrift_23 hG ?_
        by_cases hv : dif s.1.1 s.1.2 2 1 j = (-1000000001)
        · rw [bZ_f (fun z => z hv), lL0, lI_add]
          rw [if_neg (fun z => z hv)] at hI
          simp (disch := omega) only [iI_add, iI_sub, iI_mul, iI_neg, iI_lt, iI_le, iI_eq, iI_cl, vp_iI, Classical.not_not, iLn1000000005, iLn1000000004, iLn1000000003, iLn1000000002, iLn1000000001, iLn99999, iLn9999, iLn2, iLn1, iL0, iL1, iL2, iL3, iL4, iL5, iL6, iL7, iL8, iL9, iL10, iL15, iL16, iL31, iL32, iL40, iL42, iL45, iL48, iL57, iL59, iL63, iL64, iL65, iL120, iL126, iL455, iL520, iL9999, iL99999, iN2, iN8, iN64, iN65, iN120, iN130, iN520]
          exact ⟨fun _ => hI, fun c => absurd trivial c⟩
        · rw [bZ_t hv]
          rw [if_pos hv] at hI
          refine ⟨fun c => absurd c (by decide), fun _ => ?_⟩
          simp (disch := omega) only [iI_add, iI_sub, iI_mul, iI_neg, iI_lt, iI_le, iI_eq, iI_cl, vp_iI, Classical.not_not, iLn1000000005, iLn1000000004, iLn1000000003, iLn1000000002, iLn1000000001, iLn99999, iLn9999, iLn2, iLn1, iL0, iL1, iL2, iL3, iL4, iL5, iL6, iL7, iL8, iL9, iL10, iL15, iL16, iL31, iL32, iL40, iL42, iL45, iL48, iL57, iL59, iL63, iL64, iL65, iL120, iL126, iL455, iL520, iL9999, iL99999, iN2, iN8, iN64, iN65, iN120, iN130, iN520]
          refine s_md_differenceAt (m := 1) hG hS.1 (by omega) (by omega) (by omega) (by omega) hv ?_
          refine v_md_removeDrift_29 hG ?_
          rw [i2l (by omega) (by omega), lI_add]
          simp (disch := omega) only [iI_add, iI_sub, iI_mul, iI_neg, iI_lt, iI_le, iI_eq, iI_cl, vp_iI, Classical.not_not, iLn1000000005, iLn1000000004, iLn1000000003, iLn1000000002, iLn1000000001, iLn99999, iLn9999, iLn2, iLn1, iL0, iL1, iL2, iL3, iL4, iL5, iL6, iL7, iL8, iL9, iL10, iL15, iL16, iL31, iL32, iL40, iL42, iL45, iL48, iL57, iL59, iL63, iL64, iL65, iL120, iL126, iL455, iL520, iL9999, iL99999, iN2, iN8, iN64, iN65, iN120, iN130, iN520]
          exact hI
    rw [lL0]
    exact key s.1.1 0 (by omega)
  · simp only [if_pos c] at hQ0
    exact hQ0 hS
end LNM
