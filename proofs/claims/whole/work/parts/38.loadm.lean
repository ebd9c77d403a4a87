/-! load: the reference's -/
def mRd (M : qMem) (k : Nat) (f : Nat → Int) : Prop := M.1 36 17 = iI k ∧ k ≤ 64 ∧ ∀ j, j < k → M.1 43 j = iI (f j) ∧ okv (f j)
section LM
variable {Ls : Nat} {xs : Nat → Int32} {P : qSem} {M : qMem} {Q : qPost} {s : zSt} {t : zRow} {p k : Nat} {f : Nat → Int}
theorem mTx.m {A B : List Nat} {M' : qMem} (h : mTx M t) (hF : mFx A B M M') (h1 : 40 ∉ A) (h2 : 6 ∉ B) : mTx M' t := h.f (hF.2 6 h2) (hF.1 40 h1 (by decide))
theorem s_md_takes (hG : qGood Ls xs P) {x : Int} (hT : mTx M t) (hp : p ≤ 1000) (hP : M.1 36 13 = iI p) (hx : 32 ≤ x ∧ x ≤ 126)
    (h1 : chr t p = x → ∀ M', mFx [] [13] M M' → M'.1 36 13 = iI (p + 1 : Nat) → Q (some (.int (iI 1))) M')
    (h0 : chr t p ≠ x → ∀ M', mFx [] [13] M M' → M'.1 36 13 = iI p → Q (some (.int (iI 0))) M') : P 144 0 [(0, .ref 36), (1, .int (iI x))] [] M Q := by
  obtain ⟨t1, t2, t3⟩ := hT
  refine v_md_takes_0 hG ?_
  rw [hP, t1]
  simp (disch := omega) only [iI_add, iI_sub, iI_mul, iI_neg, iI_lt, iI_le, iI_eq, iI_cl, vp_iI, Classical.not_not, iLn1000000005, iLn1000000004, iLn1000000003, iLn1000000002, iLn1000000001, iLn99999, iLn9999, iLn2, iLn1, iL0, iL1, iL2, iL3, iL4, iL5, iL6, iL7, iL8, iL9, iL10, iL15, iL16, iL31, iL32, iL40, iL42, iL45, iL48, iL57, iL59, iL63, iL64, iL65, iL120, iL126, iL455, iL520, iL9999, iL99999, iN2, iN8, iN64, iN65, iN120, iN130, iN520]
  refine ⟨fun c => ⟨fun _ => ⟨by decide, ?_⟩, fun c => absurd trivial c⟩, fun c => ⟨by omega, ?_⟩⟩
  · refine h0 ?_ _ (mFx.p36 (by decide)) (by rw [pI_e, Int.add_zero])
    unfold chr
    rw [if_neg (by omega)]
    omega
  · have ec : chr t p = t.2 p := by unfold chr; rw [if_pos (by omega)]
    have ht := t3 p (by omega)
    rw [show ((p : Nat) : Int).toNat = p by omega, ht.1, ← ec]
    simp (disch := omega) only [iI_add, iI_sub, iI_mul, iI_neg, iI_lt, iI_le, iI_eq, iI_cl, vp_iI, Classical.not_not, iLn1000000005, iLn1000000004, iLn1000000003, iLn1000000002, iLn1000000001, iLn99999, iLn9999, iLn2, iLn1, iL0, iL1, iL2, iL3, iL4, iL5, iL6, iL7, iL8, iL9, iL10, iL15, iL16, iL31, iL32, iL40, iL42, iL45, iL48, iL57, iL59, iL63, iL64, iL65, iL120, iL126, iL455, iL520, iL9999, iL99999, iN2, iN8, iN64, iN65, iN120, iN130, iN520]
    refine ⟨fun c2 => ⟨fun _ => ⟨by decide, ?_⟩, fun c => absurd trivial c⟩, fun c2 => ⟨fun c => by omega, fun _ => ⟨by decide, ?_⟩⟩⟩
    · exact h0 c2 _ (mFx.p36 (by decide)) (by rw [pI_e, Int.add_zero])
    · exact h1 c2 _ (mFx.p36 (by decide)) (by rw [pI_e]; rfl)
theorem s_md_isDigit (hG : qGood Ls xs P) (hT : mTx M t) (hp : p ≤ 1000) (hP : M.1 36 13 = iI p) (hQ : Q (some (.int (iI (bZ (48 ≤ chr t p ∧ chr t p ≤ 57))))) M) : P 143 0 [(0, .ref 36)] [] M Q := by
  obtain ⟨t1, t2, t3⟩ := hT
  refine v_md_isDigit_0 hG ?_
  rw [hP, t1]
  simp (disch := omega) only [iI_add, iI_sub, iI_mul, iI_neg, iI_lt, iI_le, iI_eq, iI_cl, vp_iI, Classical.not_not, iLn1000000005, iLn1000000004, iLn1000000003, iLn1000000002, iLn1000000001, iLn99999, iLn9999, iLn2, iLn1, iL0, iL1, iL2, iL3, iL4, iL5, iL6, iL7, iL8, iL9, iL10, iL15, iL16, iL31, iL32, iL40, iL42, iL45, iL48, iL57, iL59, iL63, iL64, iL65, iL120, iL126, iL455, iL520, iL9999, iL99999, iN2, iN8, iN64, iN65, iN120, iN130, iN520]
  refine ⟨fun c => q_b hQ (bZ_f ?_), fun c => ⟨by omega, ?_⟩⟩
  · unfold chr
    rw [if_neg (by omega)]
    omega
  · have ec : chr t p = t.2 p := by unfold chr; rw [if_pos (by omega)]
    have ht := t3 p (by omega)
    rw [show ((p : Nat) : Int).toNat = p by omega, ht.1, ← ec]
    rw [← ec] at ht
    refine s_md_isIn hG (by omega) (by omega) (by omega) (by omega) (by omega) (by omega) ?_
    refine v_md_isDigit_13 hG ?_
    by_cases hd : 48 ≤ chr t p ∧ chr t p ≤ 57
    · rw [bZ_t hd] at hQ ⊢
      exact ⟨fun c => absurd c (by decide), fun _ => ⟨by decide, hQ⟩⟩
    · rw [bZ_f hd] at hQ ⊢
      exact ⟨fun _ => ⟨by decide, hQ⟩, fun c => absurd (show iI 0 = 0 by decide) c⟩
theorem s_md_isWrong (hG : qGood Ls xs P) {k w : Int} (hQ : ∀ M', mFx [] [14, 15] M M' → M'.1 36 14 = iI k → M'.1 36 15 = iI w → Q (some (.int (iI 1))) M') : P 142 0 [(0, .ref 36), (1, .int (iI k)), (2, .int (iI w))] [] M Q := by
  refine v_md_isWrong_0 hG ⟨by decide, ?_⟩
  refine hQ _ ((mFx.p36 (by decide)).tr (mFx.p36 (by decide))) ?_ ?_
  · rw [pI_nj (by omega), pI_e]
  · rw [pI_e]
theorem s_md_lacksNumber (hG : qGood Ls xs P) {c : Nat} (hT : mTx M t) (hp : p ≤ 500) (hc1 : 1 ≤ c) (hc : c ≤ 5) (hP : M.1 36 13 = iI p)
    (hO : (48 ≤ chr t p ∧ chr t p ≤ 57) → ∀ M', mFx [] [13, 18] M M' → M'.1 36 13 = iI (ndz t c 0 p).2 → M'.1 36 18 = iI (ndz t c 0 p).1 → Q (some (.int (iI 0))) M')
    (hE : ¬ (48 ≤ chr t p ∧ chr t p ≤ 57) → ∀ M', mFx [] [13, 14, 15, 18] M M' → M'.1 36 14 = iI 1 → M'.1 36 15 = iI p → Q (some (.int (iI 1))) M') : P 145 0 [(0, .ref 36), (1, .int (iI c))] [] M Q := by
  refine v_md_lacksNumber_0 hG ?_
  have key : ∀ (d i : Nat) (v : Int) (q : Nat) (M1 : qMem), i + d = c → q ≤ 500 + i → mFx [] [13, 18] M M1 → M1.1 36 13 = iI q → M1.1 36 18 = iI v → ndz t d v q = ndz t c 0 p → (i = 0 → q = p) → (i ≠ 0 → (48 ≤ chr t p ∧ chr t p ≤ 57)) → P 145 5 [(0, .ref 36), (1, .int (iI c)), (2, .int (iI i))] [] M1 Q := by
    intro d
    induction d with
    | zero =>
      intro i v q M1 hi hq hF1 hP1 hV1 he hi0 hi1
      have hq := hO (hi1 (by omega)) M1 hF1 (by rw [← he]; exact hP1) (by rw [← he]; exact hV1)
      refine v_md_lacksNumber_5 hG ?_
      simp (disch := omega) only [iI_add, iI_sub, iI_mul, iI_neg, iI_lt, iI_le, iI_eq, iI_cl, vp_iI, Classical.not_not, iLn1000000005, iLn1000000004, iLn1000000003, iLn1000000002, iLn1000000001, iLn99999, iLn9999, iLn2, iLn1, iL0, iL1, iL2, iL3, iL4, iL5, iL6, iL7, iL8, iL9, iL10, iL15, iL16, iL31, iL32, iL40, iL42, iL45, iL48, iL57, iL59, iL63, iL64, iL65, iL120, iL126, iL455, iL520, iL9999, iL99999, iN2, iN8, iN64, iN65, iN120, iN130, iN520]
      exact ⟨fun _ => ⟨fun _ => ⟨by decide, hq⟩, fun c => by omega⟩, fun c => by omega⟩
    | succ d ih =>
      intro i v q M1 hi hq hF1 hP1 hV1 he hi0 hi1
      have hT1 := hT.m hF1 (by decide) (by decide)
      rw [ndz_s] at he
      refine v_md_lacksNumber_5 hG ?_
      simp (disch := omega) only [iI_add, iI_sub, iI_mul, iI_neg, iI_lt, iI_le, iI_eq, iI_cl, vp_iI, Classical.not_not, iLn1000000005, iLn1000000004, iLn1000000003, iLn1000000002, iLn1000000001, iLn99999, iLn9999, iLn2, iLn1, iL0, iL1, iL2, iL3, iL4, iL5, iL6, iL7, iL8, iL9, iL10, iL15, iL16, iL31, iL32, iL40, iL42, iL45, iL48, iL57, iL59, iL63, iL64, iL65, iL120, iL126, iL455, iL520, iL9999, iL99999, iN2, iN8, iN64, iN65, iN120, iN130, iN520]
      refine ⟨fun c => by omega, fun _ => ?_⟩
      refine s_md_isDigit hG hT1 (by omega) hP1 ?_
      refine v_md_lacksNumber_10 hG ?_
      by_cases hd : 48 ≤ chr t q ∧ chr t q ≤ 57
      · rw [if_pos hd] at he
        rw [bZ_t hd]
        refine ⟨fun c => absurd c (by decide), fun _ => ?_⟩
        have ht := hT.2.2
        have hqt : q < t.1 := by
          rcases Nat.lt_or_ge q t.1 with h | h
          · exact h
          · exfalso
            unfold chr at hd
            rw [if_neg (by omega)] at hd
            omega
        have ec : chr t q = t.2 q := by unfold chr; rw [if_pos hqt]
        have h120 := hT.2.1
        rw [hP1, hV1]
        simp (disch := omega) only [iI_add, iI_sub, iI_mul, iI_neg, iI_lt, iI_le, iI_eq, iI_cl, vp_iI, Classical.not_not, iLn1000000005, iLn1000000004, iLn1000000003, iLn1000000002, iLn1000000001, iLn99999, iLn9999, iLn2, iLn1, iL0, iL1, iL2, iL3, iL4, iL5, iL6, iL7, iL8, iL9, iL10, iL15, iL16, iL31, iL32, iL40, iL42, iL45, iL48, iL57, iL59, iL63, iL64, iL65, iL120, iL126, iL455, iL520, iL9999, iL99999, iN2, iN8, iN64, iN65, iN120, iN130, iN520]
        refine ⟨by omega, ?_⟩
        rw [show ((q : Nat) : Int).toNat = q by omega, (hT1.2.2 q hqt).1, ← ec]
        simp (disch := omega) only [iI_add, iI_sub, iI_mul, iI_neg, iI_lt, iI_le, iI_eq, iI_cl, vp_iI, Classical.not_not, iLn1000000005, iLn1000000004, iLn1000000003, iLn1000000002, iLn1000000001, iLn99999, iLn9999, iLn2, iLn1, iL0, iL1, iL2, iL3, iL4, iL5, iL6, iL7, iL8, iL9, iL10, iL15, iL16, iL31, iL32, iL40, iL42, iL45, iL48, iL57, iL59, iL63, iL64, iL65, iL120, iL126, iL455, iL520, iL9999, iL99999, iN2, iN8, iN64, iN65, iN120, iN130, iN520]
        refine ih (i + 1) (10 * v + (chr t q - 48)) (q + 1) _ (by omega) (by omega) (hF1.tr ((mFx.p36 (by decide)).tr (mFx.p36 (by decide)))) (by rw [pI_e]; rfl) (by rw [pI_nj (by omega), pI_e]; congr 1; omega) he (fun z => by omega) (fun _ => ?_)
        by_cases z : i = 0
        · rw [← hi0 z]; exact hd
        · exact hi1 z
      · rw [if_neg hd] at he
        rw [bZ_f hd]
        refine ⟨fun _ => ?_, fun c => absurd (show iI 0 = 0 by decide) c⟩
        simp (disch := omega) only [iI_add, iI_sub, iI_mul, iI_neg, iI_lt, iI_le, iI_eq, iI_cl, vp_iI, Classical.not_not, iLn1000000005, iLn1000000004, iLn1000000003, iLn1000000002, iLn1000000001, iLn99999, iLn9999, iLn2, iLn1, iL0, iL1, iL2, iL3, iL4, iL5, iL6, iL7, iL8, iL9, iL10, iL15, iL16, iL31, iL32, iL40, iL42, iL45, iL48, iL57, iL59, iL63, iL64, iL65, iL120, iL126, iL455, iL520, iL9999, iL99999, iN2, iN8, iN64, iN65, iN120, iN130, iN520]
        refine ⟨fun c => ?_, fun c => ?_⟩
        · exact ⟨by decide, hO (hi1 (by omega)) M1 hF1 (by rw [← he]; exact hP1) (by rw [← he]; exact hV1)⟩
        · have eq := hi0 (by omega)
          subst eq
          rw [hP1]
          refine s_md_isWrong hG (fun M2 hF2 e1 e2 => ?_)
          refine v_md_lacksNumber_40 hG ⟨fun c => absurd c (by decide), fun _ => ⟨by decide, ?_⟩⟩
          exact hE hd M2 ((hF1.up (by decide) (by decide)).tr (hF2.up (by decide) (by decide))) e1 e2
  simp (disch := omega) only [iI_add, iI_sub, iI_mul, iI_neg, iI_lt, iI_le, iI_eq, iI_cl, vp_iI, Classical.not_not, iLn1000000005, iLn1000000004, iLn1000000003, iLn1000000002, iLn1000000001, iLn99999, iLn9999, iLn2, iLn1, iL0, iL1, iL2, iL3, iL4, iL5, iL6, iL7, iL8, iL9, iL10, iL15, iL16, iL31, iL32, iL40, iL42, iL45, iL48, iL57, iL59, iL63, iL64, iL65, iL120, iL126, iL455, iL520, iL9999, iL99999, iN2, iN8, iN64, iN65, iN120, iN130, iN520]
  exact key c 0 0 p _ (by omega) (by omega) (mFx.p36 (by decide)) (by rw [pI_nj (by omega)]; exact hP) pI_e rfl (fun _ => rfl) (fun z => absurd rfl z)
theorem s_md_isItemWrong (hG : qGood Ls xs P) (hT : mTx M t) (hp : p ≤ 200) (hP : M.1 36 13 = iI p) (hR : mRd M k f)
    (hE : ∀ e M', pIt t k p = .inl e → mFx [] [13, 14, 15, 18] M M' → M'.1 36 14 = iI e.1 → M'.1 36 15 = iI e.2 → Q (some (.int (iI 1))) M')
    (hO : ∀ a M', pIt t k p = .inr a → mFx [43] [13, 17, 18] M M' → M'.1 36 13 = iI a.2.2 → mRd M' (k + a.2.1.toNat) (fun j => if j < k then f j else a.1) → Q (some (.int (iI 0))) M') : P 146 0 [(0, .ref 36)] [] M Q := by
  have hk := hR.2.1
  have tail2 : ∀ (a b : Int × Nat) (M1 : qMem), pPh t p = .inr a → pTi t a.2 = .inr b → mFx [] [13, 18] M M1 → M1.1 36 13 = iI b.2 → P 144 0 [(0, .ref 36), (1, .int (iI 59))] [] M1 (fun v M' => P 146 59 [(0, .ref 36), (1, .int (iI p)), (2, .int (iI a.1)), (3, .int (iI b.1))] (v.toList ++ []) M' Q) := by
    intro a b M1 ha hb hF1 hP1
    have hai := pPh_in ha
    have hbi := pTi_in hb
    have hpi : pIt t k p = pEn t k p a.1 b.1 b.2 := by unfold pIt; rw [ha]; dsimp only; rw [hb]
    rw [hpi] at hE hO
    unfold pEn at hE hO
    refine s_md_takes hG (hT.m hF1 (by decide) (by decide)) (by omega) hP1 (by omega) (fun h59 M2 hF2 hP2 => ?_) (fun h59 M2 hF2 hP2 => ?_)
    · simp only [if_pos h59] at hE hO
      have hF12 : mFx [] [13, 18] M M2 := hF1.tr (hF2.up (by decide) (by decide))
      refine v_md_isItemWrong_59 hG ⟨fun _ => ?_, fun c => absurd (show ¬ iI 1 = 0 by decide) c⟩
      rw [hF12.2 17 (by decide), hR.1]
      simp (disch := omega) only [iI_add, iI_sub, iI_mul, iI_neg, iI_lt, iI_le, iI_eq, iI_cl, vp_iI, Classical.not_not, iLn1000000005, iLn1000000004, iLn1000000003, iLn1000000002, iLn1000000001, iLn99999, iLn9999, iLn2, iLn1, iL0, iL1, iL2, iL3, iL4, iL5, iL6, iL7, iL8, iL9, iL10, iL15, iL16, iL31, iL32, iL40, iL42, iL45, iL48, iL57, iL59, iL63, iL64, iL65, iL120, iL126, iL455, iL520, iL9999, iL99999, iN2, iN8, iN64, iN65, iN120, iN130, iN520]
      refine ⟨fun c => ?_, fun c => ?_⟩
      · simp only [if_pos c] at hO
        have key : ∀ (d i : Nat) (M3 : qMem), (i : Int) + d = b.1 → mFx [43] [13, 17, 18] M M3 → M3.1 36 13 = iI (b.2 + 1 : Nat) → mRd M3 (k + i) (fun j => if j < k then f j else a.1) → P 146 79 [(0, .ref 36), (2, .int (iI a.1)), (3, .int (iI b.1)), (4, .int (iI i))] [] M3 Q := by
          intro d
          induction d with
          | zero =>
            intro i M3 hi hF3 hP3 hR3
            refine v_md_isItemWrong_79 hG ?_
            simp (disch := omega) only [iI_add, iI_sub, iI_mul, iI_neg, iI_lt, iI_le, iI_eq, iI_cl, vp_iI, Classical.not_not, iLn1000000005, iLn1000000004, iLn1000000003, iLn1000000002, iLn1000000001, iLn99999, iLn9999, iLn2, iLn1, iL0, iL1, iL2, iL3, iL4, iL5, iL6, iL7, iL8, iL9, iL10, iL15, iL16, iL31, iL32, iL40, iL42, iL45, iL48, iL57, iL59, iL63, iL64, iL65, iL120, iL126, iL455, iL520, iL9999, iL99999, iN2, iN8, iN64, iN65, iN120, iN130, iN520]
            refine ⟨fun _ => ⟨by decide, ?_⟩, fun c => by omega⟩
            refine hO _ M3 rfl hF3 hP3 ?_
            show mRd M3 (k + b.1.toNat) _
            rw [show b.1.toNat = i by omega]
            exact hR3
          | succ d ih =>
            intro i M3 hi hF3 hP3 hR3
            refine v_md_isItemWrong_79 hG ?_
            rw [hR3.1]
            simp (disch := omega) only [iI_add, iI_sub, iI_mul, iI_neg, iI_lt, iI_le, iI_eq, iI_cl, vp_iI, Classical.not_not, iLn1000000005, iLn1000000004, iLn1000000003, iLn1000000002, iLn1000000001, iLn99999, iLn9999, iLn2, iLn1, iL0, iL1, iL2, iL3, iL4, iL5, iL6, iL7, iL8, iL9, iL10, iL15, iL16, iL31, iL32, iL40, iL42, iL45, iL48, iL57, iL59, iL63, iL64, iL65, iL120, iL126, iL455, iL520, iL9999, iL99999, iN2, iN8, iN64, iN65, iN120, iN130, iN520]
            refine ⟨fun c => by omega, fun _ => ⟨by omega, ?_⟩⟩
            rw [show ((k + i : Nat) : Int).toNat = k + i by omega]
            refine ih (i + 1) _ (by omega) (hF3.tr ((mFx.pI (by decide) (by decide)).tr (mFx.p36 (by decide)))) (by rw [pI_nj (by omega), pI_n (by omega)]; exact hP3) ⟨by rw [pI_e]; rfl, by omega, fun j hj => ?_⟩
            rw [pI_n (by omega)]
            by_cases q : j = k + i
            · rw [q, pI_e]
              dsimp only
              rw [if_neg (by omega)]
              exact ⟨rfl, hai.1⟩
            · rw [pI_nj q]
              exact hR3.2.2 j (by omega)
        exact key b.1.toNat 0 M2 (by omega) (hF12.up (by decide) (by decide)) hP2 ⟨by rw [hF12.2 17 (by decide)]; exact hR.1, by omega, fun j hj => by
          have hj' : j < k := hj
          rw [hF12.1 43 (by decide) (by decide)]
          dsimp only
          rw [if_pos hj']
          exact hR.2.2 j hj'⟩
      · simp only [if_neg c] at hE
        refine s_md_isWrong hG (fun M3 hF3 e1 e2 => ?_)
        exact v_md_isItemWrong_76 hG ⟨by decide, hE _ M3 rfl ((hF12.up (by decide) (by decide)).tr (hF3.up (by decide) (by decide))) e1 e2⟩
    · simp only [if_neg h59] at hE
      have hF12 : mFx [] [13, 18] M M2 := hF1.tr (hF2.up (by decide) (by decide))
      refine v_md_isItemWrong_59 hG ⟨fun c => absurd (show iI 0 = 0 by decide) c, fun _ => ?_⟩
      rw [hP2, iL1]
      refine s_md_isWrong hG (fun M3 hF3 e1 e2 => ?_)
      exact v_md_isItemWrong_65 hG ⟨by decide, hE _ M3 rfl ((hF12.up (by decide) (by decide)).tr (hF3.up (by decide) (by decide))) e1 e2⟩
  have tail1 : ∀ (a : Int × Nat) (M1 : qMem), pPh t p = .inr a → mFx [] [13, 18] M M1 → M1.1 36 13 = iI a.2 → P 144 0 [(0, .ref 36), (1, .int (iI 42))] [] M1 (fun v M' => P 146 33 [(0, .ref 36), (1, .int (iI p)), (2, .int (iI a.1)), (3, .int (iI 1))] (v.toList ++ []) M' Q) := by
    intro a M1 ha hF1 hP1
    have hai := pPh_in ha
    have hErr : ∀ e M', pTi t a.2 = .inl e → mFx [] [13, 14, 15, 18] M M' → M'.1 36 14 = iI e.1 → M'.1 36 15 = iI e.2 → Q (some (.int (iI 1))) M' := by
      intro e M' he
      exact hE e M' (by unfold pIt; rw [ha]; dsimp only; rw [he])
    have htl := fun b => tail2 a b
    unfold pTi at hErr
    refine s_md_takes hG (hT.m hF1 (by decide) (by decide)) (by omega) hP1 (by omega) (fun h42 M2 hF2 hP2 => ?_) (fun h42 M2 hF2 hP2 => ?_)
    · simp only [if_pos h42] at hErr
      have hF12 : mFx [] [13, 18] M M2 := hF1.tr (hF2.up (by decide) (by decide))
      refine v_md_isItemWrong_33 hG ⟨fun c => absurd c (by decide), fun _ => ?_⟩
      rw [hP2]
      refine s_md_lacksNumber (c := 2) hG (hT.m hF12 (by decide) (by decide)) (by omega) (by omega) (by omega) hP2 (fun hd M3 hF3 hP3 hV3 => ?_) (fun hd M3 hF3 e1 e2 => ?_)
      · simp only [if_pos hd] at hErr
        have hF13 : mFx [] [13, 18] M M3 := hF12.tr hF3
        have hb := ndz2 t (a.2 + 1)
        refine v_md_isItemWrong_40 hG ⟨fun _ => ?_, fun c => absurd (show iI 0 = 0 by decide) c⟩
        rw [hV3]
        refine s_md_isIn hG (a := 1) (b := 64) (by omega) (by omega) (by omega) (by omega) (by omega) (by omega) ?_
        refine v_md_isItemWrong_50 hG ?_
        by_cases hr : 1 ≤ (ndz t 2 0 (a.2 + 1)).1 ∧ (ndz t 2 0 (a.2 + 1)).1 ≤ 64
        · rw [bZ_t hr]
          refine ⟨fun _ => ?_, fun c => absurd (show ¬ iI 1 = 0 by decide) c⟩
          exact tail2 a (ndz t 2 0 (a.2 + 1)) M3 ha (by unfold pTi; rw [if_pos h42, if_pos hd, if_pos hr]) hF13 hP3
        · rw [bZ_f hr]
          simp only [if_neg hr] at hErr
          refine ⟨fun c => absurd (show iI 0 = 0 by decide) c, fun _ => ?_⟩
          refine s_md_isWrong (k := 2) hG (fun M4 hF4 e1 e2 => ?_)
          exact v_md_isItemWrong_55 hG ⟨by decide, hErr _ M4 rfl ((hF13.up (by decide) (by decide)).tr (hF4.up (by decide) (by decide))) e1 e2⟩
      · simp only [if_neg hd] at hErr
        refine v_md_isItemWrong_40 hG ⟨fun c => absurd c (by decide), fun _ => ⟨by decide, ?_⟩⟩
        exact hErr _ M3 rfl ((hF12.up (by decide) (by decide)).tr (hF3.up (by decide) (by decide))) e1 e2
    · have hF12 : mFx [] [13, 18] M M2 := hF1.tr (hF2.up (by decide) (by decide))
      refine v_md_isItemWrong_33 hG ⟨fun _ => ?_, fun c => absurd (show iI 0 = 0 by decide) c⟩
      exact tail2 a (1, a.2) M2 ha (by unfold pTi; rw [if_neg h42]) hF12 hP2
  have hng := pNeg_in t p
  have hErr0 : ∀ e M', pPh t p = .inl e → mFx [] [13, 14, 15, 18] M M' → M'.1 36 14 = iI e.1 → M'.1 36 15 = iI e.2 → Q (some (.int (iI 1))) M' := by
    intro e M' he
    exact hE e M' (by unfold pIt; rw [he])
  refine v_md_isItemWrong_0 hG ?_
  rw [hP]
  refine s_md_takes (x := 63) hG hT (by omega) hP (by omega) (fun h63 M1 hF1 hP1 => ?_) (fun h63 M1 hF1 hP1 => ?_)
  · refine v_md_isItemWrong_8 hG ⟨fun _ => ?_, fun c => absurd (show ¬ iI 1 = 0 by decide) c⟩
    exact tail1 ((-1000000001), p + 1) M1 (by unfold pPh; rw [if_pos h63]) (hF1.up (by decide) (by decide)) hP1
  · refine v_md_isItemWrong_8 hG ⟨fun c => absurd (show iI 0 = 0 by decide) c, fun _ => ?_⟩
    have num : ∀ (b : Int) (M2 : qMem), b = (if chr t p = 45 then 1 else 0) → mFx [] [13, 18] M M2 → M2.1 36 13 = iI (pNeg t p : Nat) → P 146 12 [(0, .ref 36), (1, .int (iI p))] [.int (iI b)] M2 Q := by
      intro b M2 hb hF2 hP2
      refine v_md_isItemWrong_12 hG ?_
      refine s_md_lacksNumber (c := 5) hG (hT.m hF2 (by decide) (by decide)) (by omega) (by omega) (by omega) hP2 (fun hd M3 hF3 hP3 hV3 => ?_) (fun hd M3 hF3 e1 e2 => ?_)
      · have hF23 : mFx [] [13, 18] M M3 := hF2.tr hF3
        refine v_md_isItemWrong_16 hG ⟨fun _ => ?_, fun c => absurd (show iI 0 = 0 by decide) c⟩
        rw [hV3]
        by_cases h45 : chr t p = 45
        · rw [if_pos h45] at hb
          subst hb
          refine ⟨fun c => absurd c (by decide), fun _ => ?_⟩
          rw [iI_neg]
          exact tail1 (-(ndz t 5 0 (pNeg t p)).1, (ndz t 5 0 (pNeg t p)).2) M3 (by unfold pPh; rw [if_neg h63, if_pos hd, if_pos h45]) hF23 hP3
        · rw [if_neg h45] at hb
          subst hb
          refine ⟨fun _ => ?_, fun c => absurd (show iI 0 = 0 by decide) c⟩
          exact tail1 ((ndz t 5 0 (pNeg t p)).1, (ndz t 5 0 (pNeg t p)).2) M3 (by unfold pPh; rw [if_neg h63, if_pos hd, if_neg h45]) hF23 hP3
      · refine v_md_isItemWrong_16 hG ⟨fun c => absurd c (by decide), fun _ => ⟨by decide, ?_⟩⟩
        exact hErr0 (1, ((pNeg t p : Nat) : Int)) M3 (by unfold pPh; rw [if_neg h63, if_neg hd]) ((hF2.up (by decide) (by decide)).tr (hF3.up (by decide) (by decide))) e1 e2
    refine s_md_takes (x := 45) hG (hT.m hF1 (by decide) (by decide)) (by omega) hP1 (by omega) (fun h45 M2 hF2 hP2 => ?_) (fun h45 M2 hF2 hP2 => ?_)
    · exact num 1 M2 (by rw [if_pos h45]) ((hF1.tr hF2).up (by decide) (by decide)) (by rw [hP2]; unfold pNeg; rw [if_pos h45])
    · exact num 0 M2 (by rw [if_neg h45]) ((hF1.tr hF2).up (by decide) (by decide)) (by rw [hP2]; unfold pNeg; rw [if_neg h45])
theorem M_load (hG : qGood Ls xs P) (hS : MS s M) (hQ : ∀ M', mFrm M M' → MS (tLoad s).2 M' → Q (some (.int (iI (tLoad s).1))) M') : P 147 0 [(0, .ref 36)] [] M Q := by
  have ht := hS.2.2.2.1.2.1
  unfold tLoad at hQ
  refine v_md_load_0 hG ?_
  have fin : ∀ (M1 : qMem) (k : Nat) (f : Nat → Int), pLd s.2.2.2.1 120 0 0 (fun _ => (-1000000001)) = .inr (k, f) → mFx scA scB M M1 → mRd M1 k f → P 93 0 [(0, .ref 36)] [] M1 (fun v M' => P 147 26 [(0, .ref 36)] (v.toList ++ []) M' Q) := by
    intro M1 k f hl hF1 hR1
    rw [hl] at hQ
    refine M_rec hG (hS.sc hF1) (fun M2 hR2 hF2 hK => ?_)
    refine v_md_load_26 hG ?_
    have hD2 : mRd M2 k f := ⟨by rw [hF2.2 17 (by decide)]; exact hR1.1, hR1.2.1, fun j hj => by rw [hF2.1 43 (by decide) (by decide)]; exact hR1.2.2 j hj⟩
    have hk := hR1.2.1
    have key : ∀ (d j : Nat) (M3 : qMem), j + d = k → mFx (37 :: scA) scB M2 M3 → mRd M3 k f → (∀ i, i < j → M3.1 37 i = iI (f i)) → P 147 28 [(0, .ref 36), (1, .int (iI j))] [] M3 Q := by
      intro d
      induction d with
      | zero =>
        intro j M3 hj hF3 hD3 hC3
        refine v_md_load_28 hG ?_
        rw [hD3.1]
        simp (disch := omega) only [iI_add, iI_sub, iI_mul, iI_neg, iI_lt, iI_le, iI_eq, iI_cl, vp_iI, Classical.not_not, iLn1000000005, iLn1000000004, iLn1000000003, iLn1000000002, iLn1000000001, iLn99999, iLn9999, iLn2, iLn1, iL0, iL1, iL2, iL3, iL4, iL5, iL6, iL7, iL8, iL9, iL10, iL15, iL16, iL31, iL32, iL40, iL42, iL45, iL48, iL57, iL59, iL63, iL64, iL65, iL120, iL126, iL455, iL520, iL9999, iL99999, iN2, iN8, iN64, iN65, iN120, iN130, iN520]
        refine ⟨fun _ => ⟨by omega, ?_⟩, fun c => by omega⟩
        rw [show (64 : Int).toNat = 64 from rfl]
        obtain ⟨k1, k2⟩ := hK (pI M3 37 64 (iI k)) (k, f) (hF3.tr (mFx.pI (by decide) (by decide))) ⟨by rw [pI_e], hk, fun i hi => by
          have hi' : i < k := hi
          rw [pI_nj (by omega), hC3 i (by omega)]
          exact ⟨rfl, (hD3.2.2 i hi').2⟩⟩
        exact hQ _ (fun a ha => by rw [k1 a ha, mFrm.of hF1 (by decide) a ha]) k2
      | succ d ih =>
        intro j M3 hj hF3 hD3 hC3
        refine v_md_load_28 hG ?_
        rw [hD3.1]
        simp (disch := omega) only [iI_add, iI_sub, iI_mul, iI_neg, iI_lt, iI_le, iI_eq, iI_cl, vp_iI, Classical.not_not, iLn1000000005, iLn1000000004, iLn1000000003, iLn1000000002, iLn1000000001, iLn99999, iLn9999, iLn2, iLn1, iL0, iL1, iL2, iL3, iL4, iL5, iL6, iL7, iL8, iL9, iL10, iL15, iL16, iL31, iL32, iL40, iL42, iL45, iL48, iL57, iL59, iL63, iL64, iL65, iL120, iL126, iL455, iL520, iL9999, iL99999, iN2, iN8, iN64, iN65, iN120, iN130, iN520]
        refine ⟨fun c => by omega, fun _ => ⟨by omega, by omega, ?_⟩⟩
        rw [show ((j : Nat) : Int).toNat = j by omega, (hD3.2.2 j (by omega)).1]
        refine ih (j + 1) _ (by omega) (hF3.tr (mFx.pI (by decide) (by decide))) ⟨by rw [pI_n (by omega)]; exact hD3.1, hk, fun i hi => by rw [pI_n (by omega)]; exact hD3.2.2 i hi⟩ (fun i hi => ?_)
        by_cases q : i = j
        · rw [q, pI_e]
        · rw [pI_nj q]
          exact hC3 i (by omega)
    exact key k 0 M2 (by omega) mFx.rf hD2 (fun i hi => by omega)
  have key : ∀ (c i p k : Nat) (f : Nat → Int) (M1 : qMem), i + c = 120 → i ≤ p → p ≤ 130 → mFx scA scB M M1 → M1.1 36 13 = iI p → mRd M1 k f → pLd s.2.2.2.1 c p k f = pLd s.2.2.2.1 120 0 0 (fun _ => (-1000000001)) → P 147 6 [(0, .ref 36)] [] M1 Q := by
    intro c
    induction c with
    | zero =>
      intro i p k f M1 hi hip hp hF1 hP1 hR1 hl
      refine v_md_load_6 hG ?_
      rw [hP1, (hS.sc hF1).2.2.2.1.1]
      simp (disch := omega) only [iI_add, iI_sub, iI_mul, iI_neg, iI_lt, iI_le, iI_eq, iI_cl, vp_iI, Classical.not_not, iLn1000000005, iLn1000000004, iLn1000000003, iLn1000000002, iLn1000000001, iLn99999, iLn9999, iLn2, iLn1, iL0, iL1, iL2, iL3, iL4, iL5, iL6, iL7, iL8, iL9, iL10, iL15, iL16, iL31, iL32, iL40, iL42, iL45, iL48, iL57, iL59, iL63, iL64, iL65, iL120, iL126, iL455, iL520, iL9999, iL99999, iN2, iN8, iN64, iN65, iN120, iN130, iN520]
      exact ⟨fun _ => fin M1 k f hl.symm hF1 hR1, fun c => by omega⟩
    | succ c ih =>
      intro i p k f M1 hi hip hp hF1 hP1 hR1 hl
      have hT1 := (hS.sc hF1).2.2.2.1
      rw [pLd_s] at hl
      refine v_md_load_6 hG ?_
      rw [hP1, hT1.1]
      simp (disch := omega) only [iI_add, iI_sub, iI_mul, iI_neg, iI_lt, iI_le, iI_eq, iI_cl, vp_iI, Classical.not_not, iLn1000000005, iLn1000000004, iLn1000000003, iLn1000000002, iLn1000000001, iLn99999, iLn9999, iLn2, iLn1, iL0, iL1, iL2, iL3, iL4, iL5, iL6, iL7, iL8, iL9, iL10, iL15, iL16, iL31, iL32, iL40, iL42, iL45, iL48, iL57, iL59, iL63, iL64, iL65, iL120, iL126, iL455, iL520, iL9999, iL99999, iN2, iN8, iN64, iN65, iN120, iN130, iN520]
      refine ⟨fun c2 => ?_, fun c2 => ?_⟩
      · rw [if_neg (by omega)] at hl
        exact fin M1 k f hl.symm hF1 hR1
      · rw [if_pos (by omega)] at hl
        refine s_md_isItemWrong hG hT1 (by omega) hP1 hR1 (fun e M2 he hF2 e1 e2 => ?_) (fun a M2 ha hF2 e1 hR2 => ?_)
        · rw [he] at hl
          rw [← hl] at hQ
          refine v_md_load_13 hG ⟨fun c => absurd c (by decide), fun _ => ?_⟩
          rw [e1, e2]
          have hFF : mFx scA (7 :: 8 :: scB) M (pI (pI M2 36 7 (iI e.1)) 36 8 (iI e.2)) := ((hF1.up (by decide) (by decide)).tr (hF2.up (by decide) (by decide))).tr ((mFx.p36 (by decide)).tr (mFx.p36 (by decide)))
          obtain ⟨m1, m2, m3, m4, m5⟩ := id hS
          exact hQ _ (mFrm.of hFF (by decide)) ⟨m1.fm (hFF.1 37 (by decide) (by decide)), m2.f (hFF.2 2 (by decide)) (hFF.1 38 (by decide) (by decide)), m3.f (hFF.2 4 (by decide)) (hFF.1 39 (by decide) (by decide)), m4.f (hFF.2 6 (by decide)) (hFF.1 40 (by decide) (by decide)), ⟨by rw [pI_nj (by omega), pI_e]; rfl, by rw [pI_e]; rfl⟩⟩
        · have hin := pIt_in ha
          rw [ha] at hl
          refine v_md_load_13 hG ⟨fun _ => ?_, fun c => absurd (show iI 0 = 0 by decide) c⟩
          exact ih (i + 1) a.2.2 _ _ M2 (by omega) (by omega) (by omega) (hF1.tr (hF2.up (by decide) (by decide))) e1 hR2 hl
  exact key 120 0 0 0 (fun _ => (-1000000001)) _ (by omega) (by omega) (by omega) ((mFx.p36 (by decide)).tr (mFx.p36 (by decide))) (by rw [pI_nj (by omega), pI_e]; rfl) ⟨by rw [pI_e]; rfl, by omega, fun j hj => absurd hj (Nat.not_lt_zero j)⟩ rfl
end LM
