/-! the reference's changes, first half -/
def scA : List Nat := [41, 42, 43]
def scB : List Nat := [11, 12, 13, 14, 15, 17, 18]
theorem mHi.f {M M' : qMem} {d : Nat} {h : Nat → zRow} (hH : mHi M d h) (h1 : M'.1 36 2 = M.1 36 2) (h2 : M'.1 38 = M.1 38) : mHi M' d h := by
  obtain ⟨hd, hD, hA⟩ := hH
  exact ⟨hd, by rw [h1]; exact hD, fun a ha => by unfold mRow; rw [h2]; exact hA a ha⟩
theorem mIm.f {M M' : qMem} {g : Nat → Option zRow} (h : mIm M g) (h1 : M'.1 36 4 = M.1 36 4) (h2 : M'.1 39 = M.1 39) : mIm M' g :=
  ⟨by rw [h1]; exact h.1, fun i hi r hr => by unfold mRow; rw [h2]; exact h.2 i hi r hr⟩
theorem mTx.f {M M' : qMem} {t : zRow} (h : mTx M t) (h1 : M'.1 36 6 = M.1 36 6) (h2 : M'.1 40 = M.1 40) : mTx M' t :=
  ⟨by rw [h1]; exact h.1, h.2.1, fun j hj => by rw [h2]; exact h.2.2 j hj⟩
theorem mFa.f {M M' : qMem} {u : Int × Int} (h : mFa M u) (h1 : M'.1 36 7 = M.1 36 7) (h2 : M'.1 36 8 = M.1 36 8) : mFa M' u :=
  ⟨by rw [h1]; exact h.1, by rw [h2]; exact h.2⟩
theorem MS.chg {s : zSt} {M M' : qMem} {r : zRow} (h : MS s M) (hF : mFx (37 :: 38 :: scA) (2 :: scB) M M') (hH : mHi M' (hpD s.2.1.1) (hpH s.2.1.1 s.2.1.2 s.1)) (hR : mX M' r.1 r.2) : MS (zChg s r) M' := by
  obtain ⟨_, _, h3, h4, h5⟩ := h
  exact ⟨hR, hH, h3.f (hF.2 4 (by decide)) (hF.1 39 (by decide) (by decide)), h4.f (hF.2 6 (by decide)) (hF.1 40 (by decide) (by decide)), h5.f (hF.2 7 (by decide)) (hF.2 8 (by decide))⟩
theorem MS.sc {s : zSt} {M M' : qMem} (h : MS s M) (hF : mFx scA scB M M') : MS s M' := by
  obtain ⟨h1, h2, h3, h4, h5⟩ := h
  exact ⟨h1.fm (hF.1 37 (by decide) (by decide)), h2.f (hF.2 2 (by decide)) (hF.1 38 (by decide) (by decide)), h3.f (hF.2 4 (by decide)) (hF.1 39 (by decide) (by decide)), h4.f (hF.2 6 (by decide)) (hF.1 40 (by decide) (by decide)), h5.f (hF.2 7 (by decide)) (hF.2 8 (by decide))⟩
section MO1
variable {Ls : Nat} {xs : Nat → Int32} {P : qSem} {M : qMem} {Q : qPost} {s : zSt}
theorem M_rec2 (hG : qGood Ls xs P) (hS : MS s M) (hQ : ∀ M1, M1.2 = M.2 → mX M1 s.1.1 s.1.2 → mFx [38] [2] M M1 → (∀ M2 (r : zRow), mFx (37 :: scA) scB M1 M2 → mX M2 r.1 r.2 → mFrm M M2 ∧ MS (zChg s r) M2) → Q none M1) : P 93 0 [(0, .ref 36)] [] M Q := by
  refine s_md_remember hG hS.1 hS.2.1 (fun M1 hF1 hL1 hH1 => hQ M1 hL1 (hS.1.fm (hF1.1 37 (by decide) (by decide))) hF1 (fun M2 r hF2 hR2 => ?_))
  have hF : mFx (37 :: 38 :: scA) (2 :: scB) M M2 := (hF1.up (by decide) (by decide)).tr (hF2.up (by decide) (by decide))
  exact ⟨mFrm.of hF (by decide), MS.chg hS hF (hH1.f (hF2.2 2 (by decide)) (hF2.1 38 (by decide) (by decide))) hR2⟩
theorem M_rec (hG : qGood Ls xs P) (hS : MS s M) (hQ : ∀ M1, mX M1 s.1.1 s.1.2 → mFx [38] [2] M M1 → (∀ M2 (r : zRow), mFx (37 :: scA) scB M1 M2 → mX M2 r.1 r.2 → mFrm M M2 ∧ MS (zChg s r) M2) → Q none M1) : P 93 0 [(0, .ref 36)] [] M Q :=
  M_rec2 hG hS (fun M1 _ => hQ M1)
theorem M_add (hG : qGood Ls xs P) {x : Int} (hS : MS s M) (hx : r32 x) (hQ : ∀ M', mFrm M M' → MS (tAdd s x).2 M' → Q (some (.int (iI (tAdd s x).1))) M') : P 96 0 [(0, .ref 36), (1, .int (iI x))] [] M Q := by
  obtain ⟨h1, h2⟩ := hx
  have hQ0 := hQ M mFrm.rf
  have hn := hS.1.2.1
  unfold tAdd at hQ hQ0
  refine v_md_add_0 hG ?_
  rw [i2l h1 h2]
  refine s_md_isPhase hG (by omega) (by omega) ?_
  refine v_md_add_3 hG ?_
  have hz := bZ_in (-99999 ≤ x ∧ x ≤ 99999)
  simp (disch := omega) only [iI_add, iI_sub, iI_mul, iI_neg, iI_lt, iI_le, iI_eq, iI_cl, vp_iI, Classical.not_not, iLn1000000005, iLn1000000004, iLn1000000003, iLn1000000002, iLn1000000001, iLn99999, iLn9999, iLn2, iLn1, iL0, iL1, iL2, iL3, iL4, iL5, iL6, iL7, iL8, iL9, iL10, iL15, iL16, iL31, iL32, iL40, iL42, iL45, iL48, iL57, iL59, iL63, iL64, iL65, iL120, iL126, iL455, iL520, iL9999, iL99999, iN2, iN8, iN64, iN65, iN120, iN130, iN520, bZ_0]
  refine ⟨fun c => ?_, fun c => ?_⟩
  · simp only [if_pos c] at hQ hQ0
    refine s_md_many hG hS.1 ?_
    refine v_md_add_8 hG ?_
    simp (disch := omega) only [iI_add, iI_sub, iI_mul, iI_neg, iI_lt, iI_le, iI_eq, iI_cl, vp_iI, Classical.not_not, iLn1000000005, iLn1000000004, iLn1000000003, iLn1000000002, iLn1000000001, iLn99999, iLn9999, iLn2, iLn1, iL0, iL1, iL2, iL3, iL4, iL5, iL6, iL7, iL8, iL9, iL10, iL15, iL16, iL31, iL32, iL40, iL42, iL45, iL48, iL57, iL59, iL63, iL64, iL65, iL120, iL126, iL455, iL520, iL9999, iL99999, iN2, iN8, iN64, iN65, iN120, iN130, iN520]
    refine ⟨fun c2 => ?_, fun c2 => ?_⟩
    · simp only [if_neg (show ¬ s.1.1 = 64 by omega)] at hQ
      refine M_rec hG hS (fun M1 hR1 hF1 hK => ?_)
      refine v_md_add_14 hG ?_
      refine s_md_many hG hR1 ?_
      refine v_md_add_18 hG ?_
      simp (disch := omega) only [iI_add, iI_sub, iI_mul, iI_neg, iI_lt, iI_le, iI_eq, iI_cl, vp_iI, Classical.not_not, iLn1000000005, iLn1000000004, iLn1000000003, iLn1000000002, iLn1000000001, iLn99999, iLn9999, iLn2, iLn1, iL0, iL1, iL2, iL3, iL4, iL5, iL6, iL7, iL8, iL9, iL10, iL15, iL16, iL31, iL32, iL40, iL42, iL45, iL48, iL57, iL59, iL63, iL64, iL65, iL120, iL126, iL455, iL520, iL9999, iL99999, iN2, iN8, iN64, iN65, iN120, iN130, iN520]
      refine ⟨by omega, by omega, by omega, ?_⟩
      rw [show ((s.1.1 : Nat) : Int).toNat = s.1.1 by omega, show (64 : Int).toNat = 64 from rfl, pI_nj (show 64 ≠ s.1.1 by omega), hR1.1]
      simp (disch := omega) only [iI_add, iI_sub, iI_mul, iI_neg, iI_lt, iI_le, iI_eq, iI_cl, vp_iI, Classical.not_not, iLn1000000005, iLn1000000004, iLn1000000003, iLn1000000002, iLn1000000001, iLn99999, iLn9999, iLn2, iLn1, iL0, iL1, iL2, iL3, iL4, iL5, iL6, iL7, iL8, iL9, iL10, iL15, iL16, iL31, iL32, iL40, iL42, iL45, iL48, iL57, iL59, iL63, iL64, iL65, iL120, iL126, iL455, iL520, iL9999, iL99999, iN2, iN8, iN64, iN65, iN120, iN130, iN520]
      have hR2 : mX (pI (pI M1 37 s.1.1 (iI x)) 37 64 (iI (s.1.1 + 1))) (s.1.1 + 1) (fun j => if j = s.1.1 then x else s.1.2 j) := by
        refine ⟨by rw [pI_e]; rfl, by omega, fun j hj => ?_⟩
        rw [pI_nj (by omega)]
        dsimp only
        by_cases e : j = s.1.1
        · rw [if_pos e, e, pI_e]
          exact ⟨rfl, Or.inr c⟩
        · rw [if_neg e, pI_nj e]
          exact hR1.2.2 j (by omega)
      refine s_md_many hG hR2 ?_
      refine v_md_add_30 hG ?_
      simp (disch := omega) only [iI_add, iI_sub, iI_mul, iI_neg, iI_lt, iI_le, iI_eq, iI_cl, vp_iI, Classical.not_not, iLn1000000005, iLn1000000004, iLn1000000003, iLn1000000002, iLn1000000001, iLn99999, iLn9999, iLn2, iLn1, iL0, iL1, iL2, iL3, iL4, iL5, iL6, iL7, iL8, iL9, iL10, iL15, iL16, iL31, iL32, iL40, iL42, iL45, iL48, iL57, iL59, iL63, iL64, iL65, iL120, iL126, iL455, iL520, iL9999, iL99999, iN2, iN8, iN64, iN65, iN120, iN130, iN520]
      obtain ⟨k1, k2⟩ := hK _ (s.1.1 + 1, fun j => if j = s.1.1 then x else s.1.2 j) ((mFx.pI (by decide) (by decide)).tr (mFx.pI (by decide) (by decide))) hR2
      exact q_i (by omega) (hQ _ k1 k2)
    · simp only [if_pos (show s.1.1 = 64 by omega)] at hQ0
      exact hQ0 hS
  · simp only [if_neg c] at hQ0
    exact hQ0 hS
theorem M_skip (hG : qGood Ls xs P) {x : Int} (hS : MS s M) (hx : r32 x) (hQ : ∀ M', mFrm M M' → MS (tSkip s x).2 M' → Q (some (.int (iI (tSkip s x).1))) M') : P 97 0 [(0, .ref 36), (1, .int (iI x))] [] M Q := by
  obtain ⟨h1, h2⟩ := hx
  have hQ0 := hQ M mFrm.rf
  have hn := hS.1.2.1
  unfold tSkip at hQ hQ0
  refine v_md_skip_0 hG ?_
  simp (disch := omega) only [iI_add, iI_sub, iI_mul, iI_neg, iI_lt, iI_le, iI_eq, iI_cl, vp_iI, Classical.not_not, iLn1000000005, iLn1000000004, iLn1000000003, iLn1000000002, iLn1000000001, iLn99999, iLn9999, iLn2, iLn1, iL0, iL1, iL2, iL3, iL4, iL5, iL6, iL7, iL8, iL9, iL10, iL15, iL16, iL31, iL32, iL40, iL42, iL45, iL48, iL57, iL59, iL63, iL64, iL65, iL120, iL126, iL455, iL520, iL9999, iL99999, iN2, iN8, iN64, iN65, iN120, iN130, iN520]
  refine s_md_isIn hG (by omega) (by omega) (by omega) (by omega) (by omega) (by omega) ?_
  refine v_md_skip_4 hG ?_
  have hz := bZ_in (1 ≤ x ∧ x ≤ 64)
  simp (disch := omega) only [iI_add, iI_sub, iI_mul, iI_neg, iI_lt, iI_le, iI_eq, iI_cl, vp_iI, Classical.not_not, iLn1000000005, iLn1000000004, iLn1000000003, iLn1000000002, iLn1000000001, iLn99999, iLn9999, iLn2, iLn1, iL0, iL1, iL2, iL3, iL4, iL5, iL6, iL7, iL8, iL9, iL10, iL15, iL16, iL31, iL32, iL40, iL42, iL45, iL48, iL57, iL59, iL63, iL64, iL65, iL120, iL126, iL455, iL520, iL9999, iL99999, iN2, iN8, iN64, iN65, iN120, iN130, iN520, bZ_0]
  refine ⟨fun c => ?_, fun c => ?_⟩
  · simp only [if_pos c] at hQ hQ0
    refine s_md_many hG hS.1 ?_
    refine v_md_skip_9 hG ?_
    simp (disch := omega) only [iI_add, iI_sub, iI_mul, iI_neg, iI_lt, iI_le, iI_eq, iI_cl, vp_iI, Classical.not_not, iLn1000000005, iLn1000000004, iLn1000000003, iLn1000000002, iLn1000000001, iLn99999, iLn9999, iLn2, iLn1, iL0, iL1, iL2, iL3, iL4, iL5, iL6, iL7, iL8, iL9, iL10, iL15, iL16, iL31, iL32, iL40, iL42, iL45, iL48, iL57, iL59, iL63, iL64, iL65, iL120, iL126, iL455, iL520, iL9999, iL99999, iN2, iN8, iN64, iN65, iN120, iN130, iN520]
    refine ⟨fun c2 => ?_, fun c2 => ?_⟩
    · simp only [if_neg (show ¬ 64 < s.1.1 + x by omega)] at hQ
      refine M_rec hG hS (fun M1 hR1 hF1 hK => ?_)
      refine v_md_skip_17 hG ?_
      have key : ∀ (c j : Nat) (M2 : qMem), (j : Int) + c = x → mFx (37 :: scA) scB M1 M2 → mX M2 s.1.1 s.1.2 → (∀ i, i < j → M2.1 37 (s.1.1 + i) = iI (-1000000001)) → P 97 19 [(0, .ref 36), (1, .int (iI x)), (2, .int (iI j))] [] M2 Q := by
        intro c
        induction c with
        | zero =>
          intro j M2 hj hF2 hX2 hC2
          have hxj : x = j := by omega
          refine v_md_skip_19 hG ?_
          simp (disch := omega) only [iI_add, iI_sub, iI_mul, iI_neg, iI_lt, iI_le, iI_eq, iI_cl, vp_iI, Classical.not_not, iLn1000000005, iLn1000000004, iLn1000000003, iLn1000000002, iLn1000000001, iLn99999, iLn9999, iLn2, iLn1, iL0, iL1, iL2, iL3, iL4, iL5, iL6, iL7, iL8, iL9, iL10, iL15, iL16, iL31, iL32, iL40, iL42, iL45, iL48, iL57, iL59, iL63, iL64, iL65, iL120, iL126, iL455, iL520, iL9999, iL99999, iN2, iN8, iN64, iN65, iN120, iN130, iN520]
          refine ⟨fun _ => ⟨by omega, by omega, ?_⟩, fun c => by omega⟩
          rw [show (64 : Int).toNat = 64 from rfl, hX2.1]
          simp (disch := omega) only [iI_add, iI_sub, iI_mul, iI_neg, iI_lt, iI_le, iI_eq, iI_cl, vp_iI, Classical.not_not, iLn1000000005, iLn1000000004, iLn1000000003, iLn1000000002, iLn1000000001, iLn99999, iLn9999, iLn2, iLn1, iL0, iL1, iL2, iL3, iL4, iL5, iL6, iL7, iL8, iL9, iL10, iL15, iL16, iL31, iL32, iL40, iL42, iL45, iL48, iL57, iL59, iL63, iL64, iL65, iL120, iL126, iL455, iL520, iL9999, iL99999, iN2, iN8, iN64, iN65, iN120, iN130, iN520]
          have hR2 : mX (pI M2 37 64 (iI (s.1.1 + x))) (s.1.1 + x.toNat) (fun j => if j < s.1.1 then s.1.2 j else (-1000000001)) := by
            refine ⟨by rw [pI_e]; congr 1; omega, by omega, fun i hi => ?_⟩
            rw [pI_nj (by omega)]
            dsimp only
            by_cases e : i < s.1.1
            · rw [if_pos e]
              exact hX2.2.2 i e
            · rw [if_neg e]
              have q := hC2 (i - s.1.1) (by omega)
              rw [show s.1.1 + (i - s.1.1) = i by omega] at q
              exact ⟨q, Or.inl rfl⟩
          refine s_md_many hG hR2 ?_
          refine v_md_skip_42 hG ?_
          obtain ⟨k1, k2⟩ := hK _ (s.1.1 + x.toNat, fun j => if j < s.1.1 then s.1.2 j else (-1000000001)) (hF2.tr (mFx.pI (by decide) (by decide))) hR2
          exact q_i (by omega) (hQ _ k1 k2)
        | succ c ih =>
          intro j M2 hj hF2 hX2 hC2
          refine v_md_skip_19 hG ?_
          simp (disch := omega) only [iI_add, iI_sub, iI_mul, iI_neg, iI_lt, iI_le, iI_eq, iI_cl, vp_iI, Classical.not_not, iLn1000000005, iLn1000000004, iLn1000000003, iLn1000000002, iLn1000000001, iLn99999, iLn9999, iLn2, iLn1, iL0, iL1, iL2, iL3, iL4, iL5, iL6, iL7, iL8, iL9, iL10, iL15, iL16, iL31, iL32, iL40, iL42, iL45, iL48, iL57, iL59, iL63, iL64, iL65, iL120, iL126, iL455, iL520, iL9999, iL99999, iN2, iN8, iN64, iN65, iN120, iN130, iN520]
          refine ⟨fun c => by omega, fun c => ?_⟩
          refine s_md_many hG hX2 ?_
          refine v_md_skip_26 hG ?_
          simp (disch := omega) only [iI_add, iI_sub, iI_mul, iI_neg, iI_lt, iI_le, iI_eq, iI_cl, vp_iI, Classical.not_not, iLn1000000005, iLn1000000004, iLn1000000003, iLn1000000002, iLn1000000001, iLn99999, iLn9999, iLn2, iLn1, iL0, iL1, iL2, iL3, iL4, iL5, iL6, iL7, iL8, iL9, iL10, iL15, iL16, iL31, iL32, iL40, iL42, iL45, iL48, iL57, iL59, iL63, iL64, iL65, iL120, iL126, iL455, iL520, iL9999, iL99999, iN2, iN8, iN64, iN65, iN120, iN130, iN520]
          refine ⟨by omega, ?_⟩
          rw [show ((s.1.1 : Int) + j).toNat = s.1.1 + j by omega]
          refine ih (j + 1) _ (by omega) (hF2.tr (mFx.pI (by decide) (by decide))) ⟨by rw [pI_nj (by omega)]; exact hX2.1, hX2.2.1, fun i hi => by rw [pI_nj (by omega)]; exact hX2.2.2 i hi⟩ (fun i hi => ?_)
          by_cases e : i = j
          · rw [e, pI_e]
          · rw [pI_nj (by omega)]
            exact hC2 i (by omega)
      simp (disch := omega) only [iI_add, iI_sub, iI_mul, iI_neg, iI_lt, iI_le, iI_eq, iI_cl, vp_iI, Classical.not_not, iLn1000000005, iLn1000000004, iLn1000000003, iLn1000000002, iLn1000000001, iLn99999, iLn9999, iLn2, iLn1, iL0, iL1, iL2, iL3, iL4, iL5, iL6, iL7, iL8, iL9, iL10, iL15, iL16, iL31, iL32, iL40, iL42, iL45, iL48, iL57, iL59, iL63, iL64, iL65, iL120, iL126, iL455, iL520, iL9999, iL99999, iN2, iN8, iN64, iN65, iN120, iN130, iN520]
      exact key x.toNat 0 M1 (by omega) mFx.rf hR1 (fun i hi => by omega)
    · simp only [if_pos (show 64 < s.1.1 + x by omega)] at hQ0
      exact hQ0 hS
  · simp only [if_neg c] at hQ0
    exact hQ0 hS
theorem M_set (hG : qGood Ls xs P) {i x : Int} (hS : MS s M) (hi : r32 i) (hx : r32 x) (hQ : ∀ M', mFrm M M' → MS (tSet s i x).2 M' → Q (some (.int (iI (tSet s i x).1))) M') : P 98 0 [(0, .ref 36), (1, .int (iI i)), (2, .int (iI x))] [] M Q := by
  obtain ⟨h1, h2⟩ := hx
  obtain ⟨g1, g2⟩ := hi
  have hQ0 := hQ M mFrm.rf
  have hn := hS.1.2.1
  unfold tSet at hQ hQ0
  have tail : (0 ≤ i ∧ i < s.1.1) → (x = (-1000000001) ∨ (-99999 ≤ x ∧ x ≤ 99999)) → P 93 0 [(0, .ref 36)] [] M (fun v M' => P 98 15 [(0, .ref 36), (1, .int (iI i)), (2, .int (iI x))] (v.toList ++ []) M' Q) := by
    intro c1 c2
    simp only [if_pos (show (0 ≤ i ∧ i < s.1.1) ∧ (x = (-1000000001) ∨ (-99999 ≤ x ∧ x ≤ 99999)) from ⟨c1, c2⟩)] at hQ
    refine M_rec hG hS (fun M1 hR1 hF1 hK => ?_)
    refine v_md_set_15 hG ?_
    simp (disch := omega) only [iI_add, iI_sub, iI_mul, iI_neg, iI_lt, iI_le, iI_eq, iI_cl, vp_iI, Classical.not_not, iLn1000000005, iLn1000000004, iLn1000000003, iLn1000000002, iLn1000000001, iLn99999, iLn9999, iLn2, iLn1, iL0, iL1, iL2, iL3, iL4, iL5, iL6, iL7, iL8, iL9, iL10, iL15, iL16, iL31, iL32, iL40, iL42, iL45, iL48, iL57, iL59, iL63, iL64, iL65, iL120, iL126, iL455, iL520, iL9999, iL99999, iN2, iN8, iN64, iN65, iN120, iN130, iN520]
    refine ⟨by omega, by omega, ?_⟩
    rw [(hR1.2.2 i.toNat (by omega)).1]
    have hR2 : mX (pI M1 37 i.toNat (iI x)) s.1.1 (fun j => if j = i.toNat then x else s.1.2 j) := by
      refine ⟨by rw [pI_nj (by omega)]; exact hR1.1, by omega, fun j hj => ?_⟩
      dsimp only
      by_cases e : j = i.toNat
      · rw [if_pos e, e, pI_e]
        exact ⟨rfl, c2⟩
      · rw [if_neg e, pI_nj e]
        exact hR1.2.2 j hj
    obtain ⟨k1, k2⟩ := hK _ (s.1.1, fun j => if j = i.toNat then x else s.1.2 j) (mFx.pI (by decide) (by decide)) hR2
    exact hQ _ k1 k2
  refine v_md_set_0 hG ?_
  refine s_md_isReading hG hS.1 g1 g2 ?_
  refine v_md_set_3 hG ?_
  have hz := bZ_in (0 ≤ i ∧ i < s.1.1)
  rw [i2l h1 h2]
  simp (disch := omega) only [iI_add, iI_sub, iI_mul, iI_neg, iI_lt, iI_le, iI_eq, iI_cl, vp_iI, Classical.not_not, iLn1000000005, iLn1000000004, iLn1000000003, iLn1000000002, iLn1000000001, iLn99999, iLn9999, iLn2, iLn1, iL0, iL1, iL2, iL3, iL4, iL5, iL6, iL7, iL8, iL9, iL10, iL15, iL16, iL31, iL32, iL40, iL42, iL45, iL48, iL57, iL59, iL63, iL64, iL65, iL120, iL126, iL455, iL520, iL9999, iL99999, iN2, iN8, iN64, iN65, iN120, iN130, iN520, bZ_0]
  refine ⟨fun c => ?_, fun c => ?_⟩
  · simp only [if_neg (show ¬ ((0 ≤ i ∧ i < s.1.1) ∧ (x = (-1000000001) ∨ (-99999 ≤ x ∧ x ≤ 99999))) from fun z => c z.1)] at hQ0
    exact hQ0 hS
  · refine s_md_isPhase hG (by omega) (by omega) ?_
    refine v_md_set_7 hG ?_
    have hz2 := bZ_in (-99999 ≤ x ∧ x ≤ 99999)
    simp (disch := omega) only [iI_add, iI_sub, iI_mul, iI_neg, iI_lt, iI_le, iI_eq, iI_cl, vp_iI, Classical.not_not, iLn1000000005, iLn1000000004, iLn1000000003, iLn1000000002, iLn1000000001, iLn99999, iLn9999, iLn2, iLn1, iL0, iL1, iL2, iL3, iL4, iL5, iL6, iL7, iL8, iL9, iL10, iL15, iL16, iL31, iL32, iL40, iL42, iL45, iL48, iL57, iL59, iL63, iL64, iL65, iL120, iL126, iL455, iL520, iL9999, iL99999, iN2, iN8, iN64, iN65, iN120, iN130, iN520, bZ_0]
    refine ⟨fun c3 => tail c (Or.inr c3), fun c3 => ⟨fun c4 => tail c (Or.inl c4), fun c4 => ?_⟩⟩
    simp only [if_neg (show ¬ ((0 ≤ i ∧ i < s.1.1) ∧ (x = (-1000000001) ∨ (-99999 ≤ x ∧ x ≤ 99999))) from fun z => z.2.elim c4 c3)] at hQ0
    exact hQ0 hS
theorem M_clear (hG : qGood Ls xs P) (hS : MS s M) (hQ : ∀ M', mFrm M M' → MS (tClear s).2 M' → Q (some (.int (iI (tClear s).1))) M') : P 99 0 [(0, .ref 36)] [] M Q := by
  refine v_md_clear_0 hG ?_
  refine s_md_many hG hS.1 ?_
  refine v_md_clear_2 hG ?_
  refine M_rec hG hS (fun M1 hR1 hF1 hK => ?_)
  refine v_md_clear_5 hG ?_
  simp (disch := omega) only [iI_add, iI_sub, iI_mul, iI_neg, iI_lt, iI_le, iI_eq, iI_cl, vp_iI, Classical.not_not, iLn1000000005, iLn1000000004, iLn1000000003, iLn1000000002, iLn1000000001, iLn99999, iLn9999, iLn2, iLn1, iL0, iL1, iL2, iL3, iL4, iL5, iL6, iL7, iL8, iL9, iL10, iL15, iL16, iL31, iL32, iL40, iL42, iL45, iL48, iL57, iL59, iL63, iL64, iL65, iL120, iL126, iL455, iL520, iL9999, iL99999, iN2, iN8, iN64, iN65, iN120, iN130, iN520]
  refine ⟨by omega, ?_⟩
  rw [show (64 : Int).toNat = 64 from rfl]
  obtain ⟨k1, k2⟩ := hK (pI M1 37 64 (iI 0)) (0, s.1.2) (mFx.pI (by decide) (by decide)) ⟨by rw [pI_e]; rfl, by omega, fun j hj => absurd hj (Nat.not_lt_zero j)⟩
  exact hQ _ k1 k2
theorem M_undo (hG : qGood Ls xs P) (hS : MS s M) (hQ : ∀ M', mFrm M M' → MS (tUndo s).2 M' → Q (some (.int (iI (tUndo s).1))) M') : P 112 0 [(0, .ref 36)] [] M Q := by
  obtain ⟨h1, ⟨hd, hD, hA⟩, h3, h4, h5⟩ := id hS
  have hQ0 := hQ M mFrm.rf
  unfold tUndo at hQ hQ0
  refine v_md_undo_0 hG ?_
  simp (disch := omega) only [iI_add, iI_sub, iI_mul, iI_neg, iI_lt, iI_le, iI_eq, iI_cl, vp_iI, Classical.not_not, iLn1000000005, iLn1000000004, iLn1000000003, iLn1000000002, iLn1000000001, iLn99999, iLn9999, iLn2, iLn1, iL0, iL1, iL2, iL3, iL4, iL5, iL6, iL7, iL8, iL9, iL10, iL15, iL16, iL31, iL32, iL40, iL42, iL45, iL48, iL57, iL59, iL63, iL64, iL65, iL120, iL126, iL455, iL520, iL9999, iL99999, iN2, iN8, iN64, iN65, iN120, iN130, iN520, hD]
  refine ⟨fun c => ?_, fun c => ?_⟩
  · simp only [if_neg (show ¬ s.2.1.1 = 0 by omega)] at hQ
    generalize hdd : s.2.1.1 = d at *
    have ed : ((d : Nat) : Int) - 1 = ((d - 1 : Nat) : Int) := by omega
    rw [ed] at hQ ⊢
    obtain ⟨r1, r2, r3⟩ := hA (d - 1) (by omega)
    have key : ∀ (c j : Nat) (M2 : qMem), j + c = 65 → mFx [37] [2] M M2 → M2.1 36 2 = iI (d - 1 : Nat) → (∀ i, i < j → M2.1 37 i = M.1 38 (65 * (d - 1) + i)) → P 112 13 [(0, .ref 36), (1, .int (iI j))] [] M2 Q := by
      intro c
      induction c with
      | zero =>
        intro j M2 hj hF2 hD2 hC2
        refine v_md_undo_13 hG ?_
        simp (disch := omega) only [iI_add, iI_sub, iI_mul, iI_neg, iI_lt, iI_le, iI_eq, iI_cl, vp_iI, Classical.not_not, iLn1000000005, iLn1000000004, iLn1000000003, iLn1000000002, iLn1000000001, iLn99999, iLn9999, iLn2, iLn1, iL0, iL1, iL2, iL3, iL4, iL5, iL6, iL7, iL8, iL9, iL10, iL15, iL16, iL31, iL32, iL40, iL42, iL45, iL48, iL57, iL59, iL63, iL64, iL65, iL120, iL126, iL455, iL520, iL9999, iL99999, iN2, iN8, iN64, iN65, iN120, iN130, iN520, hD2]
        refine ⟨fun _ => ?_, fun c => by omega⟩
        refine hQ M2 (mFrm.of hF2 (by decide)) ⟨⟨?_, r2, fun i hi => ?_⟩, ⟨by dsimp only; omega, hD2, fun a ha => ?_⟩, h3.f (hF2.2 4 (by decide)) (hF2.1 39 (by decide) (by decide)), h4.f (hF2.2 6 (by decide)) (hF2.1 40 (by decide) (by decide)), h5.f (hF2.2 7 (by decide)) (hF2.2 8 (by decide))⟩
        · rw [hC2 64 (by omega)]; exact r1
        · have hi' : i < (s.2.1.2 (d - 1)).1 := hi
          rw [hC2 i (by omega)]; exact r3 i hi
        · have ha' : a < d - 1 := ha
          unfold mRow
          rw [hF2.1 38 (by decide) (by decide)]
          exact hA a (by omega)
      | succ c ih =>
        intro j M2 hj hF2 hD2 hC2
        refine v_md_undo_13 hG ?_
        simp (disch := omega) only [iI_add, iI_sub, iI_mul, iI_neg, iI_lt, iI_le, iI_eq, iI_cl, vp_iI, Classical.not_not, iLn1000000005, iLn1000000004, iLn1000000003, iLn1000000002, iLn1000000001, iLn99999, iLn9999, iLn2, iLn1, iL0, iL1, iL2, iL3, iL4, iL5, iL6, iL7, iL8, iL9, iL10, iL15, iL16, iL31, iL32, iL40, iL42, iL45, iL48, iL57, iL59, iL63, iL64, iL65, iL120, iL126, iL455, iL520, iL9999, iL99999, iN2, iN8, iN64, iN65, iN120, iN130, iN520, hD2]
        refine ⟨fun c => by omega, fun c => ⟨by omega, by omega, ?_⟩⟩
        rw [show (65 * ((d - 1 : Nat) : Int) + j).toNat = 65 * (d - 1) + j by omega, show ((j : Nat) : Int).toNat = j by omega]
        refine ih (j + 1) _ (by omega) (hF2.tr (mFx.pI (by decide) (by decide))) (by rw [pI_n (by omega)]; exact hD2) (fun i hi => ?_)
        by_cases e : i = j
        · rw [e, pI_e, hF2.1 38 (by decide) (by decide)]
        · rw [pI_nj e]
          exact hC2 i (by omega)
    exact key 65 0 _ (by omega) (mFx.p36 (by decide)) pI_e (fun i hi => by omega)
  · simp only [if_pos (show s.2.1.1 = 0 by omega)] at hQ0
    exact hQ0 hS
theorem M_write (hG : qGood Ls xs P) {x : Int} (hS : MS s M) (hx : r32 x) (hQ : ∀ M', mFrm M M' → MS (tWrite s x).2 M' → Q (some (.int (iI (tWrite s x).1))) M') : P 140 0 [(0, .ref 36), (1, .int (iI x))] [] M Q := by
  obtain ⟨g1, g2⟩ := hx
  obtain ⟨h1, h2, h3, h4, h5⟩ := id hS
  have hQ0 := hQ M mFrm.rf
  have ht := h4.2.1
  unfold tWrite at hQ hQ0
  refine v_md_write_0 hG ?_
  simp (disch := omega) only [iI_add, iI_sub, iI_mul, iI_neg, iI_lt, iI_le, iI_eq, iI_cl, vp_iI, Classical.not_not, iLn1000000005, iLn1000000004, iLn1000000003, iLn1000000002, iLn1000000001, iLn99999, iLn9999, iLn2, iLn1, iL0, iL1, iL2, iL3, iL4, iL5, iL6, iL7, iL8, iL9, iL10, iL15, iL16, iL31, iL32, iL40, iL42, iL45, iL48, iL57, iL59, iL63, iL64, iL65, iL120, iL126, iL455, iL520, iL9999, iL99999, iN2, iN8, iN64, iN65, iN120, iN130, iN520]
  refine s_md_isIn hG (by omega) (by omega) (by omega) (by omega) (by omega) (by omega) ?_
  refine v_md_write_4 hG ?_
  have hz := bZ_in (32 ≤ x ∧ x ≤ 126)
  simp (disch := omega) only [iI_add, iI_sub, iI_mul, iI_neg, iI_lt, iI_le, iI_eq, iI_cl, vp_iI, Classical.not_not, iLn1000000005, iLn1000000004, iLn1000000003, iLn1000000002, iLn1000000001, iLn99999, iLn9999, iLn2, iLn1, iL0, iL1, iL2, iL3, iL4, iL5, iL6, iL7, iL8, iL9, iL10, iL15, iL16, iL31, iL32, iL40, iL42, iL45, iL48, iL57, iL59, iL63, iL64, iL65, iL120, iL126, iL455, iL520, iL9999, iL99999, iN2, iN8, iN64, iN65, iN120, iN130, iN520, bZ_0, h4.1]
  refine ⟨fun c => ⟨fun c2 => ⟨by omega, ?_⟩, fun c2 => ?_⟩, fun c => ?_⟩
  · simp only [if_pos c, if_neg (show ¬ s.2.2.2.1.1 = 120 by omega)] at hQ
    rw [show ((s.2.2.2.1.1 : Nat) : Int).toNat = s.2.2.2.1.1 by omega]
    have hF : mFx [40] [6] M (pI (pI M 40 s.2.2.2.1.1 (iI x)) 36 6 (iI (s.2.2.2.1.1 + 1))) := (mFx.pI (by decide) (by decide)).tr (mFx.p36 (by decide))
    refine hQ _ (mFrm.of hF (by decide)) ⟨h1.fm (hF.1 37 (by decide) (by decide)), h2.f (hF.2 2 (by decide)) (hF.1 38 (by decide) (by decide)), h3.f (hF.2 4 (by decide)) (hF.1 39 (by decide) (by decide)), ⟨?_, ?_, fun j hj => ?_⟩, h5.f (hF.2 7 (by decide)) (hF.2 8 (by decide))⟩
    · rw [pI_e]; rfl
    · show s.2.2.2.1.1 + 1 ≤ 120; omega
    · have hj' : j < s.2.2.2.1.1 + 1 := hj
      rw [pI_n (by omega)]
      show _ = iI (if j = s.2.2.2.1.1 then x else s.2.2.2.1.2 j) ∧ 32 ≤ (if j = s.2.2.2.1.1 then x else s.2.2.2.1.2 j) ∧ (if j = s.2.2.2.1.1 then x else s.2.2.2.1.2 j) ≤ 126
      by_cases e : j = s.2.2.2.1.1
      · rw [if_pos e, e, pI_e]
        exact ⟨rfl, by omega, by omega⟩
      · rw [if_neg e, pI_nj e]
        exact h4.2.2 j (by omega)
  · simp only [if_pos c, if_pos (show s.2.2.2.1.1 = 120 by omega)] at hQ0
    exact hQ0 hS
  · simp only [if_neg c] at hQ0
    exact hQ0 hS
theorem M_wipe (hG : qGood Ls xs P) (hS : MS s M) (hQ : ∀ M', mFrm M M' → MS (tWipe s).2 M' → Q (some (.int (iI (tWipe s).1))) M') : P 141 0 [(0, .ref 36)] [] M Q := by
  obtain ⟨h1, h2, h3, h4, h5⟩ := id hS
  refine v_md_wipe_0 hG ?_
  rw [h4.1]
  have hF : mFx [] [6] M (pI M 36 6 (0 : Int32)) := mFx.p36 (by decide)
  exact hQ _ (mFrm.of hF (by decide)) ⟨h1.fm (hF.1 37 (by decide) (by decide)), h2.f (hF.2 2 (by decide)) (hF.1 38 (by decide) (by decide)), h3.f (hF.2 4 (by decide)) (hF.1 39 (by decide) (by decide)), ⟨by rw [pI_e]; rfl, Nat.zero_le _, fun j hj => absurd hj (Nat.not_lt_zero j)⟩, h5.f (hF.2 7 (by decide)) (hF.2 8 (by decide))⟩
theorem M_fault (hG : qGood Ls xs P) {w : Int} (hS : MS s M) (hw : r32 w) (hQ : Q (some (.int (iI (aFault s.2.2.2.2 w)))) M) : P 148 0 [(0, .ref 36), (1, .int (iI w))] [] M Q := by
  obtain ⟨g1, g2⟩ := hw
  obtain ⟨h1, h2, h3, h4, h5⟩ := id hS
  unfold aFault at hQ
  refine v_md_fault_0 hG ?_
  rw [h5.1, h5.2]
  simp (disch := omega) only [iI_add, iI_sub, iI_mul, iI_neg, iI_lt, iI_le, iI_eq, iI_cl, vp_iI, Classical.not_not, iLn1000000005, iLn1000000004, iLn1000000003, iLn1000000002, iLn1000000001, iLn99999, iLn9999, iLn2, iLn1, iL0, iL1, iL2, iL3, iL4, iL5, iL6, iL7, iL8, iL9, iL10, iL15, iL16, iL31, iL32, iL40, iL42, iL45, iL48, iL57, iL59, iL63, iL64, iL65, iL120, iL126, iL455, iL520, iL9999, iL99999, iN2, iN8, iN64, iN65, iN120, iN130, iN520]
  refine ⟨fun c => ⟨fun c2 => ?_, fun c2 => ?_⟩, fun c => ?_⟩
  · rw [if_neg (by omega), if_neg (by omega)] at hQ
    exact hQ
  · rw [if_neg (by omega), if_pos (by omega)] at hQ
    exact hQ
  · rw [if_pos (by omega)] at hQ
    exact hQ
theorem s_md_isImage (hG : qGood Ls xs P) {i : Int} (hi : r32 i) (hQ : Q (some (.int (iI (bZ (0 ≤ i ∧ i ≤ 1))))) M) : P 149 0 [(0, .int (iI i))] [] M Q := by
  obtain ⟨g1, g2⟩ := hi
  refine v_md_isImage_0 hG ?_
  simp (disch := omega) only [iI_add, iI_sub, iI_mul, iI_neg, iI_lt, iI_le, iI_eq, iI_cl, vp_iI, Classical.not_not, iLn1000000005, iLn1000000004, iLn1000000003, iLn1000000002, iLn1000000001, iLn99999, iLn9999, iLn2, iLn1, iL0, iL1, iL2, iL3, iL4, iL5, iL6, iL7, iL8, iL9, iL10, iL15, iL16, iL31, iL32, iL40, iL42, iL45, iL48, iL57, iL59, iL63, iL64, iL65, iL120, iL126, iL455, iL520, iL9999, iL99999, iN2, iN8, iN64, iN65, iN120, iN130, iN520]
  refine s_md_isIn hG (by omega) (by omega) (by omega) (by omega) (by omega) (by omega) ?_
  exact v_md_isImage_4 hG ⟨bZ_n _, hQ⟩
theorem oB_in (g : Option zRow) : oB g = 0 ∨ oB g = 1 := by cases g <;> simp [oB]
theorem bits_or : ∀ a b : Bool, (iI ((if a then 1 else 0) + 2 * (if b then 1 else 0)) ||| ((iI 1) <<< (iI 0 &&& iI 31)) = iI (1 + 2 * (if b then 1 else 0))) ∧ (iI ((if a then 1 else 0) + 2 * (if b then 1 else 0)) ||| ((iI 1) <<< (iI 1 &&& iI 31)) = iI ((if a then 1 else 0) + 2 * 1)) ∧ ((iI ((if a then 1 else 0) + 2 * (if b then 1 else 0)) >>> (iI 0 &&& iI 31)) &&& iI 1 = iI (if a then 1 else 0)) ∧ ((iI ((if a then 1 else 0) + 2 * (if b then 1 else 0)) >>> (iI 1 &&& iI 31)) &&& iI 1 = iI (if b then 1 else 0)) := by decide
theorem oB_b (g : Option zRow) : oB g = (if g.isSome = true then 1 else 0) := by cases g <;> rfl
theorem M_keep (hG : qGood Ls xs P) {i : Int} (hS : MS s M) (hi : r32 i) (hQ : ∀ M', mFrm M M' → MS (tKeep s i).2 M' → Q (some (.int (iI (tKeep s i).1))) M') : P 150 0 [(0, .ref 36), (1, .int (iI i))] [] M Q := by
  obtain ⟨h1, h2, h3, h4, h5⟩ := id hS
  have hQ0 := hQ M mFrm.rf
  have hn := h1.2.1
  unfold tKeep at hQ hQ0
  refine v_md_keep_0 hG ?_
  refine s_md_isImage hG hi ?_
  refine v_md_keep_2 hG ?_
  have hz := bZ_in (0 ≤ i ∧ i ≤ 1)
  simp (disch := omega) only [iI_add, iI_sub, iI_mul, iI_neg, iI_lt, iI_le, iI_eq, iI_cl, vp_iI, Classical.not_not, iLn1000000005, iLn1000000004, iLn1000000003, iLn1000000002, iLn1000000001, iLn99999, iLn9999, iLn2, iLn1, iL0, iL1, iL2, iL3, iL4, iL5, iL6, iL7, iL8, iL9, iL10, iL15, iL16, iL31, iL32, iL40, iL42, iL45, iL48, iL57, iL59, iL63, iL64, iL65, iL120, iL126, iL455, iL520, iL9999, iL99999, iN2, iN8, iN64, iN65, iN120, iN130, iN520, bZ_0]
  refine ⟨fun c => ?_, fun c => ?_⟩
  · simp only [if_pos c] at hQ
    have ei : i = ((i.toNat : Nat) : Int) := by omega
    have hj : i.toNat < 2 := by omega
    generalize i.toNat = k at ei hj hQ
    subst ei
    have key : ∀ (c j : Nat) (M2 : qMem), j + c = 65 → mFx [39] [] M M2 → (∀ a, a < 2 → a ≠ k → ∀ i, i < 65 → M2.1 39 (65 * a + i) = M.1 39 (65 * a + i)) → (∀ i, i < j → M2.1 39 (65 * k + i) = M.1 37 i) → P 150 7 [(0, .ref 36), (1, .int (iI k)), (2, .int (iI j))] [] M2 Q := by
      intro c
      induction c with
      | zero =>
        intro j M2 hj2 hF2 hB2 hC2
        refine v_md_keep_7 hG ?_
        rw [hF2.2 4 (by decide), h3.1]
        have hbit : iI (oB (s.2.2.1 0) + 2 * oB (s.2.2.1 1)) ||| ((1 : Int32) <<< (iI k &&& (31 : Int32))) = iI (oB (if 0 = k then some s.1 else s.2.2.1 0) + 2 * oB (if 1 = k then some s.1 else s.2.2.1 1)) := by
          have hb := bits_or (s.2.2.1 0).isSome (s.2.2.1 1).isSome
          rw [← oB_b, ← oB_b] at hb
          have : k = 0 ∨ k = 1 := by omega
          rcases this with e | e
          · subst e
            exact hb.1
          · subst e
            exact hb.2.1
        rw [hbit]
        generalize hbb : oB (if 0 = k then some s.1 else s.2.2.1 0) + 2 * oB (if 1 = k then some s.1 else s.2.2.1 1) = bb
        simp (disch := omega) only [iI_add, iI_sub, iI_mul, iI_neg, iI_lt, iI_le, iI_eq, iI_cl, vp_iI, Classical.not_not, iLn1000000005, iLn1000000004, iLn1000000003, iLn1000000002, iLn1000000001, iLn99999, iLn9999, iLn2, iLn1, iL0, iL1, iL2, iL3, iL4, iL5, iL6, iL7, iL8, iL9, iL10, iL15, iL16, iL31, iL32, iL40, iL42, iL45, iL48, iL57, iL59, iL63, iL64, iL65, iL120, iL126, iL455, iL520, iL9999, iL99999, iN2, iN8, iN64, iN65, iN120, iN130, iN520]
        refine ⟨fun _ => ?_, fun c => by omega⟩
        have hF : mFx [39] [4] M (pI M2 36 4 (iI bb)) := (hF2.up (by decide) (by decide)).tr (mFx.p36 (by decide))
        have hX2 := h1.fm (hF.1 37 (by decide) (by decide))
        refine s_md_many hG hX2 ?_
        refine v_md_keep_34 hG ?_
        refine hQ _ (mFrm.of hF (by decide)) ⟨hX2, h2.f (hF.2 2 (by decide)) (hF.1 38 (by decide) (by decide)), ⟨?_, fun a ha r hr => ?_⟩, h4.f (hF.2 6 (by decide)) (hF.1 40 (by decide) (by decide)), h5.f (hF.2 7 (by decide)) (hF.2 8 (by decide))⟩
        · rw [pI_e, ← hbb]
          rfl
        · have hr' : (if a = k then some s.1 else s.2.2.1 a) = some r := hr
          unfold mRow
          rw [pI_n (by omega)]
          show mRow M2 39 (65 * a) r
          by_cases q : a = k
          · rw [if_pos q] at hr'
            cases hr'
            rw [q]
            refine ⟨by rw [hC2 64 (by omega)]; exact h1.1, hn, fun i hi => ?_⟩
            rw [hC2 i (by omega)]
            exact h1.2.2 i hi
          · rw [if_neg q] at hr'
            obtain ⟨r1, r2, r3⟩ := h3.2 a ha r hr'
            refine ⟨by rw [hB2 a ha q 64 (by omega)]; exact r1, r2, fun i hi => ?_⟩
            rw [hB2 a ha q i (by omega)]
            exact r3 i hi
      | succ c ih =>
        intro j M2 hj2 hF2 hB2 hC2
        refine v_md_keep_7 hG ?_
        simp (disch := omega) only [iI_add, iI_sub, iI_mul, iI_neg, iI_lt, iI_le, iI_eq, iI_cl, vp_iI, Classical.not_not, iLn1000000005, iLn1000000004, iLn1000000003, iLn1000000002, iLn1000000001, iLn99999, iLn9999, iLn2, iLn1, iL0, iL1, iL2, iL3, iL4, iL5, iL6, iL7, iL8, iL9, iL10, iL15, iL16, iL31, iL32, iL40, iL42, iL45, iL48, iL57, iL59, iL63, iL64, iL65, iL120, iL126, iL455, iL520, iL9999, iL99999, iN2, iN8, iN64, iN65, iN120, iN130, iN520]
        refine ⟨fun c => by omega, fun c => ⟨by omega, by omega, ?_⟩⟩
        rw [show (65 * (k : Int) + j).toNat = 65 * k + j by omega, show ((j : Nat) : Int).toNat = j by omega]
        refine ih (j + 1) _ (by omega) (hF2.tr (mFx.pI (by decide) (by decide))) (fun a ha hak i hi => ?_) (fun i hi => ?_)
        · rw [pI_nj (by omega)]
          exact hB2 a ha hak i hi
        · by_cases e : i = j
          · rw [e, pI_e, hF2.1 37 (by decide) (by decide)]
          · rw [pI_nj (by omega)]
            exact hC2 i (by omega)
    exact key 65 0 M (by omega) mFx.rf (fun _ _ _ _ _ => rfl) (fun i hi => by omega)
  · simp only [if_neg c] at hQ0
    exact hQ0 hS
theorem M_back (hG : qGood Ls xs P) {i : Int} (hS : MS s M) (hi : r32 i) (hQ : ∀ M', mFrm M M' → MS (tBack s i).2 M' → Q (some (.int (iI (tBack s i).1))) M') : P 151 0 [(0, .ref 36), (1, .int (iI i))] [] M Q := by
  obtain ⟨h1, h2, h3, h4, h5⟩ := id hS
  have hQ0 := hQ M mFrm.rf
  unfold tBack at hQ hQ0
  refine v_md_back_0 hG ?_
  refine s_md_isImage hG hi ?_
  refine v_md_back_2 hG ?_
  have hz := bZ_in (0 ≤ i ∧ i ≤ 1)
  by_cases c : 0 ≤ i ∧ i ≤ 1
  · simp only [if_pos c] at hQ hQ0
    rw [bZ_t c]
    have ei : i = ((i.toNat : Nat) : Int) := by omega
    have hj : i.toNat < 2 := by omega
    generalize i.toNat = k at ei hj hQ hQ0
    subst ei
    have hbit : ((M.1 36 4) >>> (iI k &&& (31 : Int32))) &&& (1 : Int32) = iI (oB (s.2.2.1 k)) := by
      rw [h3.1]
      have hb := bits_or (s.2.2.1 0).isSome (s.2.2.1 1).isSome
      rw [← oB_b, ← oB_b] at hb
      have : k = 0 ∨ k = 1 := by omega
      rcases this with e | e
      · subst e
        exact hb.2.2.1
      · subst e
        exact hb.2.2.2
    rw [hbit]
    refine ⟨fun _ => ?_, fun c => absurd (show ¬ iI 1 = 0 by decide) c⟩
    cases hg : s.2.2.1 k with
    | none =>
      rw [hg] at hQ0
      exact ⟨fun c => absurd (show iI 0 = 0 by decide) c, fun _ => hQ0 hS⟩
    | some r =>
      rw [hg] at hQ
      refine ⟨fun _ => ?_, fun c => absurd (show ¬ iI 1 = 0 by decide) c⟩
      obtain ⟨r1, r2, r3⟩ := h3.2 k hj r hg
      refine M_rec hG hS (fun M1 hR1 hF1 hK => ?_)
      refine v_md_back_16 hG ?_
      have key : ∀ (c j : Nat) (M2 : qMem), j + c = 65 → mFx (37 :: scA) scB M1 M2 → (∀ i, i < j → M2.1 37 i = M.1 39 (65 * k + i)) → P 151 18 [(0, .ref 36), (1, .int (iI k)), (2, .int (iI j))] [] M2 Q := by
        intro c
        induction c with
        | zero =>
          intro j M2 hj2 hF2 hC2
          refine v_md_back_18 hG ?_
          simp (disch := omega) only [iI_add, iI_sub, iI_mul, iI_neg, iI_lt, iI_le, iI_eq, iI_cl, vp_iI, Classical.not_not, iLn1000000005, iLn1000000004, iLn1000000003, iLn1000000002, iLn1000000001, iLn99999, iLn9999, iLn2, iLn1, iL0, iL1, iL2, iL3, iL4, iL5, iL6, iL7, iL8, iL9, iL10, iL15, iL16, iL31, iL32, iL40, iL42, iL45, iL48, iL57, iL59, iL63, iL64, iL65, iL120, iL126, iL455, iL520, iL9999, iL99999, iN2, iN8, iN64, iN65, iN120, iN130, iN520]
          refine ⟨fun _ => ?_, fun c => by omega⟩
          have hX2 : mX M2 r.1 r.2 := ⟨by rw [hC2 64 (by omega)]; exact r1, r2, fun i hi => by rw [hC2 i (by omega)]; exact r3 i hi⟩
          refine s_md_many hG hX2 ?_
          refine v_md_back_37 hG ?_
          obtain ⟨k1, k2⟩ := hK M2 r hF2 hX2
          exact hQ M2 k1 k2
        | succ c ih =>
          intro j M2 hj2 hF2 hC2
          refine v_md_back_18 hG ?_
          simp (disch := omega) only [iI_add, iI_sub, iI_mul, iI_neg, iI_lt, iI_le, iI_eq, iI_cl, vp_iI, Classical.not_not, iLn1000000005, iLn1000000004, iLn1000000003, iLn1000000002, iLn1000000001, iLn99999, iLn9999, iLn2, iLn1, iL0, iL1, iL2, iL3, iL4, iL5, iL6, iL7, iL8, iL9, iL10, iL15, iL16, iL31, iL32, iL40, iL42, iL45, iL48, iL57, iL59, iL63, iL64, iL65, iL120, iL126, iL455, iL520, iL9999, iL99999, iN2, iN8, iN64, iN65, iN120, iN130, iN520]
          refine ⟨fun c => by omega, fun c => ⟨by omega, by omega, ?_⟩⟩
          rw [show (65 * (k : Int) + j).toNat = 65 * k + j by omega, show ((j : Nat) : Int).toNat = j by omega]
          refine ih (j + 1) _ (by omega) (hF2.tr (mFx.pI (by decide) (by decide))) (fun i hi => ?_)
          by_cases e : i = j
          · rw [e, pI_e, hF2.1 39 (by decide) (by decide), hF1.1 39 (by decide) (by decide)]
          · rw [pI_nj (by omega)]
            exact hC2 i (by omega)
      simp (disch := omega) only [iI_add, iI_sub, iI_mul, iI_neg, iI_lt, iI_le, iI_eq, iI_cl, vp_iI, Classical.not_not, iLn1000000005, iLn1000000004, iLn1000000003, iLn1000000002, iLn1000000001, iLn99999, iLn9999, iLn2, iLn1, iL0, iL1, iL2, iL3, iL4, iL5, iL6, iL7, iL8, iL9, iL10, iL15, iL16, iL31, iL32, iL40, iL42, iL45, iL48, iL57, iL59, iL63, iL64, iL65, iL120, iL126, iL455, iL520, iL9999, iL99999, iN2, iN8, iN64, iN65, iN120, iN130, iN520]
      exact key 65 0 M1 (by omega) mFx.rf (fun i hi => by omega)
  · simp only [if_neg c] at hQ0
    rw [bZ_f c]
    exact ⟨fun c => absurd (show iI 0 = 0 by decide) c, fun _ => hQ0 hS⟩
end MO1
