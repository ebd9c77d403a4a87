/-! lines and drift: the class's three methods, the reference's four -/
section LN2
variable {Ls : Nat} {xs : Nat → Int32} {P : qSem} {M : qMem} {Q : qPost} {s : zSt} {n k : Nat} {f g : Nat → Int}
theorem amt.pJ {a : Nat} {t : Nat} (h : amt a t g M) : amt a (t + 1) g (pJ M a t (lI (g t))) := fun u hu => by
  by_cases e : u = t
  · rw [e, pJ_e]
  · rw [pJ_nj e]
    exact h u (by omega)
theorem C_removeLine (hG : qGood Ls xs P) {i j : Int} (hS : CS s M) (hi : r32 i) (hj : r32 j) (hQ : ∀ M', cFrm M M' → CS (tLine s i j).2 M' → Q (some (.int (iI (tLine s i j).1))) M') : P 38 0 [(0, .ref 0), (1, .int (iI i)), (2, .int (iI j))] [] M Q := by
  obtain ⟨g1, g2⟩ := hi
  obtain ⟨g3, g4⟩ := hj
  have hQ0 := hQ M cFrm.rf
  have hn := hS.1.2.1
  unfold tLine at hQ hQ0
  refine v_sa_removeLine_0 hG ?_
  refine s_rd_reaches hG q1Rd hS.1 g1 g2 ?_
  refine v_sa_removeLine_4 hG ?_
  by_cases c1 : 0 ≤ i ∧ i < s.1.1
  · rw [bZ_t c1]
    refine ⟨fun c => absurd c (by decide), fun _ => ?_⟩
    refine s_rd_reaches hG q1Rd hS.1 g3 g4 ?_
    refine v_sa_removeLine_9 hG ?_
    by_cases c2 : 0 ≤ j ∧ j < s.1.1
    · rw [bZ_t c2]
      refine ⟨fun c => absurd c (by decide), fun _ => ?_⟩
      simp (disch := omega) only [iI_add, iI_sub, iI_mul, iI_neg, iI_lt, iI_le, iI_eq, iI_cl, vp_iI, Classical.not_not, iLn1000000005, iLn1000000004, iLn1000000003, iLn1000000002, iLn1000000001, iLn99999, iLn9999, iLn2, iLn1, iL0, iL1, iL2, iL3, iL4, iL5, iL6, iL7, iL8, iL9, iL10, iL15, iL16, iL31, iL32, iL40, iL42, iL45, iL48, iL57, iL59, iL63, iL64, iL65, iL120, iL126, iL455, iL520, iL9999, iL99999, iN2, iN8, iN64, iN65, iN120, iN130, iN520]
      refine ⟨fun c3 => ?_, fun c3 => ?_⟩
      · simp only [if_pos (show (0 ≤ i ∧ i < s.1.1) ∧ (0 ≤ j ∧ j < s.1.1) ∧ i < j from ⟨c1, c2, c3⟩)] at hQ hQ0
        refine s_rd_has hG q1Rd hS.1 g1 g2 ?_
        refine v_sa_removeLine_19 hG ?_
        by_cases c4 : vl s.1.1 s.1.2 i = (-1000000001)
        · rw [bZ_f (fun z => z c4)]
          simp only [if_pos (show vl s.1.1 s.1.2 i = (-1000000001) ∨ vl s.1.1 s.1.2 j = (-1000000001) from Or.inl c4)] at hQ0
          exact ⟨fun _ => hQ0 hS, fun c => absurd (show iI 0 = 0 by decide) c⟩
        · rw [bZ_t c4]
          refine ⟨fun c => absurd c (by decide), fun _ => ?_⟩
          refine s_rd_has hG q1Rd hS.1 g3 g4 ?_
          refine v_sa_removeLine_24 hG ?_
          by_cases c5 : vl s.1.1 s.1.2 j = (-1000000001)
          · rw [bZ_f (fun z => z c5)]
            simp only [if_pos (show vl s.1.1 s.1.2 i = (-1000000001) ∨ vl s.1.1 s.1.2 j = (-1000000001) from Or.inr c5)] at hQ0
            exact ⟨fun c => absurd (show iI 0 = 0 by decide) c, fun _ => hQ0 hS⟩
          · rw [bZ_t c5]
            refine ⟨fun _ => ?_, fun c => absurd (show ¬ iI 1 = 0 by decide) c⟩
            simp only [if_neg (show ¬ (vl s.1.1 s.1.2 i = (-1000000001) ∨ vl s.1.1 s.1.2 j = (-1000000001)) from fun z => z.elim c4 c5)] at hQ
            have key : ∀ (d t : Nat) (M1 : qMem), t + d = 64 → qFm [5] M M1 → amt 5 t (fun t => lnz s.1.1 s.1.2 i j t) M1 → P 38 29 [(0, .ref 0), (1, .int (iI i)), (2, .int (iI j)), (3, .int (iI t))] [] M1 Q := by
              intro d
              induction d with
              | zero =>
                intro t M1 ht hF1 hA1
                refine v_sa_removeLine_29 hG ?_
                simp (disch := omega) only [iI_add, iI_sub, iI_mul, iI_neg, iI_lt, iI_le, iI_eq, iI_cl, vp_iI, Classical.not_not, iLn1000000005, iLn1000000004, iLn1000000003, iLn1000000002, iLn1000000001, iLn99999, iLn9999, iLn2, iLn1, iL0, iL1, iL2, iL3, iL4, iL5, iL6, iL7, iL8, iL9, iL10, iL15, iL16, iL31, iL32, iL40, iL42, iL45, iL48, iL57, iL59, iL63, iL64, iL65, iL120, iL126, iL455, iL520, iL9999, iL99999, iN2, iN8, iN64, iN65, iN120, iN130, iN520]
                refine ⟨fun _ => ?_, fun c => by omega⟩
                refine C_sub (g := fun t => lnz s.1.1 s.1.2 i j t) hG (hS.nx hF1 (by decide)) (fun u hu => hA1 u (by omega)) (fun u hu => lnz_bd hS.1.ok c4 c5 (by omega) (by omega) (by omega) (by omega)) (fun M2 hF2 hS2 => ?_)
                refine v_sa_removeLine_48 hG (hQ M2 (fun a ha => ?_) hS2)
                rw [hF2 a ha, (hF1 a (by simp only [List.mem_cons, List.not_mem_nil, or_false]; omega)).1]
              | succ d ih =>
                intro t M1 ht hF1 hA1
                refine v_sa_removeLine_29 hG ?_
                simp (disch := omega) only [iI_add, iI_sub, iI_mul, iI_neg, iI_lt, iI_le, iI_eq, iI_cl, vp_iI, Classical.not_not, iLn1000000005, iLn1000000004, iLn1000000003, iLn1000000002, iLn1000000001, iLn99999, iLn9999, iLn2, iLn1, iL0, iL1, iL2, iL3, iL4, iL5, iL6, iL7, iL8, iL9, iL10, iL15, iL16, iL31, iL32, iL40, iL42, iL45, iL48, iL57, iL59, iL63, iL64, iL65, iL120, iL126, iL455, iL520, iL9999, iL99999, iN2, iN8, iN64, iN65, iN120, iN130, iN520]
                refine ⟨fun c => by omega, fun c => ?_⟩
                refine s_rd_lineAt hG q1Rd (hS.nx hF1 (by decide)).1 (by omega) c3 (by omega) (by omega) (by omega) c4 c5 ?_
                refine v_sa_removeLine_43 hG ?_
                simp (disch := omega) only [iI_add, iI_sub, iI_mul, iI_neg, iI_lt, iI_le, iI_eq, iI_cl, vp_iI, Classical.not_not, iLn1000000005, iLn1000000004, iLn1000000003, iLn1000000002, iLn1000000001, iLn99999, iLn9999, iLn2, iLn1, iL0, iL1, iL2, iL3, iL4, iL5, iL6, iL7, iL8, iL9, iL10, iL15, iL16, iL31, iL32, iL40, iL42, iL45, iL48, iL57, iL59, iL63, iL64, iL65, iL120, iL126, iL455, iL520, iL9999, iL99999, iN2, iN8, iN64, iN65, iN120, iN130, iN520]
                refine ⟨by omega, ?_⟩
                rw [show ((t : Nat) : Int).toNat = t by omega]
                exact ih (t + 1) _ (by omega) (hF1.tr (qFm.pJ (by decide))) (hA1.pJ (g := fun t => lnz s.1.1 s.1.2 i j t))
            simp (disch := omega) only [iI_add, iI_sub, iI_mul, iI_neg, iI_lt, iI_le, iI_eq, iI_cl, vp_iI, Classical.not_not, iLn1000000005, iLn1000000004, iLn1000000003, iLn1000000002, iLn1000000001, iLn99999, iLn9999, iLn2, iLn1, iL0, iL1, iL2, iL3, iL4, iL5, iL6, iL7, iL8, iL9, iL10, iL15, iL16, iL31, iL32, iL40, iL42, iL45, iL48, iL57, iL59, iL63, iL64, iL65, iL120, iL126, iL455, iL520, iL9999, iL99999, iN2, iN8, iN64, iN65, iN120, iN130, iN520]
            exact key 64 0 M (by omega) qFm.rf (fun u hu => by omega)
      · simp only [if_neg (show ¬ ((0 ≤ i ∧ i < s.1.1) ∧ (0 ≤ j ∧ j < s.1.1) ∧ i < j) from fun z => c3 z.2.2)] at hQ0
        exact hQ0 hS
    · rw [bZ_f c2]
      simp only [if_neg (show ¬ ((0 ≤ i ∧ i < s.1.1) ∧ (0 ≤ j ∧ j < s.1.1) ∧ i < j) from fun z => c2 z.2.1)] at hQ0
      exact ⟨fun _ => hQ0 hS, fun c => absurd (show iI 0 = 0 by decide) c⟩
  · rw [bZ_f c1]
    simp only [if_neg (show ¬ ((0 ≤ i ∧ i < s.1.1) ∧ (0 ≤ j ∧ j < s.1.1) ∧ i < j) from fun z => c1 z.1)] at hQ0
    exact ⟨fun _ => hQ0 hS, fun c => absurd (show iI 0 = 0 by decide) c⟩
theorem ln_bd {a b t : Int} (h1 : -9999 ≤ a ∧ a ≤ 9999) (h2 : -99999 ≤ b ∧ b ≤ 99999) (h3 : 0 ≤ t) (h4 : t ≤ 64) : -1000000000000 ≤ -(a * t + b) ∧ -(a * t + b) ≤ 1000000000000 := by
  have hm := mul_bd (A := 9999) (C := 64) (a := a) (c := t) (by omega) (by omega) (by omega) (by omega)
  omega
theorem C_addLine (hG : qGood Ls xs P) {a b : Int} (hS : CS s M) (ha : r32 a) (hb : r32 b) (hQ : ∀ M', cFrm M M' → CS (tALine s a b).2 M' → Q (some (.int (iI (tALine s a b).1))) M') : P 39 0 [(0, .ref 0), (1, .int (iI a)), (2, .int (iI b))] [] M Q := by
  obtain ⟨g1, g2⟩ := ha
  obtain ⟨g3, g4⟩ := hb
  have hQ0 := hQ M cFrm.rf
  have hn := hS.1.2.1
  unfold tALine at hQ hQ0
  refine v_sa_addLine_0 hG ?_
  rw [i2l g3 g4]
  simp (disch := omega) only [iI_add, iI_sub, iI_mul, iI_neg, iI_lt, iI_le, iI_eq, iI_cl, vp_iI, Classical.not_not, iLn1000000005, iLn1000000004, iLn1000000003, iLn1000000002, iLn1000000001, iLn99999, iLn9999, iLn2, iLn1, iL0, iL1, iL2, iL3, iL4, iL5, iL6, iL7, iL8, iL9, iL10, iL15, iL16, iL31, iL32, iL40, iL42, iL45, iL48, iL57, iL59, iL63, iL64, iL65, iL120, iL126, iL455, iL520, iL9999, iL99999, iN2, iN8, iN64, iN65, iN120, iN130, iN520]
  refine ⟨fun c => ?_, fun c => ⟨fun c2 => ?_, fun c2 => ?_⟩⟩
  · simp only [if_neg (show ¬ ((-9999 ≤ a ∧ a ≤ 9999) ∧ (-99999 ≤ b ∧ b ≤ 99999)) by omega)] at hQ0
    exact hQ0 hS
  · simp only [if_neg (show ¬ ((-9999 ≤ a ∧ a ≤ 9999) ∧ (-99999 ≤ b ∧ b ≤ 99999)) by omega)] at hQ0
    exact hQ0 hS
  refine s_sa_isPhase hG (by omega) (by omega) ?_
  refine v_sa_addLine_9 hG ?_
  by_cases c3 : -99999 ≤ b ∧ b ≤ 99999
  · rw [bZ_t c3]
    refine ⟨fun _ => ?_, fun c => absurd (show ¬ iI 1 = 0 by decide) c⟩
    have c4 : -9999 ≤ a ∧ a ≤ 9999 := by omega
    simp only [if_pos (show (-9999 ≤ a ∧ a ≤ 9999) ∧ (-99999 ≤ b ∧ b ≤ 99999) from ⟨c4, c3⟩)] at hQ
    have key : ∀ (d t : Nat) (M1 : qMem), t + d = 64 → qFm [5] M M1 → amt 5 t (fun t => -(a * t + b)) M1 → P 39 14 [(0, .ref 0), (1, .int (iI a)), (2, .int (iI b)), (3, .int (iI t))] [] M1 Q := by
      intro d
      induction d with
      | zero =>
        intro t M1 ht hF1 hA1
        refine v_sa_addLine_14 hG ?_
        simp (disch := omega) only [iI_add, iI_sub, iI_mul, iI_neg, iI_lt, iI_le, iI_eq, iI_cl, vp_iI, Classical.not_not, iLn1000000005, iLn1000000004, iLn1000000003, iLn1000000002, iLn1000000001, iLn99999, iLn9999, iLn2, iLn1, iL0, iL1, iL2, iL3, iL4, iL5, iL6, iL7, iL8, iL9, iL10, iL15, iL16, iL31, iL32, iL40, iL42, iL45, iL48, iL57, iL59, iL63, iL64, iL65, iL120, iL126, iL455, iL520, iL9999, iL99999, iN2, iN8, iN64, iN65, iN120, iN130, iN520]
        refine ⟨fun _ => ?_, fun c => by omega⟩
        refine C_sub (g := fun t => -(a * t + b)) hG (hS.nx hF1 (by decide)) (fun u hu => hA1 u (by omega)) (fun u hu => ln_bd c4 c3 (by omega) (by omega)) (fun M2 hF2 hS2 => ?_)
        refine v_sa_addLine_36 hG (hQ M2 (fun a ha => ?_) hS2)
        rw [hF2 a ha, (hF1 a (by simp only [List.mem_cons, List.not_mem_nil, or_false]; omega)).1]
      | succ d ih =>
        intro t M1 ht hF1 hA1
        refine v_sa_addLine_14 hG ?_
        rw [i2l g1 g2, i2l g3 g4, i2l (by omega) (by omega), lI_mul, lI_add, lI_neg]
        simp (disch := omega) only [iI_add, iI_sub, iI_mul, iI_neg, iI_lt, iI_le, iI_eq, iI_cl, vp_iI, Classical.not_not, iLn1000000005, iLn1000000004, iLn1000000003, iLn1000000002, iLn1000000001, iLn99999, iLn9999, iLn2, iLn1, iL0, iL1, iL2, iL3, iL4, iL5, iL6, iL7, iL8, iL9, iL10, iL15, iL16, iL31, iL32, iL40, iL42, iL45, iL48, iL57, iL59, iL63, iL64, iL65, iL120, iL126, iL455, iL520, iL9999, iL99999, iN2, iN8, iN64, iN65, iN120, iN130, iN520]
        refine ⟨fun c => by omega, fun c => ⟨by omega, ?_⟩⟩
        rw [show ((t : Nat) : Int).toNat = t by omega]
        exact ih (t + 1) _ (by omega) (hF1.tr (qFm.pJ (by decide))) (hA1.pJ (g := fun t => -(a * t + b)))
    simp (disch := omega) only [iI_add, iI_sub, iI_mul, iI_neg, iI_lt, iI_le, iI_eq, iI_cl, vp_iI, Classical.not_not, iLn1000000005, iLn1000000004, iLn1000000003, iLn1000000002, iLn1000000001, iLn99999, iLn9999, iLn2, iLn1, iL0, iL1, iL2, iL3, iL4, iL5, iL6, iL7, iL8, iL9, iL10, iL15, iL16, iL31, iL32, iL40, iL42, iL45, iL48, iL57, iL59, iL63, iL64, iL65, iL120, iL126, iL455, iL520, iL9999, iL99999, iN2, iN8, iN64, iN65, iN120, iN130, iN520]
    exact key 64 0 M (by omega) qFm.rf (fun u hu => by omega)
  · rw [bZ_f c3]
    simp only [if_neg (show ¬ ((-9999 ≤ a ∧ a ≤ 9999) ∧ (-99999 ≤ b ∧ b ≤ 99999)) from fun z => c3 z.2)] at hQ0
    exact ⟨fun c => absurd (show iI 0 = 0 by decide) c, fun _ => hQ0 hS⟩
theorem s_sa_sum2 (hG : qGood Ls xs P) (hR : cRd M 1 n f) (hQ : Q (some (.long (lI (dsz n f n)))) M) : P 63 0 [(0, .ref 0)] [] M Q := by
  have hn := hR.2.1
  refine v_sa_sumOfSecondDifferences_0 hG ?_
  have key : ∀ (d j : Nat), j + d = n → P 63 4 [(0, .ref 0), (1, .long (lI (dsz n f j))), (3, .int (iI j))] [] M Q := by
    intro d
    induction d with
    | zero =>
      intro j hj
      have e : j = n := by omega
      subst e
      refine v_sa_sumOfSecondDifferences_4 hG ?_
      refine s_rd_size hG q1Rd hR ?_
      refine v_sa_sumOfSecondDifferences_8 hG ?_
      simp (disch := omega) only [iI_add, iI_sub, iI_mul, iI_neg, iI_lt, iI_le, iI_eq, iI_cl, vp_iI, Classical.not_not, iLn1000000005, iLn1000000004, iLn1000000003, iLn1000000002, iLn1000000001, iLn99999, iLn9999, iLn2, iLn1, iL0, iL1, iL2, iL3, iL4, iL5, iL6, iL7, iL8, iL9, iL10, iL15, iL16, iL31, iL32, iL40, iL42, iL45, iL48, iL57, iL59, iL63, iL64, iL65, iL120, iL126, iL455, iL520, iL9999, iL99999, iN2, iN8, iN64, iN65, iN120, iN130, iN520]
      exact ⟨fun _ => hQ, fun c => by omega⟩
    | succ d ih =>
      intro j hj
      have hd := dif_ok (m := 1) hR.ok (by omega) 2 (j : Int)
      have hI := ih (j + 1) (by omega)
      rw [dsz_s] at hI
      refine v_sa_sumOfSecondDifferences_4 hG ?_
      refine s_rd_size hG q1Rd hR ?_
      refine v_sa_sumOfSecondDifferences_8 hG ?_
      simp (disch := omega) only [iI_add, iI_sub, iI_mul, iI_neg, iI_lt, iI_le, iI_eq, iI_cl, vp_iI, Classical.not_not, iLn1000000005, iLn1000000004, iLn1000000003, iLn1000000002, iLn1000000001, iLn99999, iLn9999, iLn2, iLn1, iL0, iL1, iL2, iL3, iL4, iL5, iL6, iL7, iL8, iL9, iL10, iL15, iL16, iL31, iL32, iL40, iL42, iL45, iL48, iL57, iL59, iL63, iL64, iL65, iL120, iL126, iL455, iL520, iL9999, iL99999, iN2, iN8, iN64, iN65, iN120, iN130, iN520]
      refine ⟨fun c => by omega, fun c => ?_⟩
      refine s_rd_differenceAt (m := 1) hG q1Rd hR (by omega) (by omega) (by omega) (by omega) (by omega) ?_
      refine v_sa_sumOfSecondDifferences_15 hG ?_
      rw [i2l (by omega) (by omega), lI_add]
      simp (disch := omega) only [iI_add, iI_sub, iI_mul, iI_neg, iI_lt, iI_le, iI_eq, iI_cl, vp_iI, Classical.not_not, iLn1000000005, iLn1000000004, iLn1000000003, iLn1000000002, iLn1000000001, iLn99999, iLn9999, iLn2, iLn1, iL0, iL1, iL2, iL3, iL4, iL5, iL6, iL7, iL8, iL9, iL10, iL15, iL16, iL31, iL32, iL40, iL42, iL45, iL48, iL57, iL59, iL63, iL64, iL65, iL120, iL126, iL455, iL520, iL9999, iL99999, iN2, iN8, iN64, iN65, iN120, iN130, iN520]
      refine ⟨fun c2 => ?_, fun c2 => ?_⟩
      · rw [if_neg (fun z => z c2), Int.add_zero] at hI
        exact hI
      · rw [if_pos c2] at hI
        exact hI
  rw [lL0]
  exact key n 0 (by omega)
theorem cnd_in (n : Nat) (f : Nat → Int) : 0 ≤ cnd n f 2 1 ∧ cnd n f 2 1 ≤ n := cz_in _ n
theorem drf_g (hf : ∀ j, j < n → okv (f j)) (hn : n ≤ 64) : gOK n (fun t => drf n f * ((t : Int) * (t - 1) / 2)) := by
  intro t ht
  have h1 := drf_bd hf hn
  have h2 := tri t (by omega)
  have hm := mul_bd (A := 25599744) (C := 2016) (a := drf n f) (c := (t : Int) * (t - 1) / 2) (by omega) (by omega) (by omega) (by omega)
  dsimp only
  omega
theorem tSub_r (s : zSt) (g : Nat → Int) : (tSub s g).1 = -1000000005 ∨ (0 ≤ (tSub s g).1 ∧ (tSub s g).1 ≤ s.1.1) := by
  unfold tSub
  split
  · exact Or.inr (cz_in _ _)
  · exact Or.inl rfl
theorem C_removeDrift (hG : qGood Ls xs P) (hS : CS s M) (hQ : ∀ M', cFrm M M' → CS (tDrift s).2 M' → Q (some (.int (iI (tDrift s).1))) M') : P 40 0 [(0, .ref 0)] [] M Q := by
  have hQ0 := hQ M cFrm.rf
  have hn := hS.1.2.1
  have hc := cnd_in s.1.1 s.1.2
  have hb := drf_bd hS.1.ok hn
  have hd := dsz_bd hS.1.ok s.1.1
  unfold tDrift at hQ hQ0
  refine v_sa_removeDrift_0 hG ?_
  simp (disch := omega) only [iI_add, iI_sub, iI_mul, iI_neg, iI_lt, iI_le, iI_eq, iI_cl, vp_iI, Classical.not_not, iLn1000000005, iLn1000000004, iLn1000000003, iLn1000000002, iLn1000000001, iLn99999, iLn9999, iLn2, iLn1, iL0, iL1, iL2, iL3, iL4, iL5, iL6, iL7, iL8, iL9, iL10, iL15, iL16, iL31, iL32, iL40, iL42, iL45, iL48, iL57, iL59, iL63, iL64, iL65, iL120, iL126, iL455, iL520, iL9999, iL99999, iN2, iN8, iN64, iN65, iN120, iN130, iN520]
  refine s_rd_countOf (m := 1) hG q1Rd hS.1 (by omega) (by omega) (by omega) ?_
  show P 40 5 [(0, .ref 0)] [.int (iI (cnd s.1.1 s.1.2 2 1))] M Q
  refine v_sa_removeDrift_5 hG ?_
  simp (disch := omega) only [iI_add, iI_sub, iI_mul, iI_neg, iI_lt, iI_le, iI_eq, iI_cl, vp_iI, Classical.not_not, iLn1000000005, iLn1000000004, iLn1000000003, iLn1000000002, iLn1000000001, iLn99999, iLn9999, iLn2, iLn1, iL0, iL1, iL2, iL3, iL4, iL5, iL6, iL7, iL8, iL9, iL10, iL15, iL16, iL31, iL32, iL40, iL42, iL45, iL48, iL57, iL59, iL63, iL64, iL65, iL120, iL126, iL455, iL520, iL9999, iL99999, iN2, iN8, iN64, iN65, iN120, iN130, iN520]
  refine ⟨fun c => ?_, fun c => ?_⟩
  · simp only [if_neg (show ¬ cnd s.1.1 s.1.2 2 1 = 0 by omega)] at hQ
    refine s_sa_sum2 hG hS.1 ?_
    refine v_sa_removeDrift_13 hG ?_
    rw [i2l (by omega) (by omega)]
    refine s_floorDiv hG (by omega) (by omega) (by omega) (by omega) ?_
    refine v_sa_removeDrift_16 hG ?_
    rw [l2i]
    show P 40 20 [(0, .ref 0), (2, .int (iI (drf s.1.1 s.1.2))), (3, .int 0)] [] M Q
    have key : ∀ (d t : Nat) (M1 : qMem), t + d = 64 → qFm [5] M M1 → amt 5 t (fun t => drf s.1.1 s.1.2 * ((t : Int) * (t - 1) / 2)) M1 → P 40 20 [(0, .ref 0), (2, .int (iI (drf s.1.1 s.1.2))), (3, .int (iI t))] [] M1 Q := by
      intro d
      induction d with
      | zero =>
        intro t M1 ht hF1 hA1
        refine v_sa_removeDrift_20 hG ?_
        simp (disch := omega) only [iI_add, iI_sub, iI_mul, iI_neg, iI_lt, iI_le, iI_eq, iI_cl, vp_iI, Classical.not_not, iLn1000000005, iLn1000000004, iLn1000000003, iLn1000000002, iLn1000000001, iLn99999, iLn9999, iLn2, iLn1, iL0, iL1, iL2, iL3, iL4, iL5, iL6, iL7, iL8, iL9, iL10, iL15, iL16, iL31, iL32, iL40, iL42, iL45, iL48, iL57, iL59, iL63, iL64, iL65, iL120, iL126, iL455, iL520, iL9999, iL99999, iN2, iN8, iN64, iN65, iN120, iN130, iN520]
        refine ⟨fun _ => ?_, fun c => by omega⟩
        refine C_sub (g := fun t => drf s.1.1 s.1.2 * ((t : Int) * (t - 1) / 2)) hG (hS.nx hF1 (by decide)) (fun u hu => hA1 u (by omega)) (drf_g hS.1.ok hn) (fun M2 hF2 hS2 => ?_)
        have hq := hQ M2 (fun a ha => by rw [hF2 a ha, (hF1 a (by simp only [List.mem_cons, List.not_mem_nil, or_false]; omega)).1]) hS2
        refine v_sa_removeDrift_45 hG ?_
        have hr := tSub_r s (fun t => drf s.1.1 s.1.2 * ((t : Int) * (t - 1) / 2))
        simp (disch := omega) only [iI_add, iI_sub, iI_mul, iI_neg, iI_lt, iI_le, iI_eq, iI_cl, vp_iI, Classical.not_not, iLn1000000005, iLn1000000004, iLn1000000003, iLn1000000002, iLn1000000001, iLn99999, iLn9999, iLn2, iLn1, iL0, iL1, iL2, iL3, iL4, iL5, iL6, iL7, iL8, iL9, iL10, iL15, iL16, iL31, iL32, iL40, iL42, iL45, iL48, iL57, iL59, iL63, iL64, iL65, iL120, iL126, iL455, iL520, iL9999, iL99999, iN2, iN8, iN64, iN65, iN120, iN130, iN520]
        refine ⟨fun c3 => ?_, fun c3 => ?_⟩
        · rw [if_neg c3] at hq
          exact hq
        · rw [if_pos c3] at hq
          exact hq
      | succ d ih =>
        intro t M1 ht hF1 hA1
        have ht3 := tri t (by omega)
        refine v_sa_removeDrift_20 hG ?_
        have e2 : ((iI (drf s.1.1 s.1.2)).toInt64 * (iI t).toInt64 * (iI t - 1).toInt64) / (2 : Int64) = lI (drf s.1.1 s.1.2 * ((t : Int) * (t - 1) / 2)) := by
          obtain ⟨q, hq⟩ : ∃ q, q = (t : Int) * ((t : Int) - 1) / 2 := ⟨_, rfl⟩
          rw [← hq] at ht3 ⊢
          rw [iL1, iI_sub, i2l (by omega) (by omega), i2l (by omega) (by omega), i2l (by omega) (by omega), lI_mul, lI_mul, show (2 : Int64) = lI 2 by decide, Int.mul_assoc, ht3.1, ← Int.mul_assoc]
          have hm := mul_bd (A := 25599744) (C := 2016) (a := drf s.1.1 s.1.2) (c := q) (by omega) (by omega) (by omega) (by omega)
          rw [lI_tdiv (by omega) (by omega) (by omega) (by omega), Int.mul_tdiv_cancel _ (by omega)]
        rw [e2]
        simp (disch := omega) only [iI_add, iI_sub, iI_mul, iI_neg, iI_lt, iI_le, iI_eq, iI_cl, vp_iI, Classical.not_not, iLn1000000005, iLn1000000004, iLn1000000003, iLn1000000002, iLn1000000001, iLn99999, iLn9999, iLn2, iLn1, iL0, iL1, iL2, iL3, iL4, iL5, iL6, iL7, iL8, iL9, iL10, iL15, iL16, iL31, iL32, iL40, iL42, iL45, iL48, iL57, iL59, iL63, iL64, iL65, iL120, iL126, iL455, iL520, iL9999, iL99999, iN2, iN8, iN64, iN65, iN120, iN130, iN520]
        refine ⟨fun c => by omega, fun c => ⟨by decide, by omega, ?_⟩⟩
        rw [show ((t : Nat) : Int).toNat = t by omega]
        exact ih (t + 1) _ (by omega) (hF1.tr (qFm.pJ (by decide))) (hA1.pJ (g := fun t => drf s.1.1 s.1.2 * ((t : Int) * (t - 1) / 2)))
    simp (disch := omega) only [iI_add, iI_sub, iI_mul, iI_neg, iI_lt, iI_le, iI_eq, iI_cl, vp_iI, Classical.not_not, iLn1000000005, iLn1000000004, iLn1000000003, iLn1000000002, iLn1000000001, iLn99999, iLn9999, iLn2, iLn1, iL0, iL1, iL2, iL3, iL4, iL5, iL6, iL7, iL8, iL9, iL10, iL15, iL16, iL31, iL32, iL40, iL42, iL45, iL48, iL57, iL59, iL63, iL64, iL65, iL120, iL126, iL455, iL520, iL9999, iL99999, iN2, iN8, iN64, iN65, iN120, iN130, iN520]
    exact key 64 0 M (by omega) qFm.rf (fun u hu => by omega)
  · simp only [if_pos (show cnd s.1.1 s.1.2 2 1 = 0 by omega)] at hQ0
    exact hQ0 hS
end LN2
