/-! lines and drift: what is subtracted, both sides -/
def sbO (f g : Nat → Int) : Nat → Bool
  | 0 => true
  | k + 1 => sbO f g k && decide (f k = (-1000000001) ∨ (-99999 ≤ f k - g k ∧ f k - g k ≤ 99999))
theorem sbO_s (f g : Nat → Int) (k : Nat) : sbO f g (k + 1) = (sbO f g k && decide (f k = (-1000000001) ∨ (-99999 ≤ f k - g k ∧ f k - g k ≤ 99999))) := rfl
theorem sbO_m {f g : Nat → Int} {k : Nat} : ∀ n, k < n → sbO f g n = true → (f k = (-1000000001) ∨ (-99999 ≤ f k - g k ∧ f k - g k ≤ 99999)) := by
  intro n
  induction n with
  | zero => intro h; omega
  | succ n ih =>
    intro h h2
    rw [sbO_s, Bool.and_eq_true, decide_eq_true_eq] at h2
    by_cases e : k = n
    · rw [e]; exact h2.2
    · exact ih (by omega) h2.1
theorem sbO_f {f g : Nat → Int} {k n : Nat} (hk : k < n) (h1 : f k ≠ (-1000000001)) (h2 : ¬ (-99999 ≤ f k - g k ∧ f k - g k ≤ 99999)) : ¬ sbO f g n = true := fun h => (sbO_m n hk h).elim h1 h2
def sbN (f g : Nat → Int) (k : Nat) : Int := cz (fun t => decide (f t ≠ (-1000000001) ∧ g t ≠ 0)) k
theorem sbN_s (f g : Nat → Int) (k : Nat) : sbN f g (k + 1) = sbN f g k + (if f k ≠ (-1000000001) ∧ g k ≠ 0 then 1 else 0) := by
  unfold sbN
  rw [cz]
  simp only [decide_eq_true_eq]
def sbR (f g : Nat → Int) (t : Nat) : Int := if f t = (-1000000001) then (-1000000001) else f t - g t
def tSub (s : zSt) (g : Nat → Int) : Int × zSt := if sbO s.1.2 g s.1.1 = true then (sbN s.1.2 g s.1.1, zChg s (s.1.1, sbR s.1.2 g)) else (-1000000005, s)
def gOK (n : Nat) (g : Nat → Int) : Prop := ∀ t, t < n → -1000000000000 ≤ g t ∧ g t ≤ 1000000000000
def tLine (s : zSt) (i j : Int) : Int × zSt := if (0 ≤ i ∧ i < s.1.1) ∧ (0 ≤ j ∧ j < s.1.1) ∧ i < j then (if vl s.1.1 s.1.2 i = (-1000000001) ∨ vl s.1.1 s.1.2 j = (-1000000001) then (-1000000003, s) else tSub s (fun t => lnz s.1.1 s.1.2 i j t)) else (-1000000002, s)
def tALine (s : zSt) (a b : Int) : Int × zSt := if (-9999 ≤ a ∧ a ≤ 9999) ∧ (-99999 ≤ b ∧ b ≤ 99999) then tSub s (fun t => -(a * t + b)) else (-1000000002, s)
def dsz (n : Nat) (f : Nat → Int) : Nat → Int
  | 0 => 0
  | k + 1 => dsz n f k + (if dif n f 2 1 k ≠ (-1000000001) then dif n f 2 1 k else 0)
theorem dsz_s (n : Nat) (f : Nat → Int) (k : Nat) : dsz n f (k + 1) = dsz n f k + (if dif n f 2 1 k ≠ (-1000000001) then dif n f 2 1 k else 0) := rfl
def drf (n : Nat) (f : Nat → Int) : Int := dsz n f n / cnd n f 2 1
def tDrift (s : zSt) : Int × zSt := if cnd s.1.1 s.1.2 2 1 = 0 then (-1000000003, s) else (if (tSub s (fun t => drf s.1.1 s.1.2 * ((t : Int) * (t - 1) / 2))).1 = -1000000005 then -1000000005 else drf s.1.1 s.1.2, (tSub s (fun t => drf s.1.1 s.1.2 * ((t : Int) * (t - 1) / 2))).2)
theorem ediv_bd {v b : Int} {B : Nat} (h1 : -(B : Int) ≤ v) (h2 : v ≤ B) : -(B : Int) ≤ v / b ∧ v / b ≤ B := by
  have h := Int.natAbs_ediv_le_natAbs v b
  omega
theorem dsz_bd {n : Nat} {f : Nat → Int} (hf : ∀ j, j < n → okv (f j)) : ∀ k : Nat, -(399996 * (k : Int)) ≤ dsz n f k ∧ dsz n f k ≤ 399996 * (k : Int) := by
  intro k
  induction k with
  | zero => simp [dsz]
  | succ k ih =>
    rw [dsz_s]
    have h : dif n f 2 1 k = (-1000000001) ∨ (-399996 ≤ dif n f 2 1 k ∧ dif n f 2 1 k ≤ 399996) := by
      unfold dif
      split
      · exact sec_ok hf _ _
      · exact Or.inl rfl
    push_cast
    split <;> omega
theorem drf_bd {n : Nat} {f : Nat → Int} (hf : ∀ j, j < n → okv (f j)) (hn : n ≤ 64) : -25599744 ≤ drf n f ∧ drf n f ≤ 25599744 := by
  have h := dsz_bd hf n
  exact ediv_bd (B := 25599744) (by omega) (by omega)
theorem tri : ∀ t : Nat, t < 64 → (t : Int) * ((t : Int) - 1) = ((t : Int) * ((t : Int) - 1) / 2) * 2 ∧ 0 ≤ (t : Int) * ((t : Int) - 1) / 2 ∧ (t : Int) * ((t : Int) - 1) / 2 ≤ 2016 := by decide
theorem lnz_bd {n : Nat} {f : Nat → Int} (hf : ∀ j, j < n → okv (f j)) {i j t : Int} (hi : vl n f i ≠ (-1000000001)) (hj : vl n f j ≠ (-1000000001)) (h1 : 0 ≤ i) (h2 : i ≤ 64) (h3 : 0 ≤ t) (h4 : t ≤ 64) : -1000000000000 ≤ lnz n f i j t ∧ lnz n f i j t ≤ 1000000000000 := by
  have o1 := vl_ok hf i
  have o2 := vl_ok hf j
  unfold okv at o1 o2
  have hm := mul_bd (A := 199998) (C := 64) (a := vl n f j - vl n f i) (c := t - i) (by omega) (by omega) (by omega) (by omega)
  have hd := ediv_bd (b := j - i) hm.1 hm.2
  unfold lnz
  omega
/-- between two readings a line keeps between them -/
theorem lnz_in {n : Nat} {f : Nat → Int} (hf : ∀ j, j < n → okv (f j)) {i j t : Int} (hi : vl n f i ≠ (-1000000001)) (hj : vl n f j ≠ (-1000000001)) (h1 : i ≤ t) (h2 : t ≤ j) (h3 : i < j) : -99999 ≤ lnz n f i j t ∧ lnz n f i j t ≤ 99999 := by
  have o1 := vl_ok hf i
  have o2 := vl_ok hf j
  unfold okv at o1 o2
  unfold lnz
  have hq : 0 < j - i := by omega
  rcases Int.lt_or_le (vl n f j - vl n f i) 0 with hr | hr
  · have a1 : (vl n f j - vl n f i) * (t - i) ≤ 0 * (j - i) := by
      rw [Int.zero_mul]
      exact Int.mul_nonpos_of_nonpos_of_nonneg (by omega) (by omega)
    have a2 : (vl n f j - vl n f i) * (j - i) ≤ (vl n f j - vl n f i) * (t - i) := Int.mul_le_mul_of_nonpos_left (by omega) (by omega)
    have b1 := Int.ediv_le_of_le_mul hq a1
    have b2 := Int.le_ediv_of_mul_le hq a2
    omega
  · have a1 : 0 * (j - i) ≤ (vl n f j - vl n f i) * (t - i) := by
      rw [Int.zero_mul]
      exact Int.mul_nonneg hr (by omega)
    have a2 : (vl n f j - vl n f i) * (t - i) ≤ (vl n f j - vl n f i) * (j - i) := Int.mul_le_mul_of_nonneg_left (by omega) hr
    have b1 := Int.ediv_le_of_le_mul hq a2
    have b2 := Int.le_ediv_of_mul_le hq a1
    omega
section LN
variable {Ls : Nat} {xs : Nat → Int32} {P : qSem} {M : qMem} {Q : qPost} {s : zSt} {n k : Nat} {f g : Nat → Int}
theorem s_rd_lineAt (hG : qGood Ls xs P) {i j t : Int} (hk : qRd k) (hR : cRd M k n f) (h1 : 0 ≤ i) (h2 : i < j) (h3 : j < n) (h4 : 0 ≤ t) (h5 : t ≤ 64) (hi : vl n f i ≠ (-1000000001)) (hj : vl n f j ≠ (-1000000001)) (hQ : Q (some (.long (lI (lnz n f i j t)))) M) : P 26 0 [(0, .ref k), (1, .int (iI i)), (2, .int (iI j)), (3, .int (iI t))] [] M Q := by
  have hn := hR.2.1
  have o1 := vl_ok hR.ok i
  have o2 := vl_ok hR.ok j
  unfold okv at o1 o2
  refine v_rd_lineAt_0 hG hk ?_
  refine s_rd_has hG hk hR (by omega) (by omega) ?_
  rw [bZ_t hi]
  refine v_rd_lineAt_3 hG hk ?_
  refine ⟨fun c => absurd c (by decide), fun _ => ?_⟩
  refine s_rd_has hG hk hR (by omega) (by omega) ?_
  rw [bZ_t hj]
  refine v_rd_lineAt_7 hG hk ?_
  refine ⟨fun c => absurd c (by decide), fun _ => ?_⟩
  simp (disch := omega) only [iI_add, iI_sub, iI_mul, iI_neg, iI_lt, iI_le, iI_eq, iI_cl, vp_iI, Classical.not_not, iLn1000000005, iLn1000000004, iLn1000000003, iLn1000000002, iLn1000000001, iLn99999, iLn9999, iLn2, iLn1, iL0, iL1, iL2, iL3, iL4, iL5, iL6, iL7, iL8, iL9, iL10, iL15, iL16, iL31, iL32, iL40, iL42, iL45, iL48, iL57, iL59, iL63, iL64, iL65, iL120, iL126, iL455, iL520, iL9999, iL99999, iN2, iN8, iN64, iN65, iN120, iN130, iN520]
  refine ⟨fun _ => ?_, fun c => by omega⟩
  refine s_rd_at hG hk hR (by omega) (by omega) ?_
  refine v_rd_lineAt_16 hG hk ?_
  refine s_rd_at hG hk hR (by omega) (by omega) ?_
  refine v_rd_lineAt_19 hG hk ?_
  refine s_rd_at hG hk hR (by omega) (by omega) ?_
  refine v_rd_lineAt_25 hG ?_
  rw [iI_sub, iI_sub, iI_sub, i2l (by omega) (by omega), i2l (by omega) (by omega), i2l (by omega) (by omega), i2l (by omega) (by omega), lI_mul]
  have hm := mul_bd (A := 199998) (C := 64) (a := vl n f j - vl n f i) (c := t - i) (by omega) (by omega) (by omega) (by omega)
  refine s_floorDiv hG (by omega) (by omega) (by omega) (by omega) ?_
  refine v_rd_lineAt_37 hG ?_
  rw [lI_add]
  exact hQ
def amt (a n : Nat) (g : Nat → Int) (M : qMem) : Prop := ∀ t, t < n → M.2 a t = lI (g t)
theorem s_sa_allStay (hG : qGood Ls xs P) (hR : cRd M 1 n f) (hA : amt 5 n g M) (hg : gOK n g) (hQ : Q (some (.int (iI (bZ (sbO f g n = true))))) M) : P 62 0 [(0, .ref 0)] [] M Q := by
  have hn := hR.2.1
  refine v_sa_allStayPhases_0 hG ?_
  have key : ∀ (d j : Nat), j + d = n → sbO f g j = true → P 62 2 [(0, .ref 0), (1, .int (iI j))] [] M Q := by
    intro d
    induction d with
    | zero =>
      intro j hj h
      have e : j = n := by omega
      subst e
      refine v_sa_allStayPhases_2 hG ?_
      refine s_rd_size hG q1Rd hR ?_
      refine v_sa_allStayPhases_6 hG ?_
      simp (disch := omega) only [iI_add, iI_sub, iI_mul, iI_neg, iI_lt, iI_le, iI_eq, iI_cl, vp_iI, Classical.not_not, iLn1000000005, iLn1000000004, iLn1000000003, iLn1000000002, iLn1000000001, iLn99999, iLn9999, iLn2, iLn1, iL0, iL1, iL2, iL3, iL4, iL5, iL6, iL7, iL8, iL9, iL10, iL15, iL16, iL31, iL32, iL40, iL42, iL45, iL48, iL57, iL59, iL63, iL64, iL65, iL120, iL126, iL455, iL520, iL9999, iL99999, iN2, iN8, iN64, iN65, iN120, iN130, iN520]
      exact ⟨fun _ => q_b hQ (bZ_t h), fun c => by omega⟩
    | succ d ih =>
      intro j hj h
      have hf := hR.ok j (by omega)
      unfold okv at hf
      have hgj := hg j (by omega)
      refine v_sa_allStayPhases_2 hG ?_
      refine s_rd_size hG q1Rd hR ?_
      refine v_sa_allStayPhases_6 hG ?_
      simp (disch := omega) only [iI_add, iI_sub, iI_mul, iI_neg, iI_lt, iI_le, iI_eq, iI_cl, vp_iI, Classical.not_not, iLn1000000005, iLn1000000004, iLn1000000003, iLn1000000002, iLn1000000001, iLn99999, iLn9999, iLn2, iLn1, iL0, iL1, iL2, iL3, iL4, iL5, iL6, iL7, iL8, iL9, iL10, iL15, iL16, iL31, iL32, iL40, iL42, iL45, iL48, iL57, iL59, iL63, iL64, iL65, iL120, iL126, iL455, iL520, iL9999, iL99999, iN2, iN8, iN64, iN65, iN120, iN130, iN520]
      refine ⟨fun c => by omega, fun c => ⟨fun c2 => by omega, fun c2 => ?_⟩⟩
      refine s_rd_has hG q1Rd hR (by omega) (by omega) ?_
      rw [vl_nat (show j < n by omega)]
      refine v_sa_allStayPhases_16 hG ?_
      by_cases hv : f j = (-1000000001)
      · rw [bZ_f (fun z => z hv)]
        simp (disch := omega) only [iI_add, iI_sub, iI_mul, iI_neg, iI_lt, iI_le, iI_eq, iI_cl, vp_iI, Classical.not_not, iLn1000000005, iLn1000000004, iLn1000000003, iLn1000000002, iLn1000000001, iLn99999, iLn9999, iLn2, iLn1, iL0, iL1, iL2, iL3, iL4, iL5, iL6, iL7, iL8, iL9, iL10, iL15, iL16, iL31, iL32, iL40, iL42, iL45, iL48, iL57, iL59, iL63, iL64, iL65, iL120, iL126, iL455, iL520, iL9999, iL99999, iN2, iN8, iN64, iN65, iN120, iN130, iN520]
        refine ⟨fun _ => ih (j + 1) (by omega) ?_, fun c => absurd trivial c⟩
        rw [sbO_s, h, decide_eq_true (Or.inl hv)]
        rfl
      · rw [bZ_t hv]
        simp (disch := omega) only [iI_add, iI_sub, iI_mul, iI_neg, iI_lt, iI_le, iI_eq, iI_cl, vp_iI, Classical.not_not, iLn1000000005, iLn1000000004, iLn1000000003, iLn1000000002, iLn1000000001, iLn99999, iLn9999, iLn2, iLn1, iL0, iL1, iL2, iL3, iL4, iL5, iL6, iL7, iL8, iL9, iL10, iL15, iL16, iL31, iL32, iL40, iL42, iL45, iL48, iL57, iL59, iL63, iL64, iL65, iL120, iL126, iL455, iL520, iL9999, iL99999, iN2, iN8, iN64, iN65, iN120, iN130, iN520]
        refine ⟨fun c => by omega, fun _ => ?_⟩
        refine s_rd_at hG q1Rd hR (by omega) (by omega) ?_
        rw [vl_nat (show j < n by omega)]
        refine v_sa_allStayPhases_21 hG ?_
        simp (disch := omega) only [iI_add, iI_sub, iI_mul, iI_neg, iI_lt, iI_le, iI_eq, iI_cl, vp_iI, Classical.not_not, iLn1000000005, iLn1000000004, iLn1000000003, iLn1000000002, iLn1000000001, iLn99999, iLn9999, iLn2, iLn1, iL0, iL1, iL2, iL3, iL4, iL5, iL6, iL7, iL8, iL9, iL10, iL15, iL16, iL31, iL32, iL40, iL42, iL45, iL48, iL57, iL59, iL63, iL64, iL65, iL120, iL126, iL455, iL520, iL9999, iL99999, iN2, iN8, iN64, iN65, iN120, iN130, iN520]
        refine ⟨by omega, ?_⟩
        rw [show ((j : Nat) : Int).toNat = j by omega, hA j (by omega), i2l (by omega) (by omega), lI_sub]
        refine s_sa_isPhase hG (by omega) (by omega) ?_
        refine v_sa_allStayPhases_28 hG ?_
        by_cases hw : -99999 ≤ f j - g j ∧ f j - g j ≤ 99999
        · rw [bZ_t hw]
          simp (disch := omega) only [iI_add, iI_sub, iI_mul, iI_neg, iI_lt, iI_le, iI_eq, iI_cl, vp_iI, Classical.not_not, iLn1000000005, iLn1000000004, iLn1000000003, iLn1000000002, iLn1000000001, iLn99999, iLn9999, iLn2, iLn1, iL0, iL1, iL2, iL3, iL4, iL5, iL6, iL7, iL8, iL9, iL10, iL15, iL16, iL31, iL32, iL40, iL42, iL45, iL48, iL57, iL59, iL63, iL64, iL65, iL120, iL126, iL455, iL520, iL9999, iL99999, iN2, iN8, iN64, iN65, iN120, iN130, iN520]
          refine ⟨fun _ => ih (j + 1) (by omega) ?_, fun c => by omega⟩
          rw [sbO_s, h, decide_eq_true (Or.inr hw)]
          rfl
        · rw [bZ_f hw]
          simp (disch := omega) only [iI_add, iI_sub, iI_mul, iI_neg, iI_lt, iI_le, iI_eq, iI_cl, vp_iI, Classical.not_not, iLn1000000005, iLn1000000004, iLn1000000003, iLn1000000002, iLn1000000001, iLn99999, iLn9999, iLn2, iLn1, iL0, iL1, iL2, iL3, iL4, iL5, iL6, iL7, iL8, iL9, iL10, iL15, iL16, iL31, iL32, iL40, iL42, iL45, iL48, iL57, iL59, iL63, iL64, iL65, iL120, iL126, iL455, iL520, iL9999, iL99999, iN2, iN8, iN64, iN65, iN120, iN130, iN520]
          exact ⟨fun c => absurd trivial c, fun _ => q_b hQ (bZ_f (sbO_f (by omega) hv hw))⟩
  simp (disch := omega) only [iI_add, iI_sub, iI_mul, iI_neg, iI_lt, iI_le, iI_eq, iI_cl, vp_iI, Classical.not_not, iLn1000000005, iLn1000000004, iLn1000000003, iLn1000000002, iLn1000000001, iLn99999, iLn9999, iLn2, iLn1, iL0, iL1, iL2, iL3, iL4, iL5, iL6, iL7, iL8, iL9, iL10, iL15, iL16, iL31, iL32, iL40, iL42, iL45, iL48, iL57, iL59, iL63, iL64, iL65, iL120, iL126, iL455, iL520, iL9999, iL99999, iN2, iN8, iN64, iN65, iN120, iN130, iN520]
  exact key n 0 (by omega) rfl
theorem C_sub (hG : qGood Ls xs P) (hS : CS s M) (hA : amt 5 s.1.1 g M) (hg : gOK s.1.1 g) (hQ : ∀ M', cFrm M M' → CS (tSub s g).2 M' → Q (some (.int (iI (tSub s g).1))) M') : P 61 0 [(0, .ref 0)] [] M Q := by
  have hQ0 := hQ M cFrm.rf
  have hn := hS.1.2.1
  unfold tSub at hQ hQ0
  refine v_sa_subtractAmounts_0 hG ?_
  refine s_sa_allStay hG hS.1 hA hg ?_
  refine v_sa_subtractAmounts_2 hG ?_
  by_cases hO : sbO s.1.2 g s.1.1 = true
  · rw [bZ_t hO]
    simp only [if_pos hO] at hQ
    simp (disch := omega) only [iI_add, iI_sub, iI_mul, iI_neg, iI_lt, iI_le, iI_eq, iI_cl, vp_iI, Classical.not_not, iLn1000000005, iLn1000000004, iLn1000000003, iLn1000000002, iLn1000000001, iLn99999, iLn9999, iLn2, iLn1, iL0, iL1, iL2, iL3, iL4, iL5, iL6, iL7, iL8, iL9, iL10, iL15, iL16, iL31, iL32, iL40, iL42, iL45, iL48, iL57, iL59, iL63, iL64, iL65, iL120, iL126, iL455, iL520, iL9999, iL99999, iN2, iN8, iN64, iN65, iN120, iN130, iN520]
    refine ⟨fun _ => ?_, fun c => by omega⟩
    refine C_rec hG hS (fun M1 hR1 hF1 hK => ?_)
    refine v_sa_subtractAmounts_10 hG ?_
    have key : ∀ (d j : Nat) (M2 : qMem), j + d = s.1.1 → qFm [1, 2] M1 M2 → cRd M2 1 s.1.1 (fun t => if t < j then sbR s.1.2 g t else s.1.2 t) → P 61 14 [(0, .ref 0), (1, .int (iI (sbN s.1.2 g j))), (2, .int (iI j))] [] M2 Q := by
      intro d
      induction d with
      | zero =>
        intro j M2 hj hF2 hR2
        have e : j = s.1.1 := by omega
        subst e
        refine v_sa_subtractAmounts_14 hG ?_
        refine s_rd_size hG q1Rd hR2 ?_
        refine v_sa_subtractAmounts_18 hG ?_
        simp (disch := omega) only [iI_add, iI_sub, iI_mul, iI_neg, iI_lt, iI_le, iI_eq, iI_cl, vp_iI, Classical.not_not, iLn1000000005, iLn1000000004, iLn1000000003, iLn1000000002, iLn1000000001, iLn99999, iLn9999, iLn2, iLn1, iL0, iL1, iL2, iL3, iL4, iL5, iL6, iL7, iL8, iL9, iL10, iL15, iL16, iL31, iL32, iL40, iL42, iL45, iL48, iL57, iL59, iL63, iL64, iL65, iL120, iL126, iL455, iL520, iL9999, iL99999, iN2, iN8, iN64, iN65, iN120, iN130, iN520]
        refine ⟨fun _ => ?_, fun c => by omega⟩
        obtain ⟨k1, k2⟩ := hK M2 (s.1.1, sbR s.1.2 g) hF2 (hR2.eqv (fun t ht => by
          show sbR s.1.2 g t = if t < s.1.1 then sbR s.1.2 g t else s.1.2 t
          rw [if_pos ht]))
        exact hQ M2 k1 k2
      | succ d ih =>
        intro j M2 hj hF2 hR2
        have hf := hS.1.ok j (by omega)
        unfold okv at hf
        have hgj := hg j (by omega)
        have hm := sbO_m (k := j) s.1.1 (by omega) hO
        have hcz := cz_in (fun t => decide (s.1.2 t ≠ (-1000000001) ∧ g t ≠ 0)) j
        have ev : vl s.1.1 (fun t => if t < j then sbR s.1.2 g t else s.1.2 t) j = s.1.2 j := by
          rw [vl_nat (show j < s.1.1 by omega)]
          show (if j < j then sbR s.1.2 g j else s.1.2 j) = _
          rw [if_neg (by omega)]
        have hI := fun M2 => ih (j + 1) M2 (by omega)
        rw [sbN_s] at hI
        refine v_sa_subtractAmounts_14 hG ?_
        refine s_rd_size hG q1Rd hR2 ?_
        refine v_sa_subtractAmounts_18 hG ?_
        simp (disch := omega) only [iI_add, iI_sub, iI_mul, iI_neg, iI_lt, iI_le, iI_eq, iI_cl, vp_iI, Classical.not_not, iLn1000000005, iLn1000000004, iLn1000000003, iLn1000000002, iLn1000000001, iLn99999, iLn9999, iLn2, iLn1, iL0, iL1, iL2, iL3, iL4, iL5, iL6, iL7, iL8, iL9, iL10, iL15, iL16, iL31, iL32, iL40, iL42, iL45, iL48, iL57, iL59, iL63, iL64, iL65, iL120, iL126, iL455, iL520, iL9999, iL99999, iN2, iN8, iN64, iN65, iN120, iN130, iN520]
        refine ⟨fun c => by omega, fun c => ⟨fun c2 => by omega, fun c2 => ?_⟩⟩
        refine s_rd_has hG q1Rd hR2 (by omega) (by omega) ?_
        rw [ev]
        refine v_sa_subtractAmounts_28 hG ?_
        by_cases hv : s.1.2 j = (-1000000001)
        · rw [bZ_f (fun z => z hv)]
          simp (disch := omega) only [iI_add, iI_sub, iI_mul, iI_neg, iI_lt, iI_le, iI_eq, iI_cl, vp_iI, Classical.not_not, iLn1000000005, iLn1000000004, iLn1000000003, iLn1000000002, iLn1000000001, iLn99999, iLn9999, iLn2, iLn1, iL0, iL1, iL2, iL3, iL4, iL5, iL6, iL7, iL8, iL9, iL10, iL15, iL16, iL31, iL32, iL40, iL42, iL45, iL48, iL57, iL59, iL63, iL64, iL65, iL120, iL126, iL455, iL520, iL9999, iL99999, iN2, iN8, iN64, iN65, iN120, iN130, iN520]
          refine ⟨fun _ => ?_, fun c => absurd trivial c⟩
          rw [if_neg (fun z => z.1 hv), Int.add_zero] at hI
          refine hI M2 hF2 (hR2.eqv (fun t ht => ?_))
          by_cases q : t = j
          · rw [q, if_pos (by omega), if_neg (by omega)]
            unfold sbR
            rw [if_pos hv, hv]
          · by_cases q2 : t < j
            · rw [if_pos q2, if_pos (by omega)]
            · rw [if_neg q2, if_neg (by omega)]
        · rw [bZ_t hv]
          have ha2 : M2.2 5 j = lI (g j) := by
            rw [(hF2 5 (by decide)).2, (hF1 5 (by decide)).2]
            exact hA j (by omega)
          simp (disch := omega) only [iI_add, iI_sub, iI_mul, iI_neg, iI_lt, iI_le, iI_eq, iI_cl, vp_iI, Classical.not_not, iLn1000000005, iLn1000000004, iLn1000000003, iLn1000000002, iLn1000000001, iLn99999, iLn9999, iLn2, iLn1, iL0, iL1, iL2, iL3, iL4, iL5, iL6, iL7, iL8, iL9, iL10, iL15, iL16, iL31, iL32, iL40, iL42, iL45, iL48, iL57, iL59, iL63, iL64, iL65, iL120, iL126, iL455, iL520, iL9999, iL99999, iN2, iN8, iN64, iN65, iN120, iN130, iN520]
          refine ⟨fun c => by omega, fun _ => ⟨by omega, ?_⟩⟩
          rw [show ((j : Nat) : Int).toNat = j by omega, ha2, lL0, lg_cmpZ (by omega) (by omega) (by omega) (by omega)]
          have hz := cmpZ_in (g j) 0
          have hz0 := cmpZ_0 (g j) 0
          simp (disch := omega) only [iI_add, iI_sub, iI_mul, iI_neg, iI_lt, iI_le, iI_eq, iI_cl, vp_iI, Classical.not_not, iLn1000000005, iLn1000000004, iLn1000000003, iLn1000000002, iLn1000000001, iLn99999, iLn9999, iLn2, iLn1, iL0, iL1, iL2, iL3, iL4, iL5, iL6, iL7, iL8, iL9, iL10, iL15, iL16, iL31, iL32, iL40, iL42, iL45, iL48, iL57, iL59, iL63, iL64, iL65, iL120, iL126, iL455, iL520, iL9999, iL99999, iN2, iN8, iN64, iN65, iN120, iN130, iN520]
          refine ⟨fun c3 => ?_, fun c3 => ?_⟩
          · have g0 := hz0.mp c3
            rw [if_neg (fun z => z.2 g0), Int.add_zero] at hI
            refine hI M2 hF2 (hR2.eqv (fun t ht => ?_))
            by_cases q : t = j
            · rw [q, if_pos (by omega), if_neg (by omega)]
              unfold sbR
              rw [if_neg hv, g0, Int.sub_zero]
            · by_cases q2 : t < j
              · rw [if_pos q2, if_pos (by omega)]
              · rw [if_neg q2, if_neg (by omega)]
          · have g0 : g j ≠ 0 := fun z => c3 (hz0.mpr z)
            rw [if_pos ⟨hv, g0⟩] at hI
            refine s_rd_at hG q1Rd hR2 (by omega) (by omega) ?_
            rw [ev]
            refine v_sa_subtractAmounts_43 hG ?_
            simp (disch := omega) only [iI_add, iI_sub, iI_mul, iI_neg, iI_lt, iI_le, iI_eq, iI_cl, vp_iI, Classical.not_not, iLn1000000005, iLn1000000004, iLn1000000003, iLn1000000002, iLn1000000001, iLn99999, iLn9999, iLn2, iLn1, iL0, iL1, iL2, iL3, iL4, iL5, iL6, iL7, iL8, iL9, iL10, iL15, iL16, iL31, iL32, iL40, iL42, iL45, iL48, iL57, iL59, iL63, iL64, iL65, iL120, iL126, iL455, iL520, iL9999, iL99999, iN2, iN8, iN64, iN65, iN120, iN130, iN520]
            refine ⟨by omega, ?_⟩
            rw [show ((j : Nat) : Int).toNat = j by omega, ha2, i2l (by omega) (by omega), lI_sub, l2i]
            refine s_rd_put hG q1Rd hR2 (Or.inr (hm.resolve_left hv)) (by omega) (by omega) (fun M3 hR3 hF3 => ?_)
            refine v_sa_subtractAmounts_51 hG ?_
            unfold sbN at hI ⊢
            simp (disch := omega) only [iI_add, iI_sub, iI_mul, iI_neg, iI_lt, iI_le, iI_eq, iI_cl, vp_iI, Classical.not_not, iLn1000000005, iLn1000000004, iLn1000000003, iLn1000000002, iLn1000000001, iLn99999, iLn9999, iLn2, iLn1, iL0, iL1, iL2, iL3, iL4, iL5, iL6, iL7, iL8, iL9, iL10, iL15, iL16, iL31, iL32, iL40, iL42, iL45, iL48, iL57, iL59, iL63, iL64, iL65, iL120, iL126, iL455, iL520, iL9999, iL99999, iN2, iN8, iN64, iN65, iN120, iN130, iN520]
            refine hI M3 (hF2.tr hF3) (hR3.eqv (fun t ht => ?_))
            by_cases q : t = j
            · rw [q, if_pos (by omega), if_pos (by omega)]
              unfold sbR
              rw [if_neg hv]
            · rw [if_neg (show ¬ t = ((j : Nat) : Int).toNat by omega)]
              by_cases q2 : t < j
              · rw [if_pos q2, if_pos (by omega)]
              · rw [if_neg q2, if_neg (by omega)]
    simp (disch := omega) only [iI_add, iI_sub, iI_mul, iI_neg, iI_lt, iI_le, iI_eq, iI_cl, vp_iI, Classical.not_not, iLn1000000005, iLn1000000004, iLn1000000003, iLn1000000002, iLn1000000001, iLn99999, iLn9999, iLn2, iLn1, iL0, iL1, iL2, iL3, iL4, iL5, iL6, iL7, iL8, iL9, iL10, iL15, iL16, iL31, iL32, iL40, iL42, iL45, iL48, iL57, iL59, iL63, iL64, iL65, iL120, iL126, iL455, iL520, iL9999, iL99999, iN2, iN8, iN64, iN65, iN120, iN130, iN520]
    exact key s.1.1 0 M1 (by omega) qFm.rf (hR1.eqv (fun t ht => by rw [if_neg (by omega)]))
  · rw [bZ_f hO]
    simp only [if_neg hO] at hQ0
    simp (disch := omega) only [iI_add, iI_sub, iI_mul, iI_neg, iI_lt, iI_le, iI_eq, iI_cl, vp_iI, Classical.not_not, iLn1000000005, iLn1000000004, iLn1000000003, iLn1000000002, iLn1000000001, iLn99999, iLn9999, iLn2, iLn1, iL0, iL1, iL2, iL3, iL4, iL5, iL6, iL7, iL8, iL9, iL10, iL15, iL16, iL31, iL32, iL40, iL42, iL45, iL48, iL57, iL59, iL63, iL64, iL65, iL120, iL126, iL455, iL520, iL9999, iL99999, iN2, iN8, iN64, iN65, iN120, iN130, iN520]
    exact ⟨fun c => absurd trivial c, fun _ => hQ0 hS⟩
end LN
