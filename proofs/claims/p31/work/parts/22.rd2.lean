/-! readings: counts, gaps, lines, differences -/
def lsz (f : Nat → Int) : Nat → Int
  | 0 => (-1000000001)
  | j + 1 => if f j ≠ (-1000000001) ∧ (lsz f j = (-1000000001) ∨ f j < lsz f j) then f j else lsz f j
def grz (f : Nat → Int) : Nat → Int
  | 0 => (-1000000001)
  | j + 1 => if grz f j < f j then f j else grz f j
def stg (f : Nat → Int) (i : Nat) : Bool := decide (f i = (-1000000001)) && (decide (i = 0) || decide (f (i - 1) ≠ (-1000000001)))
def gpe (f : Nat → Int) : Nat → Nat → Nat
  | 0, i => i
  | d + 1, i => if f i = (-1000000001) then gpe f d (i + 1) else i
def lgz (n : Nat) (f : Nat → Int) : Nat → Int
  | 0 => 0
  | j + 1 => if stg f j = true then (if lgz n f j < (gpe f (n - j) j : Int) - j then (gpe f (n - j) j : Int) - j else lgz n f j) else lgz n f j
def lnz (n : Nat) (f : Nat → Int) (i j t : Int) : Int := vl n f i + ((vl n f j - vl n f i) * (t - i)) / (j - i)
def otl (n : Nat) (f : Nat → Int) (lim : Int) (i : Nat) : Bool := decide (dif n f 2 1 ((i : Int) - 1) ≠ (-1000000001)) && (decide (2 * lim < dif n f 2 1 ((i : Int) - 1)) || decide (dif n f 2 1 ((i : Int) - 1) < -2 * lim))
theorem lsz_ok {n : Nat} {f : Nat → Int} (hf : ∀ j, j < n → okv (f j)) : ∀ j, j ≤ n → okv (lsz f j) := by
  intro j
  induction j with
  | zero => intro _; exact Or.inl rfl
  | succ j ih =>
    intro h
    unfold lsz
    split
    · exact hf j (by omega)
    · exact ih (by omega)
theorem grz_ok {n : Nat} {f : Nat → Int} (hf : ∀ j, j < n → okv (f j)) : ∀ j, j ≤ n → okv (grz f j) := by
  intro j
  induction j with
  | zero => intro _; exact Or.inl rfl
  | succ j ih =>
    intro h
    unfold grz
    split
    · exact hf j (by omega)
    · exact ih (by omega)
theorem gpe_in (f : Nat → Int) : ∀ d i, i ≤ gpe f d i ∧ gpe f d i ≤ i + d := by
  intro d
  induction d with
  | zero => intro i; exact ⟨Nat.le_refl _, Nat.le_refl _⟩
  | succ d ih =>
    intro i
    unfold gpe
    have h := ih (i + 1)
    split <;> omega
theorem gpe_s (f : Nat → Int) (d i : Nat) : gpe f (d + 1) i = if f i = (-1000000001) then gpe f d (i + 1) else i := rfl
theorem lgz_in {n : Nat} {f : Nat → Int} : ∀ j, j ≤ n → 0 ≤ lgz n f j ∧ lgz n f j ≤ n := by
  intro j
  induction j with
  | zero => intro _; unfold lgz; omega
  | succ j ih =>
    intro h
    have h1 := ih (by omega)
    have h2 := gpe_in f (n - j) j
    unfold lgz
    split
    · split <;> omega
    · exact h1
theorem vl_nat {n : Nat} {f : Nat → Int} {j : Nat} (h : j < n) : vl n f j = f j := by
  unfold vl
  rw [if_pos (by omega)]
  congr 1
section RD2
variable {Ls : Nat} {xs : Nat → Int32} {P : qSem} {k n : Nat} {f : Nat → Int} {M : qMem} {Q : qPost}
theorem s_max (hG : qGood Ls xs P) {a b : Int} (h1 : -2147483648 ≤ a) (h2 : a < 2147483648) (h3 : -2147483648 ≤ b) (h4 : b < 2147483648) (hQ : Q (some (.int (iI (if a < b then b else a)))) M) : P 72 0 [(0, .int (iI a)), (1, .int (iI b))] [] M Q := by
  refine v_math_max_0 hG ?_
  simp (disch := omega) only [iI_add, iI_sub, iI_mul, iI_neg, iI_lt, iI_le, iI_eq, iI_cl, vp_iI, Classical.not_not, iLn1000000005, iLn1000000004, iLn1000000003, iLn1000000002, iLn1000000001, iLn99999, iLn9999, iLn2, iLn1, iL0, iL1, iL2, iL3, iL4, iL5, iL6, iL7, iL8, iL9, iL10, iL15, iL16, iL31, iL32, iL40, iL42, iL45, iL48, iL57, iL59, iL63, iL64, iL65, iL120, iL126, iL455, iL520, iL9999, iL99999, iN2, iN8, iN64, iN65, iN120, iN130, iN520]
  exact ⟨fun c => q_i (if_pos c) hQ, fun c => q_i (if_neg c) hQ⟩
theorem s_rd_present (hG : qGood Ls xs P) (hk : qRd k) (hR : cRd M k n f) (hQ : Q (some (.int (iI (cz (fun j => decide (f j ≠ (-1000000001))) n)))) M) : P 19 0 [(0, .ref k)] [] M Q := by
  have hn := hR.2.1
  refine v_rd_present_0 hG hk ?_
  have key : ∀ (d j : Nat), j + d = n → P 19 4 [(0, .ref k), (1, .int (iI (cz (fun j => decide (f j ≠ (-1000000001))) j))), (2, .int (iI j))] [] M Q := by
    intro d
    induction d with
    | zero =>
      intro j hj
      have e : j = n := by omega
      subst e
      refine v_rd_present_4 hG hk ?_
      simp (disch := omega) only [iI_add, iI_sub, iI_mul, iI_neg, iI_lt, iI_le, iI_eq, iI_cl, vp_iI, Classical.not_not, iLn1000000005, iLn1000000004, iLn1000000003, iLn1000000002, iLn1000000001, iLn99999, iLn9999, iLn2, iLn1, iL0, iL1, iL2, iL3, iL4, iL5, iL6, iL7, iL8, iL9, iL10, iL15, iL16, iL31, iL32, iL40, iL42, iL45, iL48, iL57, iL59, iL63, iL64, iL65, iL120, iL126, iL455, iL520, iL9999, iL99999, iN2, iN8, iN64, iN65, iN120, iN130, iN520, hR.1]
      exact ⟨fun c => hQ, fun c => by omega⟩
    | succ d ih =>
      intro j hj
      have hb := cz_in (fun j => decide (f j ≠ (-1000000001))) j
      refine v_rd_present_4 hG hk ?_
      simp (disch := omega) only [iI_add, iI_sub, iI_mul, iI_neg, iI_lt, iI_le, iI_eq, iI_cl, vp_iI, Classical.not_not, iLn1000000005, iLn1000000004, iLn1000000003, iLn1000000002, iLn1000000001, iLn99999, iLn9999, iLn2, iLn1, iL0, iL1, iL2, iL3, iL4, iL5, iL6, iL7, iL8, iL9, iL10, iL15, iL16, iL31, iL32, iL40, iL42, iL45, iL48, iL57, iL59, iL63, iL64, iL65, iL120, iL126, iL455, iL520, iL9999, iL99999, iN2, iN8, iN64, iN65, iN120, iN130, iN520, hR.1]
      refine ⟨fun c => by omega, fun c => ?_⟩
      refine s_rd_has hG hk hR (by omega) (by omega) ?_
      rw [vl_nat (by omega)]
      refine v_rd_present_11 hG hk ?_
      have hz := bZ_in (f j ≠ (-1000000001))
      simp (disch := omega) only [iI_add, iI_sub, iI_mul, iI_neg, iI_lt, iI_le, iI_eq, iI_cl, vp_iI, Classical.not_not, iLn1000000005, iLn1000000004, iLn1000000003, iLn1000000002, iLn1000000001, iLn99999, iLn9999, iLn2, iLn1, iL0, iL1, iL2, iL3, iL4, iL5, iL6, iL7, iL8, iL9, iL10, iL15, iL16, iL31, iL32, iL40, iL42, iL45, iL48, iL57, iL59, iL63, iL64, iL65, iL120, iL126, iL455, iL520, iL9999, iL99999, iN2, iN8, iN64, iN65, iN120, iN130, iN520, bZ_0]
      have hI := ih (j + 1) (by omega)
      unfold cz at hI
      refine ⟨fun c => ?_, fun c => ?_⟩
      · rw [if_neg (by simpa using c)] at hI
        rw [Int.add_zero] at hI
        exact hI
      · rw [if_pos (by simpa using c)] at hI
        exact hI
  simp (disch := omega) only [iI_add, iI_sub, iI_mul, iI_neg, iI_lt, iI_le, iI_eq, iI_cl, vp_iI, Classical.not_not, iLn1000000005, iLn1000000004, iLn1000000003, iLn1000000002, iLn1000000001, iLn99999, iLn9999, iLn2, iLn1, iL0, iL1, iL2, iL3, iL4, iL5, iL6, iL7, iL8, iL9, iL10, iL15, iL16, iL31, iL32, iL40, iL42, iL45, iL48, iL57, iL59, iL63, iL64, iL65, iL120, iL126, iL455, iL520, iL9999, iL99999, iN2, iN8, iN64, iN65, iN120, iN130, iN520]
  exact key n 0 (by omega)
theorem s_rd_least (hG : qGood Ls xs P) (hk : qRd k) (hR : cRd M k n f) (hQ : Q (some (.int (iI (lsz f n)))) M) : P 20 0 [(0, .ref k)] [] M Q := by
  have hn := hR.2.1
  refine v_rd_least_0 hG hk ?_
  have key : ∀ (d j : Nat), j + d = n → P 20 4 [(0, .ref k), (1, .int (iI (lsz f j))), (2, .int (iI j))] [] M Q := by
    intro d
    induction d with
    | zero =>
      intro j hj
      have e : j = n := by omega
      subst e
      refine v_rd_least_4 hG hk ?_
      simp (disch := omega) only [iI_add, iI_sub, iI_mul, iI_neg, iI_lt, iI_le, iI_eq, iI_cl, vp_iI, Classical.not_not, iLn1000000005, iLn1000000004, iLn1000000003, iLn1000000002, iLn1000000001, iLn99999, iLn9999, iLn2, iLn1, iL0, iL1, iL2, iL3, iL4, iL5, iL6, iL7, iL8, iL9, iL10, iL15, iL16, iL31, iL32, iL40, iL42, iL45, iL48, iL57, iL59, iL63, iL64, iL65, iL120, iL126, iL455, iL520, iL9999, iL99999, iN2, iN8, iN64, iN65, iN120, iN130, iN520, hR.1]
      exact ⟨fun c => hQ, fun c => by omega⟩
    | succ d ih =>
      intro j hj
      have hb := lsz_ok hR.ok j (by omega)
      have hv := hR.ok j (by omega)
      unfold okv at hb hv
      have hI := ih (j + 1) (by omega)
      unfold lsz at hI
      refine v_rd_least_4 hG hk ?_
      simp (disch := omega) only [iI_add, iI_sub, iI_mul, iI_neg, iI_lt, iI_le, iI_eq, iI_cl, vp_iI, Classical.not_not, iLn1000000005, iLn1000000004, iLn1000000003, iLn1000000002, iLn1000000001, iLn99999, iLn9999, iLn2, iLn1, iL0, iL1, iL2, iL3, iL4, iL5, iL6, iL7, iL8, iL9, iL10, iL15, iL16, iL31, iL32, iL40, iL42, iL45, iL48, iL57, iL59, iL63, iL64, iL65, iL120, iL126, iL455, iL520, iL9999, iL99999, iN2, iN8, iN64, iN65, iN120, iN130, iN520, hR.1]
      refine ⟨fun c => by omega, fun c => ?_⟩
      refine s_rd_has hG hk hR (by omega) (by omega) ?_
      rw [vl_nat (by omega)]
      refine v_rd_least_11 hG hk ?_
      have hz := bZ_in (f j ≠ (-1000000001))
      simp (disch := omega) only [iI_add, iI_sub, iI_mul, iI_neg, iI_lt, iI_le, iI_eq, iI_cl, vp_iI, Classical.not_not, iLn1000000005, iLn1000000004, iLn1000000003, iLn1000000002, iLn1000000001, iLn99999, iLn9999, iLn2, iLn1, iL0, iL1, iL2, iL3, iL4, iL5, iL6, iL7, iL8, iL9, iL10, iL15, iL16, iL31, iL32, iL40, iL42, iL45, iL48, iL57, iL59, iL63, iL64, iL65, iL120, iL126, iL455, iL520, iL9999, iL99999, iN2, iN8, iN64, iN65, iN120, iN130, iN520, bZ_0]
      refine ⟨fun c => ?_, fun c => ⟨fun c2 => ?_, fun c2 => ?_⟩⟩
      · rw [if_neg (fun z => z.1 c)] at hI
        exact hI
      · refine s_rd_at hG hk hR (by omega) (by omega) ?_
        rw [vl_nat (by omega)]
        refine v_rd_least_23 hG hk ?_
        simp (disch := omega) only [iI_add, iI_sub, iI_mul, iI_neg, iI_lt, iI_le, iI_eq, iI_cl, vp_iI, Classical.not_not, iLn1000000005, iLn1000000004, iLn1000000003, iLn1000000002, iLn1000000001, iLn99999, iLn9999, iLn2, iLn1, iL0, iL1, iL2, iL3, iL4, iL5, iL6, iL7, iL8, iL9, iL10, iL15, iL16, iL31, iL32, iL40, iL42, iL45, iL48, iL57, iL59, iL63, iL64, iL65, iL120, iL126, iL455, iL520, iL9999, iL99999, iN2, iN8, iN64, iN65, iN120, iN130, iN520]
        rw [if_pos ⟨c, Or.inl c2⟩] at hI
        exact hI
      · refine s_rd_at hG hk hR (by omega) (by omega) ?_
        rw [vl_nat (by omega)]
        refine v_rd_least_18 hG hk ?_
        simp (disch := omega) only [iI_add, iI_sub, iI_mul, iI_neg, iI_lt, iI_le, iI_eq, iI_cl, vp_iI, Classical.not_not, iLn1000000005, iLn1000000004, iLn1000000003, iLn1000000002, iLn1000000001, iLn99999, iLn9999, iLn2, iLn1, iL0, iL1, iL2, iL3, iL4, iL5, iL6, iL7, iL8, iL9, iL10, iL15, iL16, iL31, iL32, iL40, iL42, iL45, iL48, iL57, iL59, iL63, iL64, iL65, iL120, iL126, iL455, iL520, iL9999, iL99999, iN2, iN8, iN64, iN65, iN120, iN130, iN520]
        refine ⟨fun c3 => ?_, fun c3 => ?_⟩
        · rw [if_neg (by omega)] at hI
          exact hI
        · refine s_rd_at hG hk hR (by omega) (by omega) ?_
          rw [vl_nat (by omega)]
          refine v_rd_least_23 hG hk ?_
          simp (disch := omega) only [iI_add, iI_sub, iI_mul, iI_neg, iI_lt, iI_le, iI_eq, iI_cl, vp_iI, Classical.not_not, iLn1000000005, iLn1000000004, iLn1000000003, iLn1000000002, iLn1000000001, iLn99999, iLn9999, iLn2, iLn1, iL0, iL1, iL2, iL3, iL4, iL5, iL6, iL7, iL8, iL9, iL10, iL15, iL16, iL31, iL32, iL40, iL42, iL45, iL48, iL57, iL59, iL63, iL64, iL65, iL120, iL126, iL455, iL520, iL9999, iL99999, iN2, iN8, iN64, iN65, iN120, iN130, iN520]
          rw [if_pos (by omega)] at hI
          exact hI
  simp (disch := omega) only [iI_add, iI_sub, iI_mul, iI_neg, iI_lt, iI_le, iI_eq, iI_cl, vp_iI, Classical.not_not, iLn1000000005, iLn1000000004, iLn1000000003, iLn1000000002, iLn1000000001, iLn99999, iLn9999, iLn2, iLn1, iL0, iL1, iL2, iL3, iL4, iL5, iL6, iL7, iL8, iL9, iL10, iL15, iL16, iL31, iL32, iL40, iL42, iL45, iL48, iL57, iL59, iL63, iL64, iL65, iL120, iL126, iL455, iL520, iL9999, iL99999, iN2, iN8, iN64, iN65, iN120, iN130, iN520]
  exact key n 0 (by omega)
theorem s_rd_greatest (hG : qGood Ls xs P) (hk : qRd k) (hR : cRd M k n f) (hQ : Q (some (.int (iI (grz f n)))) M) : P 21 0 [(0, .ref k)] [] M Q := by
  have hn := hR.2.1
  refine v_rd_greatest_0 hG hk ?_
  have key : ∀ (d j : Nat), j + d = n → P 21 4 [(0, .ref k), (1, .int (iI (grz f j))), (2, .int (iI j))] [] M Q := by
    intro d
    induction d with
    | zero =>
      intro j hj
      have e : j = n := by omega
      subst e
      refine v_rd_greatest_4 hG hk ?_
      simp (disch := omega) only [iI_add, iI_sub, iI_mul, iI_neg, iI_lt, iI_le, iI_eq, iI_cl, vp_iI, Classical.not_not, iLn1000000005, iLn1000000004, iLn1000000003, iLn1000000002, iLn1000000001, iLn99999, iLn9999, iLn2, iLn1, iL0, iL1, iL2, iL3, iL4, iL5, iL6, iL7, iL8, iL9, iL10, iL15, iL16, iL31, iL32, iL40, iL42, iL45, iL48, iL57, iL59, iL63, iL64, iL65, iL120, iL126, iL455, iL520, iL9999, iL99999, iN2, iN8, iN64, iN65, iN120, iN130, iN520, hR.1]
      exact ⟨fun c => hQ, fun c => by omega⟩
    | succ d ih =>
      intro j hj
      have hb := grz_ok hR.ok j (by omega)
      have hv := hR.ok j (by omega)
      unfold okv at hb hv
      refine v_rd_greatest_4 hG hk ?_
      simp (disch := omega) only [iI_add, iI_sub, iI_mul, iI_neg, iI_lt, iI_le, iI_eq, iI_cl, vp_iI, Classical.not_not, iLn1000000005, iLn1000000004, iLn1000000003, iLn1000000002, iLn1000000001, iLn99999, iLn9999, iLn2, iLn1, iL0, iL1, iL2, iL3, iL4, iL5, iL6, iL7, iL8, iL9, iL10, iL15, iL16, iL31, iL32, iL40, iL42, iL45, iL48, iL57, iL59, iL63, iL64, iL65, iL120, iL126, iL455, iL520, iL9999, iL99999, iN2, iN8, iN64, iN65, iN120, iN130, iN520, hR.1]
      refine ⟨fun c => by omega, fun c => ?_⟩
      refine s_rd_at hG hk hR (by omega) (by omega) ?_
      rw [vl_nat (by omega)]
      refine v_rd_greatest_12 hG hk ?_
      refine s_max hG (by omega) (by omega) (by omega) (by omega) ?_
      refine v_rd_greatest_13 hG hk ?_
      simp (disch := omega) only [iI_add, iI_sub, iI_mul, iI_neg, iI_lt, iI_le, iI_eq, iI_cl, vp_iI, Classical.not_not, iLn1000000005, iLn1000000004, iLn1000000003, iLn1000000002, iLn1000000001, iLn99999, iLn9999, iLn2, iLn1, iL0, iL1, iL2, iL3, iL4, iL5, iL6, iL7, iL8, iL9, iL10, iL15, iL16, iL31, iL32, iL40, iL42, iL45, iL48, iL57, iL59, iL63, iL64, iL65, iL120, iL126, iL455, iL520, iL9999, iL99999, iN2, iN8, iN64, iN65, iN120, iN130, iN520]
      exact ih (j + 1) (by omega)
  simp (disch := omega) only [iI_add, iI_sub, iI_mul, iI_neg, iI_lt, iI_le, iI_eq, iI_cl, vp_iI, Classical.not_not, iLn1000000005, iLn1000000004, iLn1000000003, iLn1000000002, iLn1000000001, iLn99999, iLn9999, iLn2, iLn1, iL0, iL1, iL2, iL3, iL4, iL5, iL6, iL7, iL8, iL9, iL10, iL15, iL16, iL31, iL32, iL40, iL42, iL45, iL48, iL57, iL59, iL63, iL64, iL65, iL120, iL126, iL455, iL520, iL9999, iL99999, iN2, iN8, iN64, iN65, iN120, iN130, iN520]
  exact key n 0 (by omega)
theorem s_rd_startsGap (hG : qGood Ls xs P) {j : Nat} (hk : qRd k) (hR : cRd M k n f) (hj : j < n) (hQ : Q (some (.int (iI (bZ (stg f j = true))))) M) : P 24 0 [(0, .ref k), (1, .int (iI j))] [] M Q := by
  have hn := hR.2.1
  refine v_rd_startsGap_0 hG hk ?_
  refine s_rd_has hG hk hR (by omega) (by omega) ?_
  rw [vl_nat hj]
  refine v_rd_startsGap_3 hG hk ?_
  have hz := bZ_in (f j ≠ (-1000000001))
  simp (disch := omega) only [iI_add, iI_sub, iI_mul, iI_neg, iI_lt, iI_le, iI_eq, iI_cl, vp_iI, Classical.not_not, iLn1000000005, iLn1000000004, iLn1000000003, iLn1000000002, iLn1000000001, iLn99999, iLn9999, iLn2, iLn1, iL0, iL1, iL2, iL3, iL4, iL5, iL6, iL7, iL8, iL9, iL10, iL15, iL16, iL31, iL32, iL40, iL42, iL45, iL48, iL57, iL59, iL63, iL64, iL65, iL120, iL126, iL455, iL520, iL9999, iL99999, iN2, iN8, iN64, iN65, iN120, iN130, iN520, bZ_0]
  refine ⟨fun c => q_b hQ (bZ_f ?_), fun c => ⟨fun c2 => q_b hQ (bZ_t ?_), fun c2 => ?_⟩⟩
  · simp [stg, c]
  · have e : j = 0 := by omega
    subst e
    simp [stg, c]
  · refine s_rd_has hG hk hR (by omega) (by omega) ?_
    have e : (j : Int) - 1 = ((j - 1 : Nat) : Int) := by omega
    rw [e, vl_nat (by omega)]
    refine v_rd_startsGap_11 hG ?_
    have hz2 := bZ_in (f (j - 1) ≠ (-1000000001))
    simp (disch := omega) only [iI_add, iI_sub, iI_mul, iI_neg, iI_lt, iI_le, iI_eq, iI_cl, vp_iI, Classical.not_not, iLn1000000005, iLn1000000004, iLn1000000003, iLn1000000002, iLn1000000001, iLn99999, iLn9999, iLn2, iLn1, iL0, iL1, iL2, iL3, iL4, iL5, iL6, iL7, iL8, iL9, iL10, iL15, iL16, iL31, iL32, iL40, iL42, iL45, iL48, iL57, iL59, iL63, iL64, iL65, iL120, iL126, iL455, iL520, iL9999, iL99999, iN2, iN8, iN64, iN65, iN120, iN130, iN520, bZ_0]
    refine ⟨fun c3 => q_b hQ (bZ_f ?_), fun c3 => q_b hQ (bZ_t ?_)⟩
    · have : j ≠ 0 := by omega
      simp [stg, c, c3, this]
    · simp [stg, c, c3]
theorem s_rd_gapEnd (hG : qGood Ls xs P) {j : Nat} (hk : qRd k) (hR : cRd M k n f) (hj : j ≤ n) (hQ : Q (some (.int (iI (gpe f (n - j) j)))) M) : P 25 0 [(0, .ref k), (1, .int (iI j))] [] M Q := by
  have hn := hR.2.1
  refine v_rd_gapEnd_0 hG hk ?_
  have key : ∀ (d i : Nat), i + d = n → gpe f d i = gpe f (n - j) j → P 25 2 [(0, .ref k), (2, .int (iI i))] [] M Q := by
    intro d
    induction d with
    | zero =>
      intro i hi he
      have e : i = n := by omega
      subst e
      refine v_rd_gapEnd_2 hG hk ?_
      simp (disch := omega) only [iI_add, iI_sub, iI_mul, iI_neg, iI_lt, iI_le, iI_eq, iI_cl, vp_iI, Classical.not_not, iLn1000000005, iLn1000000004, iLn1000000003, iLn1000000002, iLn1000000001, iLn99999, iLn9999, iLn2, iLn1, iL0, iL1, iL2, iL3, iL4, iL5, iL6, iL7, iL8, iL9, iL10, iL15, iL16, iL31, iL32, iL40, iL42, iL45, iL48, iL57, iL59, iL63, iL64, iL65, iL120, iL126, iL455, iL520, iL9999, iL99999, iN2, iN8, iN64, iN65, iN120, iN130, iN520, hR.1]
      refine ⟨fun c => ?_, fun c => by omega⟩
      rw [← he] at hQ
      exact hQ
    | succ d ih =>
      intro i hi he
      refine v_rd_gapEnd_2 hG hk ?_
      simp (disch := omega) only [iI_add, iI_sub, iI_mul, iI_neg, iI_lt, iI_le, iI_eq, iI_cl, vp_iI, Classical.not_not, iLn1000000005, iLn1000000004, iLn1000000003, iLn1000000002, iLn1000000001, iLn99999, iLn9999, iLn2, iLn1, iL0, iL1, iL2, iL3, iL4, iL5, iL6, iL7, iL8, iL9, iL10, iL15, iL16, iL31, iL32, iL40, iL42, iL45, iL48, iL57, iL59, iL63, iL64, iL65, iL120, iL126, iL455, iL520, iL9999, iL99999, iN2, iN8, iN64, iN65, iN120, iN130, iN520, hR.1]
      refine ⟨fun c => by omega, fun c => ?_⟩
      refine s_rd_has hG hk hR (by omega) (by omega) ?_
      rw [vl_nat (by omega)]
      refine v_rd_gapEnd_9 hG hk ?_
      have hz := bZ_in (f i ≠ (-1000000001))
      simp (disch := omega) only [iI_add, iI_sub, iI_mul, iI_neg, iI_lt, iI_le, iI_eq, iI_cl, vp_iI, Classical.not_not, iLn1000000005, iLn1000000004, iLn1000000003, iLn1000000002, iLn1000000001, iLn99999, iLn9999, iLn2, iLn1, iL0, iL1, iL2, iL3, iL4, iL5, iL6, iL7, iL8, iL9, iL10, iL15, iL16, iL31, iL32, iL40, iL42, iL45, iL48, iL57, iL59, iL63, iL64, iL65, iL120, iL126, iL455, iL520, iL9999, iL99999, iN2, iN8, iN64, iN65, iN120, iN130, iN520, bZ_0]
      rw [gpe_s] at he
      refine ⟨fun c => ?_, fun c => ?_⟩
      · rw [if_neg c] at he
        rw [← he] at hQ
        exact hQ
      · rw [if_pos c] at he
        exact ih (i + 1) (by omega) he
  exact key (n - j) j (by omega) rfl
theorem s_rd_gaps (hG : qGood Ls xs P) (hk : qRd k) (hR : cRd M k n f) (hQ : Q (some (.int (iI (cz (stg f) n)))) M) : P 22 0 [(0, .ref k)] [] M Q := by
  have hn := hR.2.1
  refine v_rd_gaps_0 hG hk ?_
  have key : ∀ (d j : Nat), j + d = n → P 22 4 [(0, .ref k), (1, .int (iI (cz (stg f) j))), (2, .int (iI j))] [] M Q := by
    intro d
    induction d with
    | zero =>
      intro j hj
      have e : j = n := by omega
      subst e
      refine v_rd_gaps_4 hG hk ?_
      simp (disch := omega) only [iI_add, iI_sub, iI_mul, iI_neg, iI_lt, iI_le, iI_eq, iI_cl, vp_iI, Classical.not_not, iLn1000000005, iLn1000000004, iLn1000000003, iLn1000000002, iLn1000000001, iLn99999, iLn9999, iLn2, iLn1, iL0, iL1, iL2, iL3, iL4, iL5, iL6, iL7, iL8, iL9, iL10, iL15, iL16, iL31, iL32, iL40, iL42, iL45, iL48, iL57, iL59, iL63, iL64, iL65, iL120, iL126, iL455, iL520, iL9999, iL99999, iN2, iN8, iN64, iN65, iN120, iN130, iN520, hR.1]
      exact ⟨fun c => hQ, fun c => by omega⟩
    | succ d ih =>
      intro j hj
      have hb := cz_in (stg f) j
      refine v_rd_gaps_4 hG hk ?_
      simp (disch := omega) only [iI_add, iI_sub, iI_mul, iI_neg, iI_lt, iI_le, iI_eq, iI_cl, vp_iI, Classical.not_not, iLn1000000005, iLn1000000004, iLn1000000003, iLn1000000002, iLn1000000001, iLn99999, iLn9999, iLn2, iLn1, iL0, iL1, iL2, iL3, iL4, iL5, iL6, iL7, iL8, iL9, iL10, iL15, iL16, iL31, iL32, iL40, iL42, iL45, iL48, iL57, iL59, iL63, iL64, iL65, iL120, iL126, iL455, iL520, iL9999, iL99999, iN2, iN8, iN64, iN65, iN120, iN130, iN520, hR.1]
      refine ⟨fun c => by omega, fun c => ?_⟩
      refine s_rd_startsGap hG hk hR (by omega) ?_
      refine v_rd_gaps_11 hG hk ?_
      have hz := bZ_in (stg f j = true)
      simp (disch := omega) only [iI_add, iI_sub, iI_mul, iI_neg, iI_lt, iI_le, iI_eq, iI_cl, vp_iI, Classical.not_not, iLn1000000005, iLn1000000004, iLn1000000003, iLn1000000002, iLn1000000001, iLn99999, iLn9999, iLn2, iLn1, iL0, iL1, iL2, iL3, iL4, iL5, iL6, iL7, iL8, iL9, iL10, iL15, iL16, iL31, iL32, iL40, iL42, iL45, iL48, iL57, iL59, iL63, iL64, iL65, iL120, iL126, iL455, iL520, iL9999, iL99999, iN2, iN8, iN64, iN65, iN120, iN130, iN520, bZ_0]
      have hI := ih (j + 1) (by omega)
      unfold cz at hI
      refine ⟨fun c => ?_, fun c => ?_⟩
      · rw [if_neg c] at hI
        rw [Int.add_zero] at hI
        exact hI
      · rw [if_pos c] at hI
        exact hI
  simp (disch := omega) only [iI_add, iI_sub, iI_mul, iI_neg, iI_lt, iI_le, iI_eq, iI_cl, vp_iI, Classical.not_not, iLn1000000005, iLn1000000004, iLn1000000003, iLn1000000002, iLn1000000001, iLn99999, iLn9999, iLn2, iLn1, iL0, iL1, iL2, iL3, iL4, iL5, iL6, iL7, iL8, iL9, iL10, iL15, iL16, iL31, iL32, iL40, iL42, iL45, iL48, iL57, iL59, iL63, iL64, iL65, iL120, iL126, iL455, iL520, iL9999, iL99999, iN2, iN8, iN64, iN65, iN120, iN130, iN520]
  exact key n 0 (by omega)
theorem s_rd_longestGap (hG : qGood Ls xs P) (hk : qRd k) (hR : cRd M k n f) (hQ : Q (some (.int (iI (lgz n f n)))) M) : P 23 0 [(0, .ref k)] [] M Q := by
  have hn := hR.2.1
  refine v_rd_longestGap_0 hG hk ?_
  have key : ∀ (d j : Nat), j + d = n → P 23 4 [(0, .ref k), (1, .int (iI (lgz n f j))), (2, .int (iI j))] [] M Q := by
    intro d
    induction d with
    | zero =>
      intro j hj
      have e : j = n := by omega
      subst e
      refine v_rd_longestGap_4 hG hk ?_
      simp (disch := omega) only [iI_add, iI_sub, iI_mul, iI_neg, iI_lt, iI_le, iI_eq, iI_cl, vp_iI, Classical.not_not, iLn1000000005, iLn1000000004, iLn1000000003, iLn1000000002, iLn1000000001, iLn99999, iLn9999, iLn2, iLn1, iL0, iL1, iL2, iL3, iL4, iL5, iL6, iL7, iL8, iL9, iL10, iL15, iL16, iL31, iL32, iL40, iL42, iL45, iL48, iL57, iL59, iL63, iL64, iL65, iL120, iL126, iL455, iL520, iL9999, iL99999, iN2, iN8, iN64, iN65, iN120, iN130, iN520, hR.1]
      exact ⟨fun c => hQ, fun c => by omega⟩
    | succ d ih =>
      intro j hj
      have hb := lgz_in (n := n) (f := f) j (by omega)
      have hg := gpe_in f (n - j) j
      refine v_rd_longestGap_4 hG hk ?_
      simp (disch := omega) only [iI_add, iI_sub, iI_mul, iI_neg, iI_lt, iI_le, iI_eq, iI_cl, vp_iI, Classical.not_not, iLn1000000005, iLn1000000004, iLn1000000003, iLn1000000002, iLn1000000001, iLn99999, iLn9999, iLn2, iLn1, iL0, iL1, iL2, iL3, iL4, iL5, iL6, iL7, iL8, iL9, iL10, iL15, iL16, iL31, iL32, iL40, iL42, iL45, iL48, iL57, iL59, iL63, iL64, iL65, iL120, iL126, iL455, iL520, iL9999, iL99999, iN2, iN8, iN64, iN65, iN120, iN130, iN520, hR.1]
      refine ⟨fun c => by omega, fun c => ?_⟩
      refine s_rd_startsGap hG hk hR (by omega) ?_
      refine v_rd_longestGap_11 hG hk ?_
      have hz := bZ_in (stg f j = true)
      simp (disch := omega) only [iI_add, iI_sub, iI_mul, iI_neg, iI_lt, iI_le, iI_eq, iI_cl, vp_iI, Classical.not_not, iLn1000000005, iLn1000000004, iLn1000000003, iLn1000000002, iLn1000000001, iLn99999, iLn9999, iLn2, iLn1, iL0, iL1, iL2, iL3, iL4, iL5, iL6, iL7, iL8, iL9, iL10, iL15, iL16, iL31, iL32, iL40, iL42, iL45, iL48, iL57, iL59, iL63, iL64, iL65, iL120, iL126, iL455, iL520, iL9999, iL99999, iN2, iN8, iN64, iN65, iN120, iN130, iN520, bZ_0]
      have hI := ih (j + 1) (by omega)
      unfold lgz at hI
      refine ⟨fun c => ?_, fun c => ?_⟩
      · rw [if_neg c] at hI
        exact hI
      · rw [if_pos c] at hI
        refine s_rd_gapEnd hG hk hR (by omega) ?_
        refine v_rd_longestGap_16 hG hk ?_
        simp (disch := omega) only [iI_add, iI_sub, iI_mul, iI_neg, iI_lt, iI_le, iI_eq, iI_cl, vp_iI, Classical.not_not, iLn1000000005, iLn1000000004, iLn1000000003, iLn1000000002, iLn1000000001, iLn99999, iLn9999, iLn2, iLn1, iL0, iL1, iL2, iL3, iL4, iL5, iL6, iL7, iL8, iL9, iL10, iL15, iL16, iL31, iL32, iL40, iL42, iL45, iL48, iL57, iL59, iL63, iL64, iL65, iL120, iL126, iL455, iL520, iL9999, iL99999, iN2, iN8, iN64, iN65, iN120, iN130, iN520]
        refine s_max hG (by omega) (by omega) (by omega) (by omega) ?_
        refine v_rd_longestGap_19 hG hk ?_
        simp (disch := omega) only [iI_add, iI_sub, iI_mul, iI_neg, iI_lt, iI_le, iI_eq, iI_cl, vp_iI, Classical.not_not, iLn1000000005, iLn1000000004, iLn1000000003, iLn1000000002, iLn1000000001, iLn99999, iLn9999, iLn2, iLn1, iL0, iL1, iL2, iL3, iL4, iL5, iL6, iL7, iL8, iL9, iL10, iL15, iL16, iL31, iL32, iL40, iL42, iL45, iL48, iL57, iL59, iL63, iL64, iL65, iL120, iL126, iL455, iL520, iL9999, iL99999, iN2, iN8, iN64, iN65, iN120, iN130, iN520]
        exact hI
  simp (disch := omega) only [iI_add, iI_sub, iI_mul, iI_neg, iI_lt, iI_le, iI_eq, iI_cl, vp_iI, Classical.not_not, iLn1000000005, iLn1000000004, iLn1000000003, iLn1000000002, iLn1000000001, iLn99999, iLn9999, iLn2, iLn1, iL0, iL1, iL2, iL3, iL4, iL5, iL6, iL7, iL8, iL9, iL10, iL15, iL16, iL31, iL32, iL40, iL42, iL45, iL48, iL57, iL59, iL63, iL64, iL65, iL120, iL126, iL455, iL520, iL9999, iL99999, iN2, iN8, iN64, iN65, iN120, iN130, iN520]
  exact key n 0 (by omega)
theorem s_rd_secondAt (hG : qGood Ls xs P) {m i : Int} (hk : qRd k) (hR : cRd M k n f) (h1 : 0 ≤ m) (h2 : m ≤ 100) (h3 : 0 ≤ i) (h4 : i ≤ 200) (hQ : Q (some (.int (iI (sec n f m i)))) M) : P 30 0 [(0, .ref k), (1, .int (iI m)), (2, .int (iI i))] [] M Q := by
  have o1 := vl_ok hR.ok i
  have o2 := vl_ok hR.ok (i + m)
  have o3 := vl_ok hR.ok (i + 2 * m)
  unfold okv at o1 o2 o3
  refine v_rd_secondAt_0 hG hk ?_
  refine s_rd_at hG hk hR (by omega) (by omega) ?_
  refine v_rd_secondAt_3 hG hk ?_
  simp (disch := omega) only [iI_add, iI_sub, iI_mul, iI_neg, iI_lt, iI_le, iI_eq, iI_cl, vp_iI, Classical.not_not, iLn1000000005, iLn1000000004, iLn1000000003, iLn1000000002, iLn1000000001, iLn99999, iLn9999, iLn2, iLn1, iL0, iL1, iL2, iL3, iL4, iL5, iL6, iL7, iL8, iL9, iL10, iL15, iL16, iL31, iL32, iL40, iL42, iL45, iL48, iL57, iL59, iL63, iL64, iL65, iL120, iL126, iL455, iL520, iL9999, iL99999, iN2, iN8, iN64, iN65, iN120, iN130, iN520]
  refine s_rd_at hG hk hR (by omega) (by omega) ?_
  refine v_rd_secondAt_9 hG hk ?_
  simp (disch := omega) only [iI_add, iI_sub, iI_mul, iI_neg, iI_lt, iI_le, iI_eq, iI_cl, vp_iI, Classical.not_not, iLn1000000005, iLn1000000004, iLn1000000003, iLn1000000002, iLn1000000001, iLn99999, iLn9999, iLn2, iLn1, iL0, iL1, iL2, iL3, iL4, iL5, iL6, iL7, iL8, iL9, iL10, iL15, iL16, iL31, iL32, iL40, iL42, iL45, iL48, iL57, iL59, iL63, iL64, iL65, iL120, iL126, iL455, iL520, iL9999, iL99999, iN2, iN8, iN64, iN65, iN120, iN130, iN520]
  refine s_rd_at hG hk hR (by omega) (by omega) ?_
  refine v_rd_secondAt_17 hG ?_
  simp (disch := omega) only [iI_add, iI_sub, iI_mul, iI_neg, iI_lt, iI_le, iI_eq, iI_cl, vp_iI, Classical.not_not, iLn1000000005, iLn1000000004, iLn1000000003, iLn1000000002, iLn1000000001, iLn99999, iLn9999, iLn2, iLn1, iL0, iL1, iL2, iL3, iL4, iL5, iL6, iL7, iL8, iL9, iL10, iL15, iL16, iL31, iL32, iL40, iL42, iL45, iL48, iL57, iL59, iL63, iL64, iL65, iL120, iL126, iL455, iL520, iL9999, iL99999, iN2, iN8, iN64, iN65, iN120, iN130, iN520]
  unfold sec at hQ
  refine ⟨fun c => ?_, fun c => ⟨fun c2 => ?_, fun c2 => ⟨fun c3 => ?_, fun c3 => ?_⟩⟩⟩
  · rw [if_pos (Or.inl c)] at hQ; exact hQ
  · rw [if_pos (Or.inr (Or.inl c2))] at hQ; exact hQ
  · rw [if_neg (by omega)] at hQ; exact hQ
  · rw [if_pos (Or.inr (Or.inr c3))] at hQ; exact hQ
theorem s_rd_thirdAt (hG : qGood Ls xs P) {m i : Int} (hk : qRd k) (hR : cRd M k n f) (h1 : 0 ≤ m) (h2 : m ≤ 100) (h3 : 0 ≤ i) (h4 : i ≤ 200) (hQ : Q (some (.int (iI (thr n f m i)))) M) : P 31 0 [(0, .ref k), (1, .int (iI m)), (2, .int (iI i))] [] M Q := by
  have o1 := vl_ok hR.ok i
  have o2 := vl_ok hR.ok (i + m)
  have o3 := vl_ok hR.ok (i + 2 * m)
  have o4 := vl_ok hR.ok (i + 3 * m)
  unfold okv at o1 o2 o3 o4
  refine v_rd_thirdAt_0 hG hk ?_
  refine s_rd_at hG hk hR (by omega) (by omega) ?_
  refine v_rd_thirdAt_3 hG hk ?_
  simp (disch := omega) only [iI_add, iI_sub, iI_mul, iI_neg, iI_lt, iI_le, iI_eq, iI_cl, vp_iI, Classical.not_not, iLn1000000005, iLn1000000004, iLn1000000003, iLn1000000002, iLn1000000001, iLn99999, iLn9999, iLn2, iLn1, iL0, iL1, iL2, iL3, iL4, iL5, iL6, iL7, iL8, iL9, iL10, iL15, iL16, iL31, iL32, iL40, iL42, iL45, iL48, iL57, iL59, iL63, iL64, iL65, iL120, iL126, iL455, iL520, iL9999, iL99999, iN2, iN8, iN64, iN65, iN120, iN130, iN520]
  refine s_rd_at hG hk hR (by omega) (by omega) ?_
  refine v_rd_thirdAt_9 hG hk ?_
  simp (disch := omega) only [iI_add, iI_sub, iI_mul, iI_neg, iI_lt, iI_le, iI_eq, iI_cl, vp_iI, Classical.not_not, iLn1000000005, iLn1000000004, iLn1000000003, iLn1000000002, iLn1000000001, iLn99999, iLn9999, iLn2, iLn1, iL0, iL1, iL2, iL3, iL4, iL5, iL6, iL7, iL8, iL9, iL10, iL15, iL16, iL31, iL32, iL40, iL42, iL45, iL48, iL57, iL59, iL63, iL64, iL65, iL120, iL126, iL455, iL520, iL9999, iL99999, iN2, iN8, iN64, iN65, iN120, iN130, iN520]
  refine s_rd_at hG hk hR (by omega) (by omega) ?_
  refine v_rd_thirdAt_17 hG hk ?_
  simp (disch := omega) only [iI_add, iI_sub, iI_mul, iI_neg, iI_lt, iI_le, iI_eq, iI_cl, vp_iI, Classical.not_not, iLn1000000005, iLn1000000004, iLn1000000003, iLn1000000002, iLn1000000001, iLn99999, iLn9999, iLn2, iLn1, iL0, iL1, iL2, iL3, iL4, iL5, iL6, iL7, iL8, iL9, iL10, iL15, iL16, iL31, iL32, iL40, iL42, iL45, iL48, iL57, iL59, iL63, iL64, iL65, iL120, iL126, iL455, iL520, iL9999, iL99999, iN2, iN8, iN64, iN65, iN120, iN130, iN520]
  refine s_rd_at hG hk hR (by omega) (by omega) ?_
  refine v_rd_thirdAt_25 hG ?_
  simp (disch := omega) only [iI_add, iI_sub, iI_mul, iI_neg, iI_lt, iI_le, iI_eq, iI_cl, vp_iI, Classical.not_not, iLn1000000005, iLn1000000004, iLn1000000003, iLn1000000002, iLn1000000001, iLn99999, iLn9999, iLn2, iLn1, iL0, iL1, iL2, iL3, iL4, iL5, iL6, iL7, iL8, iL9, iL10, iL15, iL16, iL31, iL32, iL40, iL42, iL45, iL48, iL57, iL59, iL63, iL64, iL65, iL120, iL126, iL455, iL520, iL9999, iL99999, iN2, iN8, iN64, iN65, iN120, iN130, iN520]
  unfold thr at hQ
  refine ⟨fun c => ?_, fun c => ⟨fun c2 => ?_, fun c2 => ⟨fun c3 => ?_, fun c3 => ⟨fun c4 => ?_, fun c4 => ?_⟩⟩⟩⟩
  · rw [if_pos (Or.inl c)] at hQ; exact hQ
  · rw [if_pos (Or.inr (Or.inl c2))] at hQ; exact hQ
  · rw [if_pos (Or.inr (Or.inr (Or.inl c3)))] at hQ; exact hQ
  · rw [if_neg (by omega)] at hQ; exact hQ
  · rw [if_pos (Or.inr (Or.inr (Or.inr c4)))] at hQ; exact hQ
theorem s_rd_meanAt (hG : qGood Ls xs P) {m : Nat} {i : Int} (hk : qRd k) (hR : cRd M k n f) (h2 : m ≤ 31) (h3 : 0 ≤ i) (h4 : i ≤ 64) (hQ : Q (some (.int (iI (men n f m i)))) M) : P 32 0 [(0, .ref k), (1, .int (iI m)), (2, .int (iI i))] [] M Q := by
  refine v_rd_meanAt_0 hG hk ?_
  have okM : ∀ (d j : Nat), okS (fun j => sec n f m (i + j)) (j + d) = true → okS (fun j => sec n f m (i + j)) j = true := by
    intro d
    induction d with
    | zero => intro j h; exact h
    | succ d ih =>
      intro j h
      refine ih j ?_
      rw [← Nat.add_assoc] at h
      unfold okS at h
      simp only [Bool.and_eq_true] at h
      exact h.1
  have key : ∀ (d j : Nat), j + d = m → okS (fun j => sec n f m (i + j)) j = true → P 32 4 [(0, .ref k), (1, .int (iI m)), (2, .int (iI i)), (3, .int (iI (smS (fun j => sec n f m (i + j)) j))), (4, .int (iI j))] [] M Q := by
    intro d
    induction d with
    | zero =>
      intro j hj ho
      have e : j = m := by omega
      subst e
      refine v_rd_meanAt_4 hG hk ?_
      simp (disch := omega) only [iI_add, iI_sub, iI_mul, iI_neg, iI_lt, iI_le, iI_eq, iI_cl, vp_iI, Classical.not_not, iLn1000000005, iLn1000000004, iLn1000000003, iLn1000000002, iLn1000000001, iLn99999, iLn9999, iLn2, iLn1, iL0, iL1, iL2, iL3, iL4, iL5, iL6, iL7, iL8, iL9, iL10, iL15, iL16, iL31, iL32, iL40, iL42, iL45, iL48, iL57, iL59, iL63, iL64, iL65, iL120, iL126, iL455, iL520, iL9999, iL99999, iN2, iN8, iN64, iN65, iN120, iN130, iN520]
      refine ⟨fun c => ?_, fun c => by omega⟩
      unfold men at hQ
      rw [if_pos ho] at hQ
      exact hQ
    | succ d ih =>
      intro j hj ho
      have o1 := sec_ok hR.ok m (i + j)
      have o2 := smS_in (B := 399996) (fun j => sec_ok hR.ok m (i + j)) j ho
      refine v_rd_meanAt_4 hG hk ?_
      simp (disch := omega) only [iI_add, iI_sub, iI_mul, iI_neg, iI_lt, iI_le, iI_eq, iI_cl, vp_iI, Classical.not_not, iLn1000000005, iLn1000000004, iLn1000000003, iLn1000000002, iLn1000000001, iLn99999, iLn9999, iLn2, iLn1, iL0, iL1, iL2, iL3, iL4, iL5, iL6, iL7, iL8, iL9, iL10, iL15, iL16, iL31, iL32, iL40, iL42, iL45, iL48, iL57, iL59, iL63, iL64, iL65, iL120, iL126, iL455, iL520, iL9999, iL99999, iN2, iN8, iN64, iN65, iN120, iN130, iN520]
      refine ⟨fun c => by omega, fun c => ?_⟩
      refine s_rd_secondAt hG hk hR (by omega) (by omega) (by omega) (by omega) ?_
      refine v_rd_meanAt_13 hG hk ?_
      simp (disch := omega) only [iI_add, iI_sub, iI_mul, iI_neg, iI_lt, iI_le, iI_eq, iI_cl, vp_iI, Classical.not_not, iLn1000000005, iLn1000000004, iLn1000000003, iLn1000000002, iLn1000000001, iLn99999, iLn9999, iLn2, iLn1, iL0, iL1, iL2, iL3, iL4, iL5, iL6, iL7, iL8, iL9, iL10, iL15, iL16, iL31, iL32, iL40, iL42, iL45, iL48, iL57, iL59, iL63, iL64, iL65, iL120, iL126, iL455, iL520, iL9999, iL99999, iN2, iN8, iN64, iN65, iN120, iN130, iN520]
      refine ⟨fun c => ?_, fun c => ?_⟩
      · refine ih (j + 1) (by omega) ?_
        unfold okS
        rw [ho]
        simpa using c
      · have hno : ¬ okS (fun j => sec n f m (i + j)) m = true := by
          intro z
          have z2 := okM d (j + 1) (by rw [show j + 1 + d = m by omega]; exact z)
          unfold okS at z2
          simp only [Bool.and_eq_true, decide_eq_true_eq] at z2
          exact z2.2 c
        unfold men at hQ
        rw [if_neg hno] at hQ
        exact hQ
  simp (disch := omega) only [iI_add, iI_sub, iI_mul, iI_neg, iI_lt, iI_le, iI_eq, iI_cl, vp_iI, Classical.not_not, iLn1000000005, iLn1000000004, iLn1000000003, iLn1000000002, iLn1000000001, iLn99999, iLn9999, iLn2, iLn1, iL0, iL1, iL2, iL3, iL4, iL5, iL6, iL7, iL8, iL9, iL10, iL15, iL16, iL31, iL32, iL40, iL42, iL45, iL48, iL57, iL59, iL63, iL64, iL65, iL120, iL126, iL455, iL520, iL9999, iL99999, iN2, iN8, iN64, iN65, iN120, iN130, iN520]
  exact key m 0 (by omega) rfl
theorem s_rd_differenceAt (hG : qGood Ls xs P) {o : Int} {m : Nat} {i : Int} (hk : qRd k) (hR : cRd M k n f) (h1 : 2 ≤ o) (h1' : o ≤ 4) (h2 : m ≤ 31) (h3 : -2147483648 ≤ i) (h4 : i < 2147483648) (hQ : Q (some (.int (iI (dif n f o m i)))) M) : P 29 0 [(0, .ref k), (1, .int (iI o)), (2, .int (iI m)), (3, .int (iI i))] [] M Q := by
  have hn := hR.2.1
  refine v_rd_differenceAt_0 hG hk ?_
  refine s_rd_reaches hG hk hR h3 h4 ?_
  refine v_rd_differenceAt_3 hG hk ?_
  have hz := bZ_in (0 ≤ i ∧ i < n)
  simp (disch := omega) only [iI_add, iI_sub, iI_mul, iI_neg, iI_lt, iI_le, iI_eq, iI_cl, vp_iI, Classical.not_not, iLn1000000005, iLn1000000004, iLn1000000003, iLn1000000002, iLn1000000001, iLn99999, iLn9999, iLn2, iLn1, iL0, iL1, iL2, iL3, iL4, iL5, iL6, iL7, iL8, iL9, iL10, iL15, iL16, iL31, iL32, iL40, iL42, iL45, iL48, iL57, iL59, iL63, iL64, iL65, iL120, iL126, iL455, iL520, iL9999, iL99999, iN2, iN8, iN64, iN65, iN120, iN130, iN520, bZ_0]
  unfold dif at hQ
  refine ⟨fun c => ?_, fun c => ?_⟩
  · rw [if_pos c] at hQ
    refine ⟨fun c2 => ⟨fun c3 => ?_, fun c3 => ?_⟩, fun c2 => ?_⟩
    · rw [if_neg c2, if_neg c3] at hQ
      refine s_rd_meanAt hG hk hR h2 (by omega) (by omega) ?_
      exact v_rd_differenceAt_26 hG hQ
    · rw [if_neg c2, if_pos c3] at hQ
      refine s_rd_thirdAt hG hk hR (by omega) (by omega) (by omega) (by omega) ?_
      exact v_rd_differenceAt_21 hG (v_rd_differenceAt_26 hG hQ)
    · rw [if_pos c2] at hQ
      refine s_rd_secondAt hG hk hR (by omega) (by omega) (by omega) (by omega) ?_
      exact v_rd_differenceAt_13 hG hQ
  · rw [if_neg c] at hQ
    exact hQ
theorem s_rd_countOf (hG : qGood Ls xs P) {o : Int} {m : Nat} (hk : qRd k) (hR : cRd M k n f) (h1 : 2 ≤ o) (h1' : o ≤ 4) (h2 : m ≤ 31) (hQ : Q (some (.int (iI (cz (fun j => decide (dif n f o m j ≠ (-1000000001))) n)))) M) : P 28 0 [(0, .ref k), (1, .int (iI o)), (2, .int (iI m))] [] M Q := by
  have hn := hR.2.1
  refine v_rd_countOf_0 hG hk ?_
  have key : ∀ (d j : Nat), j + d = n → P 28 4 [(0, .ref k), (1, .int (iI o)), (2, .int (iI m)), (3, .int (iI (cz (fun j => decide (dif n f o m j ≠ (-1000000001))) j))), (4, .int (iI j))] [] M Q := by
    intro d
    induction d with
    | zero =>
      intro j hj
      have e : j = n := by omega
      subst e
      refine v_rd_countOf_4 hG hk ?_
      simp (disch := omega) only [iI_add, iI_sub, iI_mul, iI_neg, iI_lt, iI_le, iI_eq, iI_cl, vp_iI, Classical.not_not, iLn1000000005, iLn1000000004, iLn1000000003, iLn1000000002, iLn1000000001, iLn99999, iLn9999, iLn2, iLn1, iL0, iL1, iL2, iL3, iL4, iL5, iL6, iL7, iL8, iL9, iL10, iL15, iL16, iL31, iL32, iL40, iL42, iL45, iL48, iL57, iL59, iL63, iL64, iL65, iL120, iL126, iL455, iL520, iL9999, iL99999, iN2, iN8, iN64, iN65, iN120, iN130, iN520, hR.1]
      exact ⟨fun c => hQ, fun c => by omega⟩
    | succ d ih =>
      intro j hj
      have hb := cz_in (fun j => decide (dif n f o m j ≠ (-1000000001))) j
      have hd := dif_ok hR.ok h2 o j
      refine v_rd_countOf_4 hG hk ?_
      simp (disch := omega) only [iI_add, iI_sub, iI_mul, iI_neg, iI_lt, iI_le, iI_eq, iI_cl, vp_iI, Classical.not_not, iLn1000000005, iLn1000000004, iLn1000000003, iLn1000000002, iLn1000000001, iLn99999, iLn9999, iLn2, iLn1, iL0, iL1, iL2, iL3, iL4, iL5, iL6, iL7, iL8, iL9, iL10, iL15, iL16, iL31, iL32, iL40, iL42, iL45, iL48, iL57, iL59, iL63, iL64, iL65, iL120, iL126, iL455, iL520, iL9999, iL99999, iN2, iN8, iN64, iN65, iN120, iN130, iN520, hR.1]
      refine ⟨fun c => by omega, fun c => ?_⟩
      refine s_rd_differenceAt hG hk hR h1 h1' h2 (by omega) (by omega) ?_
      refine v_rd_countOf_13 hG hk ?_
      simp (disch := omega) only [iI_add, iI_sub, iI_mul, iI_neg, iI_lt, iI_le, iI_eq, iI_cl, vp_iI, Classical.not_not, iLn1000000005, iLn1000000004, iLn1000000003, iLn1000000002, iLn1000000001, iLn99999, iLn9999, iLn2, iLn1, iL0, iL1, iL2, iL3, iL4, iL5, iL6, iL7, iL8, iL9, iL10, iL15, iL16, iL31, iL32, iL40, iL42, iL45, iL48, iL57, iL59, iL63, iL64, iL65, iL120, iL126, iL455, iL520, iL9999, iL99999, iN2, iN8, iN64, iN65, iN120, iN130, iN520]
      have hI := ih (j + 1) (by omega)
      unfold cz at hI
      refine ⟨fun c => ?_, fun c => ?_⟩
      · rw [if_neg (by simpa using c)] at hI
        rw [Int.add_zero] at hI
        exact hI
      · rw [if_pos (by simpa using c)] at hI
        exact hI
  simp (disch := omega) only [iI_add, iI_sub, iI_mul, iI_neg, iI_lt, iI_le, iI_eq, iI_cl, vp_iI, Classical.not_not, iLn1000000005, iLn1000000004, iLn1000000003, iLn1000000002, iLn1000000001, iLn99999, iLn9999, iLn2, iLn1, iL0, iL1, iL2, iL3, iL4, iL5, iL6, iL7, iL8, iL9, iL10, iL15, iL16, iL31, iL32, iL40, iL42, iL45, iL48, iL57, iL59, iL63, iL64, iL65, iL120, iL126, iL455, iL520, iL9999, iL99999, iN2, iN8, iN64, iN65, iN120, iN130, iN520]
  exact key n 0 (by omega)
theorem s_rd_isOutlier (hG : qGood Ls xs P) {j : Nat} {lim : Int} (hk : qRd k) (hR : cRd M k n f) (hj : j < n) (h1 : 0 ≤ lim) (h2 : lim ≤ 99999) (hQ : Q (some (.int (iI (bZ (otl n f lim j = true))))) M) : P 27 0 [(0, .ref k), (1, .int (iI j)), (2, .int (iI lim))] [] M Q := by
  have hn := hR.2.1
  refine v_rd_isOutlier_0 hG hk ?_
  simp (disch := omega) only [iI_add, iI_sub, iI_mul, iI_neg, iI_lt, iI_le, iI_eq, iI_cl, vp_iI, Classical.not_not, iLn1000000005, iLn1000000004, iLn1000000003, iLn1000000002, iLn1000000001, iLn99999, iLn9999, iLn2, iLn1, iL0, iL1, iL2, iL3, iL4, iL5, iL6, iL7, iL8, iL9, iL10, iL15, iL16, iL31, iL32, iL40, iL42, iL45, iL48, iL57, iL59, iL63, iL64, iL65, iL120, iL126, iL455, iL520, iL9999, iL99999, iN2, iN8, iN64, iN65, iN120, iN130, iN520]
  refine s_rd_differenceAt (m := 1) hG hk hR (by omega) (by omega) (by omega) (by omega) (by omega) ?_
  refine v_rd_isOutlier_7 hG ?_
  have hd := dif_ok (m := 1) hR.ok (by omega) 2 ((j : Int) - 1)
  simp (disch := omega) only [iI_add, iI_sub, iI_mul, iI_neg, iI_lt, iI_le, iI_eq, iI_cl, vp_iI, Classical.not_not, iLn1000000005, iLn1000000004, iLn1000000003, iLn1000000002, iLn1000000001, iLn99999, iLn9999, iLn2, iLn1, iL0, iL1, iL2, iL3, iL4, iL5, iL6, iL7, iL8, iL9, iL10, iL15, iL16, iL31, iL32, iL40, iL42, iL45, iL48, iL57, iL59, iL63, iL64, iL65, iL120, iL126, iL455, iL520, iL9999, iL99999, iN2, iN8, iN64, iN65, iN120, iN130, iN520]
  unfold otl at hQ
  refine ⟨fun c => q_b hQ (bZ_f ?_), fun c => ⟨fun c2 => q_b hQ (bZ_t ?_), fun c2 => ⟨fun c3 => q_b hQ (bZ_f ?_), fun c3 => q_b hQ (bZ_t ?_)⟩⟩⟩
  · simp [c]
  · simp only [Bool.and_eq_true, Bool.or_eq_true, decide_eq_true_eq]
    exact ⟨c, Or.inl c2⟩
  · simp only [Bool.and_eq_true, Bool.or_eq_true, decide_eq_true_eq]
    omega
  · simp only [Bool.and_eq_true, Bool.or_eq_true, decide_eq_true_eq]
    omega
end RD2
