/-! floors; the reference's reading methods -/
theorem fl_t {v b : Int} (hb : 0 < b) : (if v - v.tdiv b * b < 0 then v.tdiv b - 1 else v.tdiv b) = v / b := by
  have h1 : v - v.tdiv b * b = v.tmod b := by
    rw [Int.tmod_def, Int.mul_comm]
  have h2 := tmod_bounds (a := v) hb
  have h3 : b * v.tdiv b + v.tmod b = v := Int.mul_tdiv_add_tmod v b
  rw [h1]
  split
  · refine ((Int.ediv_emod_unique hb (r := v.tmod b + b) (q := v.tdiv b - 1)).mpr ⟨?_, by omega, by omega⟩).1.symm
    rw [Int.mul_sub, Int.mul_one]
    omega
  · refine ((Int.ediv_emod_unique hb (r := v.tmod b) (q := v.tdiv b)).mpr ⟨by omega, by omega, by omega⟩).1.symm
theorem fl_s {v b : Int} (hb : 0 < b) (hv : v < 0) : v - v.tdiv b * b ≤ 0 := by
  have h1 : v.tdiv b = -((-v) / b) := by
    have e := Int.neg_tdiv v b
    rw [Int.tdiv_eq_ediv_of_nonneg (by omega)] at e
    omega
  have h2 := Int.ediv_mul_le (-v) (b := b) (by omega)
  rw [h1, Int.neg_mul]
  omega
theorem l_xor {x y : Int64} (hy : 0 ≤ y.toInt) : 0 ≤ (x ^^^ y).toInt ↔ 0 ≤ x.toInt := by
  have h0 : ∀ z : Int64, 0 ≤ z.toInt ↔ z.toBitVec.msb = false := by
    intro z
    show 0 ≤ z.toBitVec.toInt ↔ _
    rw [BitVec.msb_eq_toInt]
    simp
  rw [h0] at hy
  rw [h0, h0, Int64.toBitVec_xor, BitVec.msb_xor, hy]
  simp
theorem mul_bd {A C : Nat} {a c : Int} (h1 : -(A : Int) ≤ a) (h2 : a ≤ A) (h3 : -(C : Int) ≤ c) (h4 : c ≤ C) : -((A * C : Nat) : Int) ≤ a * c ∧ a * c ≤ ((A * C : Nat) : Int) := by
  have h : (a * c).natAbs ≤ A * C := by
    rw [Int.natAbs_mul]
    exact Nat.mul_le_mul (by omega) (by omega)
  have h5 := Int.le_natAbs (a := a * c)
  have h6 := Int.le_natAbs (a := -(a * c))
  rw [Int.natAbs_neg] at h6
  have h7 : ((a * c).natAbs : Int) ≤ ((A * C : Nat) : Int) := Int.ofNat_le.mpr h
  omega
section MD1
variable {Ls : Nat} {xs : Nat → Int32} {P : qSem} {n : Nat} {f : Nat → Int} {M : qMem} {Q : qPost}
theorem s_floorDiv (hG : qGood Ls xs P) {v b : Int} (h1 : -9223372036854775808 ≤ v) (h2 : v < 9223372036854775808) (hb : 0 < b) (h4 : b < 9223372036854775808) (hQ : Q (some (.long (lI (v / b)))) M) : P 153 0 [(0, .long (lI v)), (2, .long (lI b))] [] M Q := by
  refine v_math_floorDiv_0 hG ?_
  have hf := fl_t (v := v) hb
  have hbd : -9223372036854775808 ≤ v.tdiv b * b ∧ v.tdiv b * b < 9223372036854775808 := by
    have h3 := tmod_bounds (a := v) hb
    have h5 : b * v.tdiv b + v.tmod b = v := Int.mul_tdiv_add_tmod v b
    rcases Int.lt_or_le v 0 with hv | hv
    · have h6 := fl_s hb hv
      rw [Int.mul_comm] at h5
      have h7 : v.tdiv b * b ≤ 0 := by
        have e := Int.neg_tdiv v b
        rw [Int.tdiv_eq_ediv_of_nonneg (by omega)] at e
        have e2 := Int.ediv_nonneg (a := -v) (b := b) (by omega) (by omega)
        have e3 : v.tdiv b ≤ 0 := by omega
        exact Int.mul_nonpos_of_nonpos_of_nonneg e3 (by omega)
      omega
    · rw [Int.tdiv_eq_ediv_of_nonneg hv]
      have h6 := Int.ediv_mul_le v (b := b) (by omega)
      have h7 := Int.mul_nonneg (Int.ediv_nonneg (a := v) (b := b) hv (by omega)) (Int.le_of_lt hb)
      omega
  rw [lL0, lL1, lI_tdiv h1 h2 (by omega) (by omega), lI_mul, lI_sub, lI_eq (by omega) (by omega) (by omega) (by omega)]
  refine ⟨by omega, fun c => ?_, fun c => ?_⟩
  · have hv : 0 ≤ v := by
      have c2 : 0 ≤ (lI v ^^^ lI b).toInt := by
        have e := lg_cmp_ge (lI v ^^^ lI b) (lI 0)
        have c3 := e.mp c
        rw [Int64.le_iff_toInt_le, lI_toInt (a := 0) (by omega) (by omega)] at c3
        exact c3
      rw [l_xor (by rw [lI_toInt (by omega) (by omega)]; omega), lI_toInt h1 h2] at c2
      exact c2
    rw [Int.tdiv_eq_ediv_of_nonneg hv]
    exact hQ
  · have hv : v < 0 := by
      rcases Int.lt_or_le v 0 with q | q
      · exact q
      · exfalso
        apply c
        rw [lg_cmp_ge, Int64.le_iff_toInt_le, lI_toInt (a := 0) (by omega) (by omega), l_xor (by rw [lI_toInt (by omega) (by omega)]; omega), lI_toInt h1 h2]
        exact q
    have h6 := fl_s hb hv
    rw [lg_cmpZ (by omega) (by omega) h1 h2]
    have hz : -1 ≤ cmpZ (v.tdiv b * b) v ∧ cmpZ (v.tdiv b * b) v ≤ 1 := by unfold cmpZ; split <;> (try split) <;> omega
    simp (disch := omega) only [iI_add, iI_sub, iI_mul, iI_neg, iI_lt, iI_le, iI_eq, iI_cl, vp_iI, Classical.not_not, iLn1000000005, iLn1000000004, iLn1000000003, iLn1000000002, iLn1000000001, iLn99999, iLn9999, iLn2, iLn1, iL0, iL1, iL2, iL3, iL4, iL5, iL6, iL7, iL8, iL9, iL10, iL15, iL16, iL31, iL32, iL40, iL42, iL45, iL48, iL57, iL59, iL63, iL64, iL65, iL120, iL126, iL455, iL520, iL9999, iL99999, iN2, iN8, iN64, iN65, iN120, iN130, iN520]
    refine ⟨fun c2 => q_l ?_ hQ, fun c2 => q_l ?_ hQ⟩
    · rw [← hf]
      unfold cmpZ at c2
      split at c2
      · omega
      · split at c2
        · rw [if_neg (by omega)]
        · omega
    · rw [← hf]
      have hne : v.tdiv b * b ≠ v := by
        intro e
        apply c2
        unfold cmpZ
        rw [if_neg (by omega), if_pos e]
      rw [if_pos (by omega)]
theorem s_md_floor (hG : qGood Ls xs P) {v b : Int} (h1 : -4611686018427387904 ≤ v) (h2 : v < 4611686018427387904) (hb : 0 < b) (h4 : b < 4611686018427387904) (hQ : Q (some (.long (lI (v / b)))) M) : P 95 0 [(0, .long (lI v)), (2, .long (lI b))] [] M Q := by
  refine v_md_floor_0 hG ?_
  have hf := fl_t (v := v) hb
  have h3 := tmod_bounds (a := v) hb
  have h5 : v - v.tdiv b * b = v.tmod b := by rw [Int.tmod_def, Int.mul_comm]
  rw [lL0, lL1, lI_tdiv (by omega) (by omega) (by omega) (by omega), lI_mul, lI_sub, lI_sub, lI_eq (by omega) (by omega) (by omega) (by omega), lg_cmpZ (by omega) (by omega) (by omega) (by omega)]
  have hz : -1 ≤ cmpZ (v - v.tdiv b * b) 0 ∧ cmpZ (v - v.tdiv b * b) 0 ≤ 1 := by unfold cmpZ; split <;> (try split) <;> omega
  simp (disch := omega) only [iI_add, iI_sub, iI_mul, iI_neg, iI_lt, iI_le, iI_eq, iI_cl, vp_iI, Classical.not_not, iLn1000000005, iLn1000000004, iLn1000000003, iLn1000000002, iLn1000000001, iLn99999, iLn9999, iLn2, iLn1, iL0, iL1, iL2, iL3, iL4, iL5, iL6, iL7, iL8, iL9, iL10, iL15, iL16, iL31, iL32, iL40, iL42, iL45, iL48, iL57, iL59, iL63, iL64, iL65, iL120, iL126, iL455, iL520, iL9999, iL99999, iN2, iN8, iN64, iN65, iN120, iN130, iN520]
  refine ⟨by omega, by omega, fun c => q_l ?_ hQ, fun c => q_l ?_ hQ⟩
  · rw [← hf]
    unfold cmpZ at c
    split at c
    · rw [if_neg (by omega)]
    · split at c
      · rw [if_neg (by omega)]
      · omega
  · rw [← hf]
    unfold cmpZ at c
    split at c
    · omega
    · split at c
      · omega
      · rw [if_pos (by omega)]
def mX (M : qMem) (n : Nat) (f : Nat → Int) : Prop := M.1 37 64 = iI n ∧ n ≤ 64 ∧ ∀ j, j < n → M.1 37 j = iI (f j) ∧ okv (f j)
theorem mX.ok (h : mX M n f) : ∀ j, j < n → okv (f j) := fun j hj => (h.2.2 j hj).2
theorem mX.eqv {g : Nat → Int} (h : mX M n f) (hg : ∀ j, j < n → g j = f j) : mX M n g := ⟨h.1, h.2.1, fun j hj => by rw [hg j hj]; exact h.2.2 j hj⟩
theorem mX.fm {M' : qMem} (h : mX M n f) (hF : M'.1 37 = M.1 37) : mX M' n f := by
  unfold mX
  rw [hF]
  exact h
theorem s_md_isIn (hG : qGood Ls xs P) {v a b : Int} (h1 : -2147483648 ≤ v) (h2 : v < 2147483648) (h3 : -2147483648 ≤ a) (h4 : a < 2147483648) (h5 : -2147483648 ≤ b) (h6 : b < 2147483648) (hQ : Q (some (.int (iI (bZ (a ≤ v ∧ v ≤ b))))) M) : P 89 0 [(0, .int (iI v)), (1, .int (iI a)), (2, .int (iI b))] [] M Q := by
  refine v_md_isIn_0 hG ?_
  simp (disch := omega) only [iI_add, iI_sub, iI_mul, iI_neg, iI_lt, iI_le, iI_eq, iI_cl, vp_iI, Classical.not_not, iLn1000000005, iLn1000000004, iLn1000000003, iLn1000000002, iLn1000000001, iLn99999, iLn9999, iLn2, iLn1, iL0, iL1, iL2, iL3, iL4, iL5, iL6, iL7, iL8, iL9, iL10, iL15, iL16, iL31, iL32, iL40, iL42, iL45, iL48, iL57, iL59, iL63, iL64, iL65, iL120, iL126, iL455, iL520, iL9999, iL99999, iN2, iN8, iN64, iN65, iN120, iN130, iN520]
  exact ⟨fun c => q_b hQ (bZ_f (by omega)), fun c => ⟨fun c2 => q_b hQ (bZ_f (by omega)), fun c2 => q_b hQ (bZ_t (by omega))⟩⟩
theorem s_md_many (hG : qGood Ls xs P) (hX : mX M n f) (hQ : Q (some (.int (iI n))) M) : P 90 0 [(0, .ref 36)] [] M Q := by
  refine v_md_many_0 hG ?_
  simp (disch := omega) only [iI_add, iI_sub, iI_mul, iI_neg, iI_lt, iI_le, iI_eq, iI_cl, vp_iI, Classical.not_not, iLn1000000005, iLn1000000004, iLn1000000003, iLn1000000002, iLn1000000001, iLn99999, iLn9999, iLn2, iLn1, iL0, iL1, iL2, iL3, iL4, iL5, iL6, iL7, iL8, iL9, iL10, iL15, iL16, iL31, iL32, iL40, iL42, iL45, iL48, iL57, iL59, iL63, iL64, iL65, iL120, iL126, iL455, iL520, iL9999, iL99999, iN2, iN8, iN64, iN65, iN120, iN130, iN520]
  refine ⟨by omega, ?_⟩
  rw [show (64 : Int).toNat = 64 from rfl, hX.1]
  exact hQ
theorem s_md_isReading (hG : qGood Ls xs P) {i : Int} (hX : mX M n f) (h1 : -2147483648 ≤ i) (h2 : i < 2147483648) (hQ : Q (some (.int (iI (bZ (0 ≤ i ∧ i < n))))) M) : P 91 0 [(0, .ref 36), (1, .int (iI i))] [] M Q := by
  have hn := hX.2.1
  refine v_md_isReading_0 hG ?_
  refine s_md_many hG hX ?_
  refine v_md_isReading_4 hG ?_
  simp (disch := omega) only [iI_add, iI_sub, iI_mul, iI_neg, iI_lt, iI_le, iI_eq, iI_cl, vp_iI, Classical.not_not, iLn1000000005, iLn1000000004, iLn1000000003, iLn1000000002, iLn1000000001, iLn99999, iLn9999, iLn2, iLn1, iL0, iL1, iL2, iL3, iL4, iL5, iL6, iL7, iL8, iL9, iL10, iL15, iL16, iL31, iL32, iL40, iL42, iL45, iL48, iL57, iL59, iL63, iL64, iL65, iL120, iL126, iL455, iL520, iL9999, iL99999, iN2, iN8, iN64, iN65, iN120, iN130, iN520]
  refine s_md_isIn hG h1 h2 (by omega) (by omega) (by omega) (by omega) ?_
  refine v_md_isReading_7 hG ⟨bZ_n _, q_i ?_ hQ⟩
  unfold bZ
  split <;> split <;> omega
theorem s_md_isThere (hG : qGood Ls xs P) {i : Int} (hX : mX M n f) (h1 : -2147483648 ≤ i) (h2 : i < 2147483648) (hQ : Q (some (.int (iI (bZ (vl n f i ≠ (-1000000001)))))) M) : P 92 0 [(0, .ref 36), (1, .int (iI i))] [] M Q := by
  have hn := hX.2.1
  refine v_md_isThere_0 hG ?_
  refine s_md_isReading hG hX h1 h2 ?_
  refine v_md_isThere_3 hG ?_
  have hz := bZ_in (0 ≤ i ∧ i < n)
  simp (disch := omega) only [iI_add, iI_sub, iI_mul, iI_neg, iI_lt, iI_le, iI_eq, iI_cl, vp_iI, Classical.not_not, iLn1000000005, iLn1000000004, iLn1000000003, iLn1000000002, iLn1000000001, iLn99999, iLn9999, iLn2, iLn1, iL0, iL1, iL2, iL3, iL4, iL5, iL6, iL7, iL8, iL9, iL10, iL15, iL16, iL31, iL32, iL40, iL42, iL45, iL48, iL57, iL59, iL63, iL64, iL65, iL120, iL126, iL455, iL520, iL9999, iL99999, iN2, iN8, iN64, iN65, iN120, iN130, iN520, bZ_0]
  refine ⟨fun c => q_b hQ (bZ_f ?_), fun c => ⟨by omega, ?_⟩⟩
  · unfold vl
    rw [if_neg c]
    exact fun z => z rfl
  · have hv := (hX.2.2 i.toNat (by omega)).2
    unfold okv at hv
    rw [(hX.2.2 i.toNat (by omega)).1]
    unfold vl at hQ
    rw [if_pos c] at hQ
    simp (disch := omega) only [iI_add, iI_sub, iI_mul, iI_neg, iI_lt, iI_le, iI_eq, iI_cl, vp_iI, Classical.not_not, iLn1000000005, iLn1000000004, iLn1000000003, iLn1000000002, iLn1000000001, iLn99999, iLn9999, iLn2, iLn1, iL0, iL1, iL2, iL3, iL4, iL5, iL6, iL7, iL8, iL9, iL10, iL15, iL16, iL31, iL32, iL40, iL42, iL45, iL48, iL57, iL59, iL63, iL64, iL65, iL120, iL126, iL455, iL520, iL9999, iL99999, iN2, iN8, iN64, iN65, iN120, iN130, iN520]
    exact ⟨fun c2 => q_b hQ (bZ_f (fun z => z c2)), fun c2 => q_b hQ (bZ_t c2)⟩
theorem s_md_isPhase (hG : qGood Ls xs P) {v : Int} (h1 : -9223372036854775808 ≤ v) (h2 : v < 9223372036854775808) (hQ : Q (some (.int (iI (bZ (-99999 ≤ v ∧ v ≤ 99999))))) M) : P 94 0 [(0, .long (lI v))] [] M Q := by
  refine v_md_isPhase_0 hG ?_
  rw [show (-99999 : Int64) = lI (-99999) by decide, show (99999 : Int64) = lI 99999 by decide, lg_cmpZ h1 h2 (by omega) (by omega), lg_cmpZ h1 h2 (by omega) (by omega)]
  have hz : -1 ≤ cmpZ v (-99999) ∧ cmpZ v (-99999) ≤ 1 := by unfold cmpZ; split <;> (try split) <;> omega
  have hz2 : -1 ≤ cmpZ v 99999 ∧ cmpZ v 99999 ≤ 1 := by unfold cmpZ; split <;> (try split) <;> omega
  simp (disch := omega) only [iI_add, iI_sub, iI_mul, iI_neg, iI_lt, iI_le, iI_eq, iI_cl, vp_iI, Classical.not_not, iLn1000000005, iLn1000000004, iLn1000000003, iLn1000000002, iLn1000000001, iLn99999, iLn9999, iLn2, iLn1, iL0, iL1, iL2, iL3, iL4, iL5, iL6, iL7, iL8, iL9, iL10, iL15, iL16, iL31, iL32, iL40, iL42, iL45, iL48, iL57, iL59, iL63, iL64, iL65, iL120, iL126, iL455, iL520, iL9999, iL99999, iN2, iN8, iN64, iN65, iN120, iN130, iN520]
  refine ⟨fun c => q_b hQ (bZ_f ?_), fun c => ⟨fun c2 => q_b hQ (bZ_f ?_), fun c2 => q_b hQ (bZ_t ?_)⟩⟩
  · unfold cmpZ at c
    split at c <;> (try split at c) <;> omega
  · unfold cmpZ at c2
    split at c2 <;> (try split at c2) <;> omega
  · unfold cmpZ at c c2
    split at c <;> split at c2 <;> (try split at c) <;> (try split at c2) <;> omega
theorem vl_at (hX : mX M n f) {i : Int} (h1 : 0 ≤ i) (h2 : i < n) : M.1 37 i.toNat = iI (vl n f i) := by
  rw [(hX.2.2 i.toNat (by omega)).1]
  unfold vl
  rw [if_pos ⟨h1, h2⟩]
theorem s_md_onLine (hG : qGood Ls xs P) {i j t : Int} (hX : mX M n f) (h1 : 0 ≤ i) (h2 : i < j) (h3 : j < n) (h4 : 0 ≤ t) (h5 : t ≤ 64) (hi : vl n f i ≠ (-1000000001)) (hj : vl n f j ≠ (-1000000001)) (hQ : Q (some (.long (lI (lnz n f i j t)))) M) : P 101 0 [(0, .ref 36), (1, .int (iI i)), (2, .int (iI j)), (3, .int (iI t))] [] M Q := by
  have hn := hX.2.1
  have o1 := vl_ok hX.ok i
  have o2 := vl_ok hX.ok j
  unfold okv at o1 o2
  refine v_md_onLine_0 hG ?_
  simp (disch := omega) only [iI_add, iI_sub, iI_mul, iI_neg, iI_lt, iI_le, iI_eq, iI_cl, vp_iI, Classical.not_not, iLn1000000005, iLn1000000004, iLn1000000003, iLn1000000002, iLn1000000001, iLn99999, iLn9999, iLn2, iLn1, iL0, iL1, iL2, iL3, iL4, iL5, iL6, iL7, iL8, iL9, iL10, iL15, iL16, iL31, iL32, iL40, iL42, iL45, iL48, iL57, iL59, iL63, iL64, iL65, iL120, iL126, iL455, iL520, iL9999, iL99999, iN2, iN8, iN64, iN65, iN120, iN130, iN520]
  refine ⟨by omega, by omega, by omega, ?_⟩
  rw [vl_at hX (by omega) h3, vl_at hX h1 (by omega), iI_sub, i2l (by omega) (by omega), i2l (by omega) (by omega), i2l (by omega) (by omega), i2l (by omega) (by omega), lI_mul]
  have hm := mul_bd (A := 199998) (C := 64) (a := vl n f j - vl n f i) (c := t - i) (by omega) (by omega) (by omega) (by omega)
  refine s_md_floor hG (by omega) (by omega) (by omega) (by omega) ?_
  refine v_md_onLine_27 hG ?_
  rw [lI_add]
  exact hQ
theorem s_md_exists2 (hG : qGood Ls xs P) {m i : Int} (hX : mX M n f) (h1 : 0 ≤ m) (h2 : m ≤ 100) (h3 : 0 ≤ i) (h4 : i ≤ 200) (hQ : Q (some (.int (iI (bZ (sec n f m i ≠ (-1000000001)))))) M) : P 120 0 [(0, .ref 36), (1, .int (iI m)), (2, .int (iI i))] [] M Q := by
  have o1 := vl_ok hX.ok i
  have o2 := vl_ok hX.ok (i + m)
  have o3 := vl_ok hX.ok (i + 2 * m)
  unfold okv at o1 o2 o3
  refine v_md_exists2_0 hG ?_
  refine s_md_isThere hG hX (by omega) (by omega) ?_
  refine v_md_exists2_3 hG ?_
  have z1 := bZ_in (vl n f i ≠ (-1000000001))
  simp (disch := omega) only [iI_add, iI_sub, iI_mul, iI_neg, iI_lt, iI_le, iI_eq, iI_cl, vp_iI, Classical.not_not, iLn1000000005, iLn1000000004, iLn1000000003, iLn1000000002, iLn1000000001, iLn99999, iLn9999, iLn2, iLn1, iL0, iL1, iL2, iL3, iL4, iL5, iL6, iL7, iL8, iL9, iL10, iL15, iL16, iL31, iL32, iL40, iL42, iL45, iL48, iL57, iL59, iL63, iL64, iL65, iL120, iL126, iL455, iL520, iL9999, iL99999, iN2, iN8, iN64, iN65, iN120, iN130, iN520, bZ_0]
  refine ⟨fun c => q_b hQ (bZ_f ?_), fun c => ?_⟩
  · unfold sec
    rw [if_pos (Or.inl c)]
    exact fun z => z rfl
  refine s_md_isThere hG hX (by omega) (by omega) ?_
  refine v_md_exists2_9 hG ?_
  have z2 := bZ_in (vl n f (i + m) ≠ (-1000000001))
  simp (disch := omega) only [iI_add, iI_sub, iI_mul, iI_neg, iI_lt, iI_le, iI_eq, iI_cl, vp_iI, Classical.not_not, iLn1000000005, iLn1000000004, iLn1000000003, iLn1000000002, iLn1000000001, iLn99999, iLn9999, iLn2, iLn1, iL0, iL1, iL2, iL3, iL4, iL5, iL6, iL7, iL8, iL9, iL10, iL15, iL16, iL31, iL32, iL40, iL42, iL45, iL48, iL57, iL59, iL63, iL64, iL65, iL120, iL126, iL455, iL520, iL9999, iL99999, iN2, iN8, iN64, iN65, iN120, iN130, iN520, bZ_0]
  refine ⟨fun c2 => q_b hQ (bZ_f ?_), fun c2 => ?_⟩
  · unfold sec
    rw [if_pos (Or.inr (Or.inl c2))]
    exact fun z => z rfl
  refine s_md_isThere hG hX (by omega) (by omega) ?_
  refine v_md_exists2_17 hG ?_
  have z3 := bZ_in (vl n f (i + 2 * m) ≠ (-1000000001))
  simp (disch := omega) only [iI_add, iI_sub, iI_mul, iI_neg, iI_lt, iI_le, iI_eq, iI_cl, vp_iI, Classical.not_not, iLn1000000005, iLn1000000004, iLn1000000003, iLn1000000002, iLn1000000001, iLn99999, iLn9999, iLn2, iLn1, iL0, iL1, iL2, iL3, iL4, iL5, iL6, iL7, iL8, iL9, iL10, iL15, iL16, iL31, iL32, iL40, iL42, iL45, iL48, iL57, iL59, iL63, iL64, iL65, iL120, iL126, iL455, iL520, iL9999, iL99999, iN2, iN8, iN64, iN65, iN120, iN130, iN520, bZ_0]
  refine ⟨fun c3 => q_b hQ (bZ_f ?_), fun c3 => q_b hQ (bZ_t ?_)⟩
  · unfold sec
    rw [if_pos (Or.inr (Or.inr c3))]
    exact fun z => z rfl
  · unfold sec
    rw [if_neg (by omega)]
    omega
theorem sec_r {m i : Int} (h : sec n f m i ≠ (-1000000001)) : (vl n f i ≠ (-1000000001) ∧ vl n f (i + m) ≠ (-1000000001) ∧ vl n f (i + 2 * m) ≠ (-1000000001)) ∧ sec n f m i = vl n f (i + 2 * m) - 2 * vl n f (i + m) + vl n f i := by
  unfold sec at h ⊢
  split
  · rename_i c
    rw [if_pos c] at h
    exact absurd rfl h
  · rename_i c
    exact ⟨by omega, rfl⟩
theorem vl_lt {i : Int} (h : vl n f i ≠ (-1000000001)) : 0 ≤ i ∧ i < n := by
  unfold vl at h
  split at h
  · rename_i c; exact c
  · exact absurd rfl h
theorem s_md_second (hG : qGood Ls xs P) {m i : Int} (hX : mX M n f) (h1 : 0 ≤ m) (h2 : m ≤ 100) (h3 : 0 ≤ i) (h4 : i ≤ 200) (he : sec n f m i ≠ (-1000000001)) (hQ : Q (some (.int (iI (sec n f m i)))) M) : P 121 0 [(0, .ref 36), (1, .int (iI m)), (2, .int (iI i))] [] M Q := by
  have hn := hX.2.1
  obtain ⟨⟨e1, e2, e3⟩, e4⟩ := sec_r he
  have l1 := vl_lt e1
  have l2 := vl_lt e2
  have l3 := vl_lt e3
  refine v_md_second_0 hG ?_
  simp (disch := omega) only [iI_add, iI_sub, iI_mul, iI_neg, iI_lt, iI_le, iI_eq, iI_cl, vp_iI, Classical.not_not, iLn1000000005, iLn1000000004, iLn1000000003, iLn1000000002, iLn1000000001, iLn99999, iLn9999, iLn2, iLn1, iL0, iL1, iL2, iL3, iL4, iL5, iL6, iL7, iL8, iL9, iL10, iL15, iL16, iL31, iL32, iL40, iL42, iL45, iL48, iL57, iL59, iL63, iL64, iL65, iL120, iL126, iL455, iL520, iL9999, iL99999, iN2, iN8, iN64, iN65, iN120, iN130, iN520]
  rw [vl_at hX l1.1 l1.2, vl_at hX l2.1 l2.2, vl_at hX l3.1 l3.2]
  simp (disch := omega) only [iI_add, iI_sub, iI_mul, iI_neg, iI_lt, iI_le, iI_eq, iI_cl, vp_iI, Classical.not_not, iLn1000000005, iLn1000000004, iLn1000000003, iLn1000000002, iLn1000000001, iLn99999, iLn9999, iLn2, iLn1, iL0, iL1, iL2, iL3, iL4, iL5, iL6, iL7, iL8, iL9, iL10, iL15, iL16, iL31, iL32, iL40, iL42, iL45, iL48, iL57, iL59, iL63, iL64, iL65, iL120, iL126, iL455, iL520, iL9999, iL99999, iN2, iN8, iN64, iN65, iN120, iN130, iN520]
  rw [e4] at hQ
  exact ⟨by omega, by omega, by omega, hQ⟩
end MD1
