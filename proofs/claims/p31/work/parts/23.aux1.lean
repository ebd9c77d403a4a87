/-! floors; the reference's reading methods -/
theorem fl_t {v b : Int} (hb : 0 < b) : (if v - v.tdiv b * b < 0 then v.tdiv b - 1 else v.tdiv b) = v / b := by
  have h1 : v - v.tdiv b * b = v.tmod b := by
    rw [Int.tmod_def, Int.mul_comm]
  have h2 := tmod_bounds (a := v) hb
  have h3 : b * v.tdiv b + v.tmod b = v := Int.mul_tdiv_add_tmod v b
  rw [h1]
  split
  · refine ((Int.ediv_emod_unique hb (r := v.tmod b + b) (q := v.tdiv b - 1)).mpr ⟨?_, by omega, by omega⟩).1.symm
    rw [Int.mul_sub, Int.mul_one]
    omega
  · refine ((Int.ediv_emod_unique hb (r := v.tmod b) (q := v.tdiv b)).mpr ⟨by omega, by omega, by omega⟩).1.symm
theorem fl_s {v b : Int} (hb : 0 < b) (hv : v < 0) : v - v.tdiv b * b ≤ 0 := by
  have h1 : v.tdiv b = -((-v) / b) := by
    have e := Int.neg_tdiv v b
    rw [Int.tdiv_eq_ediv_of_nonneg (by omega)] at e
    omega
  have h2 := Int.ediv_mul_le (-v) (b := b) (by omega)
  rw [h1, Int.neg_mul]
  omega
theorem l_xor {x y : Int64} (hy : 0 ≤ y.toInt) : 0 ≤ (x ^^^ y).toInt ↔ 0 ≤ x.toInt := by
  have h0 : ∀ z : Int64, 0 ≤ z.toInt ↔ z.toBitVec.msb = false := by
    intro z
    show 0 ≤ z.toBitVec.toInt ↔ _
    rw [BitVec.msb_eq_toInt]
    simp
  rw [h0] at hy
  rw [h0, h0, Int64.toBitVec_xor, BitVec.msb_xor, hy]
  simp
theorem mul_bd {A C : Nat} {a c : Int} (h1 : -(A : Int) ≤ a) (h2 : a ≤ A) (h3 : -(C : Int) ≤ c) (h4 : c ≤ C) : -((A * C : Nat) : Int) ≤ a * c ∧ a * c ≤ ((A * C : Nat) : Int) := by
  have h : (a * c).natAbs ≤ A * C := by
    rw [Int.natAbs_mul]
    exact Nat.mul_le_mul (by omega) (by omega)
  have h5 := Int.le_natAbs (a := a * c)
  have h6 := Int.le_natAbs (a := -(a * c))
  rw [Int.natAbs_neg] at h6
  have h7 : ((a * c).natAbs : Int) ≤ ((A * C : Nat) : Int) := Int.ofNat_le.mpr h
  omega
section MD1
variable {Ls : Nat} {xs : Nat → Int32} {P : qSem} {n : Nat} {f : Nat → Int} {M : qMem} {Q : qPost}
theorem s_floorDiv (hG : qGood Ls xs P) {v b : Int} (h1 : -9223372036854775808 ≤ v) (h2 : v < 9223372036854775808) (hb : 0 < b) (h4 : b < 9223372036854775808) (hQ : Q (some (.long (lI (v / b)))) M) : P 71 0 [(0, .long (lI v)), (2, .long (lI b))] [] M Q := by
  refine v_math_floorDiv_0 hG ?_
  have hf := fl_t (v := v) hb
  have hbd : -9223372036854775808 ≤ v.tdiv b * b ∧ v.tdiv b * b < 9223372036854775808 := by
    have h3 := tmod_bounds (a := v) hb
    have h5 : b * v.tdiv b + v.tmod b = v := Int.mul_tdiv_add_tmod v b
    rcases Int.lt_or_le v 0 with hv | hv
    · have h6 := fl_s hb hv
      rw [Int.mul_comm] at h5
      have h7 : v.tdiv b * b ≤ 0 := by
        have e := Int.neg_tdiv v b
        rw [Int.tdiv_eq_ediv_of_nonneg (by omega)] at e
        have e2 := Int.ediv_nonneg (a := -v) (b := b) (by omega) (by omega)
        have e3 : v.tdiv b ≤ 0 := by omega
        exact Int.mul_nonpos_of_nonpos_of_nonneg e3 (by omega)
      omega
    · rw [Int.tdiv_eq_ediv_of_nonneg hv]
      have h6 := Int.ediv_mul_le v (b := b) (by omega)
      have h7 := Int.mul_nonneg (Int.ediv_nonneg (a := v) (b := b) hv (by omega)) (Int.le_of_lt hb)
      omega
  rw [lL0, lL1, lI_tdiv h1 h2 (by omega) (by omega), lI_mul, lI_sub, lI_eq (by omega) (by omega) (by omega) (by omega)]
  refine ⟨by omega, fun c => ?_, fun c => ?_⟩
  · have hv : 0 ≤ v := by
      have c2 : 0 ≤ (lI v ^^^ lI b).toInt := by
        have e := lg_cmp_ge (lI v ^^^ lI b) (lI 0)
        have c3 := e.mp c
        rw [Int64.le_iff_toInt_le, lI_toInt (a := 0) (by omega) (by omega)] at c3
        exact c3
      rw [l_xor (by rw [lI_toInt (by omega) (by omega)]; omega), lI_toInt h1 h2] at c2
      exact c2
    rw [Int.tdiv_eq_ediv_of_nonneg hv]
    exact hQ
  · have hv : v < 0 := by
      rcases Int.lt_or_le v 0 with q | q
      · exact q
      · exfalso
        apply c
        rw [lg_cmp_ge, Int64.le_iff_toInt_le, lI_toInt (a := 0) (by omega) (by omega), l_xor (by rw [lI_toInt (by omega) (by omega)]; omega), lI_toInt h1 h2]
        exact q
    have h6 := fl_s hb hv
    rw [lg_cmpZ (by omega) (by omega) h1 h2]
    have hz : -1 ≤ cmpZ (v.tdiv b * b) v ∧ cmpZ (v.tdiv b * b) v ≤ 1 := by unfold cmpZ; split <;> (try split) <;> omega
    simp (disch := omega) only [iI_add, iI_sub, iI_mul, iI_neg, iI_lt, iI_le, iI_eq, iI_cl, vp_iI, Classical.not_not, iLn1000000005, iLn1000000004, iLn1000000003, iLn1000000002, iLn1000000001, iLn99999, iLn9999, iLn2, iLn1, iL0, iL1, iL2, iL3, iL4, iL5, iL6, iL7, iL8, iL9, iL10, iL15, iL16, iL31, iL32, iL40, iL42, iL45, iL48, iL57, iL59, iL63, iL64, iL65, iL120, iL126, iL455, iL520, iL9999, iL99999, iN2, iN8, iN64, iN65, iN120, iN130, iN520]
    refine ⟨fun c2 => q_l ?_ hQ, fun c2 => q_l ?_ hQ⟩
    · rw [← hf]
      unfold cmpZ at c2
      split at c2
      · omega
      · split at c2
        · rw [if_neg (by omega)]
        · omega
    · rw [← hf]
      have hne : v.tdiv b * b ≠ v := by
        intro e
        apply c2
        unfold cmpZ
        rw [if_neg (by omega), if_pos e]
      rw [if_pos (by omega)]
theorem sec_r {m i : Int} (h : sec n f m i ≠ (-1000000001)) : (vl n f i ≠ (-1000000001) ∧ vl n f (i + m) ≠ (-1000000001) ∧ vl n f (i + 2 * m) ≠ (-1000000001)) ∧ sec n f m i = vl n f (i + 2 * m) - 2 * vl n f (i + m) + vl n f i := by
  unfold sec at h ⊢
  split
  · rename_i c
    rw [if_pos c] at h
    exact absurd rfl h
  · rename_i c
    exact ⟨by omega, rfl⟩
theorem vl_lt {i : Int} (h : vl n f i ≠ (-1000000001)) : 0 ≤ i ∧ i < n := by
  unfold vl at h
  split at h
  · rename_i c; exact c
  · exact absurd rfl h
end MD1
