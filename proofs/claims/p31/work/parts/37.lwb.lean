/-! the law's words: cells of the script, low -/
theorem iLn9 : ((-9) : Int32) = iI (-9) := by decide
theorem iL11 : (11 : Int32) = iI 11 := by decide
theorem iL12 : (12 : Int32) = iI 12 := by decide
theorem iL13 : (13 : Int32) = iI 13 := by decide
theorem iL14 : (14 : Int32) = iI 14 := by decide
theorem iL17 : (17 : Int32) = iI 17 := by decide
theorem iL18 : (18 : Int32) = iI 18 := by decide
theorem iL19 : (19 : Int32) = iI 19 := by decide
theorem iL20 : (20 : Int32) = iI 20 := by decide
theorem iL41 : (41 : Int32) = iI 41 := by decide
theorem iL80 : (80 : Int32) = iI 80 := by decide
theorem iL81 : (81 : Int32) = iI 81 := by decide
theorem iL82 : (82 : Int32) = iI 82 := by decide
theorem iL83 : (83 : Int32) = iI 83 := by decide
theorem iL100 : (100 : Int32) = iI 100 := by decide
theorem iL201 : (201 : Int32) = iI 201 := by decide
theorem iL1000 : (1000 : Int32) = iI 1000 := by decide
theorem iL2001 : (2001 : Int32) = iI 2001 := by decide
theorem iL100000 : (100000 : Int32) = iI 100000 := by decide
theorem iL199999 : (199999 : Int32) = iI 199999 := by decide
theorem iL747796405 : (747796405 : Int32) = iI 747796405 := by decide
theorem iL2147483647 : (2147483647 : Int32) = iI 2147483647 := by decide
theorem ofN (n : Nat) : Int32.ofNat n = iI n := Int32.ofInt_eq_ofNat.symm
def lwz (x : Int32) (n : Int) : Int := (x &&& (2147483647 : Int32)).toInt % n
theorem lwz_in (x : Int32) {n : Int} (h : 1 ≤ n) : 0 ≤ lwz x n ∧ lwz x n < n := ⟨Int.emod_nonneg _ (by omega), Int.emod_lt_of_pos _ (by omega)⟩
theorem lw_and (x : Int32) : ∃ z : Int, x &&& (2147483647 : Int32) = iI z ∧ 0 ≤ z ∧ z < 2147483648 := by
  obtain ⟨j, hj, hx⟩ := pk_andE x (m := 2147483647) 31 (by decide)
  exact ⟨(j : Int), by rw [hx]; exact ofN j, by omega, by omega⟩
def cellz (Ls : Nat) (xs : Nat → Int32) (k : Nat) : Int32 := if Ls ≤ k then (747796405 : Int32) * (iI k + (1 : Int32)) else xs k
section LWB
variable {Ls : Nat} {xs : Nat → Int32} {P : qSem} {M : qMem} {Q : qPost}
theorem s_low (hG : qGood Ls xs P) {x : Int32} {n : Int} (h1 : 1 ≤ n) (h2 : n < 2147483648) (hQ : Q (some (.int (iI (lwz x n)))) M) : P 74 0 [(0, .int x), (1, .int (iI n))] [] M Q := by
  refine v_lw_low_0 hG ?_
  obtain ⟨z, hz, h3, h4⟩ := lw_and x
  have e : lwz x n = z % n := by
    unfold lwz
    rw [hz, iI_toInt (by omega) h4]
  rw [hz, iL0, iI_div h3 h4 (by omega) h2, iI_mul, iI_sub, iI_eq (by omega) h2 (by omega) (by omega)]
  refine ⟨by omega, ?_⟩
  rw [e, Int.emod_def, Int.mul_comm] at hQ
  exact hQ
theorem s_cell (hG : qGood Ls xs P) (hL : Ls ≤ 260) {k : Nat} (hk : k < 1000) (hQ : Q (some (.int (cellz Ls xs k))) M) : P 73 0 [(0, .ref 1000), (1, .int (iI k))] [] M Q := by
  refine v_lw_cell_0 hG ?_
  rw [ofN, iI_le (by omega) (by omega) (by omega) (by omega)]
  unfold cellz at hQ
  refine ⟨fun c => ?_, fun c => ?_⟩
  · rw [if_pos (by omega)] at hQ
    exact hQ
  · rw [if_neg (by omega)] at hQ
    refine ⟨(vp_iI (by omega) (by omega)).mpr ⟨by omega, by omega⟩, ?_⟩
    rw [iI_cl (by omega) (by omega), Int.toNat_natCast]
    exact hQ
end LWB
