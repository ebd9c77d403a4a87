/-! pure words: 32 and 64 bits by integers -/
def iI (z : Int) : Int32 := Int32.ofInt z
def lI (z : Int) : Int64 := Int64.ofInt z
theorem iI_add (a b : Int) : iI a + iI b = iI (a + b) := (Int32.ofInt_add a b).symm
theorem iI_sub (a b : Int) : iI a - iI b = iI (a - b) := (Int32.ofInt_sub a b).symm
theorem iI_mul (a b : Int) : iI a * iI b = iI (a * b) := (Int32.ofInt_mul a b).symm
theorem iI_neg (a : Int) : -iI a = iI (-a) := (Int32.ofInt_neg a).symm
theorem iI_toInt {a : Int} (h1 : -2147483648 ≤ a) (h2 : a < 2147483648) : (iI a).toInt = a := Int32.toInt_ofInt_of_le (by simpa using h1) (by simpa using h2)
theorem iI_lt {a b : Int} (h1 : -2147483648 ≤ a) (h2 : a < 2147483648) (h3 : -2147483648 ≤ b) (h4 : b < 2147483648) : (iI a < iI b) ↔ a < b := by
  rw [Int32.lt_iff_toInt_lt, iI_toInt h1 h2, iI_toInt h3 h4]
theorem iI_le {a b : Int} (h1 : -2147483648 ≤ a) (h2 : a < 2147483648) (h3 : -2147483648 ≤ b) (h4 : b < 2147483648) : (iI a ≤ iI b) ↔ a ≤ b := by
  rw [Int32.le_iff_toInt_le, iI_toInt h1 h2, iI_toInt h3 h4]
theorem iI_eq {a b : Int} (h1 : -2147483648 ≤ a) (h2 : a < 2147483648) (h3 : -2147483648 ≤ b) (h4 : b < 2147483648) : (iI a = iI b) ↔ a = b := by
  rw [← Int32.toInt_inj, iI_toInt h1 h2, iI_toInt h3 h4]
theorem iI_cl {a : Int} (h1 : -2147483648 ≤ a) (h2 : a < 2147483648) : (iI a).toNatClampNeg = a.toNat := Int32.toNatClampNeg_ofInt_of_le (by simpa using h1) (by simpa using h2)
theorem vp_iI {a : Int} {n : Nat} (h1 : -2147483648 ≤ a) (h2 : a < 2147483648) : vp_in (iI a) n ↔ 0 ≤ a ∧ a < n := by
  rw [vp_in_iff, iI_toInt h1 h2]
theorem iI_of (x : Int32) : ∃ z : Int, x = iI z ∧ -2147483648 ≤ z ∧ z < 2147483648 := ⟨x.toInt, (Int32.ofInt_toInt x).symm, by simpa using Int32.le_toInt x, by simpa using Int32.toInt_lt x⟩
theorem iI_div {a b : Int} (h1 : 0 ≤ a) (h2 : a < 2147483648) (h3 : 0 < b) (h4 : b < 2147483648) : iI a / iI b = iI (a / b) := by
  show Int32.ofInt a / Int32.ofInt b = Int32.ofInt (a / b)
  rw [← Int32.ofInt_tdiv (by show (-2147483648 : Int) ≤ a; omega) (by show a ≤ (2147483647 : Int); omega) (by show (-2147483648 : Int) ≤ b; omega) (by show b ≤ (2147483647 : Int); omega), Int.tdiv_eq_ediv_of_nonneg h1]
theorem lI_add (a b : Int) : lI a + lI b = lI (a + b) := (Int64.ofInt_add a b).symm
theorem lI_sub (a b : Int) : lI a - lI b = lI (a - b) := (Int64.ofInt_sub a b).symm
theorem lI_mul (a b : Int) : lI a * lI b = lI (a * b) := (Int64.ofInt_mul a b).symm
theorem lI_neg (a : Int) : -lI a = lI (-a) := (Int64.ofInt_neg a).symm
theorem lI_toInt {a : Int} (h1 : -9223372036854775808 ≤ a) (h2 : a < 9223372036854775808) : (lI a).toInt = a := Int64.toInt_ofInt_of_le (by simpa using h1) (by simpa using h2)
theorem lI_eq {a b : Int} (h1 : -9223372036854775808 ≤ a) (h2 : a < 9223372036854775808) (h3 : -9223372036854775808 ≤ b) (h4 : b < 9223372036854775808) : (lI a = lI b) ↔ a = b := by
  rw [← Int64.toInt_inj, lI_toInt h1 h2, lI_toInt h3 h4]
theorem lI_tdiv {a b : Int} (h1 : -9223372036854775808 ≤ a) (h2 : a < 9223372036854775808) (h3 : -9223372036854775808 ≤ b) (h4 : b < 9223372036854775808) : lI a / lI b = lI (a.tdiv b) := by
  show Int64.ofInt a / Int64.ofInt b = Int64.ofInt (a.tdiv b)
  rw [← Int64.ofInt_tdiv (by show (-9223372036854775808 : Int) ≤ a; omega) (by show a ≤ (9223372036854775807 : Int); omega) (by show (-9223372036854775808 : Int) ≤ b; omega) (by show b ≤ (9223372036854775807 : Int); omega)]
theorem i2l {a : Int} (h1 : -2147483648 ≤ a) (h2 : a < 2147483648) : (iI a).toInt64 = lI a := Int32.toInt64_ofInt (by show (-2147483648 : Int) ≤ a; omega) (by show a ≤ (2147483647 : Int); omega)
theorem l2i (a : Int) : (lI a).toInt32 = iI a := Int64.toInt32_ofInt
def cmpZ (a b : Int) : Int := if b < a then 1 else if a = b then 0 else -1
theorem lg_cmpZ {a b : Int} (h1 : -9223372036854775808 ≤ a) (h2 : a < 9223372036854775808) (h3 : -9223372036854775808 ≤ b) (h4 : b < 9223372036854775808) : lg_cmp (lI a) (lI b) = iI (cmpZ a b) := by
  unfold lg_cmp cmpZ
  have e1 : (lI a > lI b) ↔ b < a := by
    show lI b < lI a ↔ _
    rw [Int64.lt_iff_toInt_lt, lI_toInt h1 h2, lI_toInt h3 h4]
  simp only [e1, lI_eq h1 h2 h3 h4]
  split
  · rfl
  · split <;> rfl
theorem iLn1000000005 : ((-1000000005) : Int32) = iI (-1000000005) := by decide
theorem iLn1000000004 : ((-1000000004) : Int32) = iI (-1000000004) := by decide
theorem iLn1000000003 : ((-1000000003) : Int32) = iI (-1000000003) := by decide
theorem iLn1000000002 : ((-1000000002) : Int32) = iI (-1000000002) := by decide
theorem iLn1000000001 : ((-1000000001) : Int32) = iI (-1000000001) := by decide
theorem iLn99999 : ((-99999) : Int32) = iI (-99999) := by decide
theorem iLn9999 : ((-9999) : Int32) = iI (-9999) := by decide
theorem iLn2 : ((-2) : Int32) = iI (-2) := by decide
theorem iLn1 : ((-1) : Int32) = iI (-1) := by decide
theorem iL0 : (0 : Int32) = iI 0 := by decide
theorem iL1 : (1 : Int32) = iI 1 := by decide
theorem iL2 : (2 : Int32) = iI 2 := by decide
theorem iL3 : (3 : Int32) = iI 3 := by decide
theorem iL4 : (4 : Int32) = iI 4 := by decide
theorem iL5 : (5 : Int32) = iI 5 := by decide
theorem iL6 : (6 : Int32) = iI 6 := by decide
theorem iL7 : (7 : Int32) = iI 7 := by decide
theorem iL8 : (8 : Int32) = iI 8 := by decide
theorem iL9 : (9 : Int32) = iI 9 := by decide
theorem iL10 : (10 : Int32) = iI 10 := by decide
theorem iL15 : (15 : Int32) = iI 15 := by decide
theorem iL16 : (16 : Int32) = iI 16 := by decide
theorem iL31 : (31 : Int32) = iI 31 := by decide
theorem iL32 : (32 : Int32) = iI 32 := by decide
theorem iL40 : (40 : Int32) = iI 40 := by decide
theorem iL42 : (42 : Int32) = iI 42 := by decide
theorem iL45 : (45 : Int32) = iI 45 := by decide
theorem iL48 : (48 : Int32) = iI 48 := by decide
theorem iL57 : (57 : Int32) = iI 57 := by decide
theorem iL59 : (59 : Int32) = iI 59 := by decide
theorem iL63 : (63 : Int32) = iI 63 := by decide
theorem iL64 : (64 : Int32) = iI 64 := by decide
theorem iL65 : (65 : Int32) = iI 65 := by decide
theorem iL120 : (120 : Int32) = iI 120 := by decide
theorem iL126 : (126 : Int32) = iI 126 := by decide
theorem iL455 : (455 : Int32) = iI 455 := by decide
theorem iL520 : (520 : Int32) = iI 520 := by decide
theorem iL9999 : (9999 : Int32) = iI 9999 := by decide
theorem iL99999 : (99999 : Int32) = iI 99999 := by decide
theorem iN2 : Int32.ofNat 2 = iI 2 := by decide
theorem iN8 : Int32.ofNat 8 = iI 8 := by decide
theorem iN64 : Int32.ofNat 64 = iI 64 := by decide
theorem iN65 : Int32.ofNat 65 = iI 65 := by decide
theorem iN120 : Int32.ofNat 120 = iI 120 := by decide
theorem iN130 : Int32.ofNat 130 = iI 130 := by decide
theorem iN520 : Int32.ofNat 520 = iI 520 := by decide
theorem lL0 : (0 : Int64) = lI 0 := by decide
theorem lL1 : (1 : Int64) = lI 1 := by decide
/-- one answer for another -/
theorem q_i {Q : qPost} {M : qMem} {a b : Int} (h : a = b) (hQ : Q (some (.int (iI a))) M) : Q (some (.int (iI b))) M := h ▸ hQ
theorem q_l {Q : qPost} {M : qMem} {a b : Int} (h : a = b) (hQ : Q (some (.long (lI a))) M) : Q (some (.long (lI b))) M := h ▸ hQ
theorem nz0 : narrow .boolean (.int (iI 0)) = .int (iI 0) := by decide
theorem nz1 : narrow .boolean (.int (iI 1)) = .int (iI 1) := by decide
def bZ (p : Prop) [Decidable p] : Int := if p then 1 else 0
theorem bZ_t {p : Prop} [Decidable p] (h : p) : bZ p = 1 := if_pos h
theorem bZ_f {p : Prop} [Decidable p] (h : ¬ p) : bZ p = 0 := if_neg h
theorem bZ_in (p : Prop) [Decidable p] : 0 ≤ bZ p ∧ bZ p ≤ 1 := by unfold bZ; split <;> omega
theorem bZ_0 (p : Prop) [Decidable p] : (bZ p = 0) ↔ ¬ p := by unfold bZ; split <;> simp_all
theorem bZ_n (p : Prop) [Decidable p] : narrow .boolean (.int (iI (bZ p))) = .int (iI (bZ p)) := by unfold bZ; split <;> decide
theorem q_b {Q : qPost} {M : qMem} {p : Prop} [Decidable p] {r : Int} (hQ : Q (some (.int (iI (bZ p)))) M) (h : bZ p = r) : narrow .boolean (.int (iI r)) = .int (iI r) ∧ Q (some (.int (iI r))) M := by
  subst h
  exact ⟨bZ_n p, hQ⟩
/-- memory -/
theorem pI_e {M : qMem} {k j : Nat} {x : Int32} : (pI M k j x).1 k j = x := by
  show (if k = k ∧ j = j then x else M.1 k j) = x
  simp
theorem pI_n {M : qMem} {k j k' j' : Nat} {x : Int32} (h : k' ≠ k) : (pI M k j x).1 k' j' = M.1 k' j' := by
  rw [pI_o h]
theorem pI_nj {M : qMem} {k j j' : Nat} {x : Int32} (h : j' ≠ j) : (pI M k j x).1 k j' = M.1 k j' := by
  show (if k = k ∧ j' = j then x else M.1 k j') = _
  simp [h]
theorem pJ_e {M : qMem} {k j : Nat} {x : Int64} : (pJ M k j x).2 k j = x := by
  show (if k = k ∧ j = j then x else M.2 k j) = x
  simp
theorem pJ_n {M : qMem} {k j k' j' : Nat} {x : Int64} (h : k' ≠ k) : (pJ M k j x).2 k' j' = M.2 k' j' := by
  rw [pJ_o h]
theorem pJ_nj {M : qMem} {k j j' : Nat} {x : Int64} (h : j' ≠ j) : (pJ M k j x).2 k j' = M.2 k j' := by
  show (if k = k ∧ j' = j then x else M.2 k j') = _
  simp [h]
theorem pI_2 {M : qMem} {k j : Nat} {x : Int32} : (pI M k j x).2 = M.2 := rfl
theorem pJ_1 {M : qMem} {k j : Nat} {x : Int64} : (pJ M k j x).1 = M.1 := rfl
/-- what isn't named stays -/
def qFm (A : List Nat) (M M' : qMem) : Prop := ∀ a, a ∉ A → M'.1 a = M.1 a ∧ M'.2 a = M.2 a
theorem qFm.rf {A : List Nat} {M : qMem} : qFm A M M := fun _ _ => ⟨rfl, rfl⟩
theorem qFm.tr {A : List Nat} {M M1 M2 : qMem} (h : qFm A M M1) (h2 : qFm A M1 M2) : qFm A M M2 := fun a ha => ⟨(h2 a ha).1.trans (h a ha).1, (h2 a ha).2.trans (h a ha).2⟩
theorem qFm.up {A B : List Nat} {M M1 : qMem} (h : qFm A M M1) (hAB : ∀ a ∈ A, a ∈ B) : qFm B M M1 := fun a ha => h a (fun q => ha (hAB a q))
theorem qFm.pI {A : List Nat} {M : qMem} {k j : Nat} {x : Int32} (h : k ∈ A) : qFm A M (pI M k j x) := fun a ha => ⟨pI_o (fun e => ha (e ▸ h)), rfl⟩
theorem qFm.pJ {A : List Nat} {M : qMem} {k j : Nat} {x : Int64} (h : k ∈ A) : qFm A M (pJ M k j x) := fun a ha => ⟨rfl, pJ_o (fun e => ha (e ▸ h))⟩
