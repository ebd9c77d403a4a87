/-! fractions: greatest divisors, orders, whole parts; the variances' numbers -/
def sqz (n : Nat) (f : Nat → Int) (o : Int) (m : Nat) : Nat → Int
  | 0 => 0
  | k + 1 => sqz n f o m k + (if dif n f o m k ≠ (-1000000001) then dif n f o m k * dif n f o m k else 0)
def od (w : Int) : Int := if w = 0 then 2 else if w = 1 then 3 else 4
def dv (w : Int) (m : Int) : Int := if w = 0 then 2 * m * m else if w = 2 then 2 * m * m * m * m else 6 * m * m
def vS (n : Nat) (f : Nat → Int) (w : Int) (m : Nat) : Nat := (sqz n f (od w) m n).toNat
def vB (n : Nat) (f : Nat → Int) (w : Int) (m : Nat) : Nat := (dv w m * cnd n f (od w) m).toNat
def vN (n : Nat) (f : Nat → Int) (w : Int) (m : Nat) : Nat := if vB n f w m = 0 then 0 else vS n f w m / Nat.gcd (vS n f w m) (vB n f w m)
def vD (n : Nat) (f : Nat → Int) (w : Int) (m : Nat) : Nat := if vB n f w m = 0 then 0 else vB n f w m / Nat.gcd (vS n f w m) (vB n f w m)
/-- the order of a/b and c/d, whole parts first -/
theorem cmpZ_sgn {x y u v : Int} (h1 : x < y ↔ u < v) (h2 : x = y ↔ u = v) : cmpZ x y = cmpZ u v := by
  unfold cmpZ
  split <;> split <;> (try split) <;> (try split) <;> omega
theorem cmp_wh {x y b d : Nat} (hb : 0 < b) (hd : 0 < d) (h : x / b ≠ y / d) : cmpZ (x / b : Nat) (y / d : Nat) = cmpZ (x * d : Nat) (y * b : Nat) := by
  have key : ∀ {x y b d : Nat}, 0 < b → 0 < d → x / b < y / d → x * d < y * b := by
    intro x y b d hb hd h
    have h1 : x < (x / b + 1) * b := Nat.lt_mul_of_div_lt (by omega) hb
    have h2 : (y / d) * d ≤ y := Nat.div_mul_le_self y d
    have h3 : (x / b + 1) * d ≤ y := Nat.le_trans (Nat.mul_le_mul_right d h) h2
    have h4 : x * d < (x / b + 1) * b * d := Nat.mul_lt_mul_of_pos_right h1 hd
    have h5 : (x / b + 1) * b * d = (x / b + 1) * d * b := by rw [Nat.mul_assoc, Nat.mul_comm b d, ← Nat.mul_assoc]
    have h6 : (x / b + 1) * d * b ≤ y * b := Nat.mul_le_mul_right b h3
    omega
  rcases Nat.lt_or_ge (x / b) (y / d) with q | q
  · have k1 := key hb hd q
    exact cmpZ_sgn (by omega) (by omega)
  · have k1 := key hd hb (by omega : y / d < x / b)
    exact cmpZ_sgn (by omega) (by omega)
theorem cmp_rm {x y b d : Nat} (h : x / b = y / d) : cmpZ ((x % b) * d : Nat) ((y % d) * b : Nat) = cmpZ (x * d : Nat) (y * b : Nat) := by
  have e1 : x * d = (x % b) * d + b * d * (x / b) := by
    have q := Nat.mod_add_div x b
    rw [show x * d = (x % b + b * (x / b)) * d by rw [q], Nat.add_mul]
    congr 1
    rw [Nat.mul_assoc, Nat.mul_comm (x / b) d, ← Nat.mul_assoc]
  have e2 : y * b = (y % d) * b + b * d * (y / d) := by
    have q := Nat.mod_add_div y d
    rw [show y * b = (y % d + d * (y / d)) * b by rw [q], Nat.add_mul]
    congr 1
    rw [Nat.mul_comm b d, Nat.mul_assoc, Nat.mul_comm (y / d) b, ← Nat.mul_assoc]
  rw [h] at e1
  exact cmpZ_sgn (by omega) (by omega)
theorem cmp_flip {x y b d : Nat} : cmpZ (b * (y : Nat) : Nat) (d * (x : Nat) : Nat) = - cmpZ (x * d : Nat) (y * b : Nat) := by
  rw [Nat.mul_comm b y, Nat.mul_comm d x]
  unfold cmpZ
  split <;> split <;> (try split) <;> (try split) <;> omega
theorem lI_rem {a b : Nat} (hb : 0 < b) (h1 : (a : Int) < 9223372036854775808) (h2 : (b : Int) < 9223372036854775808) : lI a - lI a / lI b * lI b = lI (a % b : Nat) := by
  rw [lI_tdiv (by omega) h1 (by omega) h2, lI_mul, lI_sub]
  congr 1
  rw [Int.tdiv_eq_ediv_of_nonneg (by omega)]
  have q := Int.emod_def (a : Int) b
  rw [Int.mul_comm] at q
  push_cast
  omega
theorem lI_div {a b : Nat} (h1 : (a : Int) < 9223372036854775808) (h2 : (b : Int) < 9223372036854775808) : lI a / lI b = lI (a / b : Nat) := by
  rw [lI_tdiv (by omega) h1 (by omega) h2, Int.tdiv_eq_ediv_of_nonneg (by omega)]
  rfl
theorem cmpZ_in (a b : Int) : -1 ≤ cmpZ a b ∧ cmpZ a b ≤ 1 := by
  unfold cmpZ
  split <;> (try split) <;> omega
theorem cmpZ_0 (a b : Int) : cmpZ a b = 0 ↔ a = b := by
  unfold cmpZ
  split <;> (try split) <;> omega
theorem cmpZ_p (a b : Int) : 0 < cmpZ a b ↔ b < a := by
  unfold cmpZ
  split <;> (try split) <;> omega
theorem cmpZ_le (a b : Int) : cmpZ a b ≤ 0 ↔ a ≤ b := by
  unfold cmpZ
  split <;> (try split) <;> omega
theorem cmpZ_ge (a b : Int) : 0 ≤ cmpZ a b ↔ b ≤ a := by
  unfold cmpZ
  split <;> (try split) <;> omega
theorem gcd_st (g l : Nat) : Nat.gcd g l = Nat.gcd l (g % l) := by
  rw [Nat.gcd_comm g l, Nat.gcd_rec l g, Nat.gcd_comm]
section FR
variable {Ls : Nat} {xs : Nat → Int32} {P : qSem} {M : qMem} {Q : qPost}
theorem s_longCompare (hG : qGood Ls xs P) {a b : Int} (h1 : -9223372036854775808 ≤ a) (h2 : a < 9223372036854775808) (h3 : -9223372036854775808 ≤ b) (h4 : b < 9223372036854775808) (hQ : Q (some (.int (iI (cmpZ a b)))) M) : P 70 0 [(0, .long (lI a)), (2, .long (lI b))] [] M Q := by
  refine v_long_compare_0 hG ?_
  rw [lg_cmpZ h1 h2 h3 h4]
  have hz := cmpZ_in a b
  simp (disch := omega) only [iI_add, iI_sub, iI_mul, iI_neg, iI_lt, iI_le, iI_eq, iI_cl, vp_iI, Classical.not_not, iLn1000000005, iLn1000000004, iLn1000000003, iLn1000000002, iLn1000000001, iLn99999, iLn9999, iLn2, iLn1, iL0, iL1, iL2, iL3, iL4, iL5, iL6, iL7, iL8, iL9, iL10, iL15, iL16, iL31, iL32, iL40, iL42, iL45, iL48, iL57, iL59, iL63, iL64, iL65, iL120, iL126, iL455, iL520, iL9999, iL99999, iN2, iN8, iN64, iN65, iN120, iN130, iN520]
  exact ⟨fun c => ⟨fun c2 => q_i (by omega) hQ, fun c2 => q_i (by omega) hQ⟩, fun c => q_i (by omega) hQ⟩
theorem s_fr_gcd (hG : qGood Ls xs P) {a b : Nat} (h1 : (a : Int) < 9223372036854775808) (h2 : b < 2 ^ 27) (hQ : Q (some (.long (lI (Nat.gcd a b : Nat)))) M) : P 5 0 [(0, .long (lI a)), (2, .long (lI b))] [] M Q := by
  refine v_fr_greatestDivisor_0 hG ?_
  have key : ∀ (j g l s : Nat), (g : Int) < 9223372036854775808 → l < 2 ^ j → j ≤ 27 → s + 2 * j ≤ 99 → Nat.gcd g l = Nat.gcd a b → P 5 6 [(4, .long (lI g)), (6, .long (lI l)), (8, .int (iI s))] [] M Q := by
    intro j
    induction j with
    | zero =>
      intro g l s hg hl _ hs he
      have e : l = 0 := by simpa using hl
      subst e
      refine v_fr_greatestDivisor_6 hG ?_
      rw [show (100 : Int32) = iI 100 by decide, lL0, lg_cmpZ (by omega) (by omega) (by omega) (by omega)]
      simp (disch := omega) only [iI_add, iI_sub, iI_mul, iI_neg, iI_lt, iI_le, iI_eq, iI_cl, vp_iI, Classical.not_not, iLn1000000005, iLn1000000004, iLn1000000003, iLn1000000002, iLn1000000001, iLn99999, iLn9999, iLn2, iLn1, iL0, iL1, iL2, iL3, iL4, iL5, iL6, iL7, iL8, iL9, iL10, iL15, iL16, iL31, iL32, iL40, iL42, iL45, iL48, iL57, iL59, iL63, iL64, iL65, iL120, iL126, iL455, iL520, iL9999, iL99999, iN2, iN8, iN64, iN65, iN120, iN130, iN520, cmpZ_0]
      rw [Nat.gcd_zero_right] at he
      rw [← he] at hQ
      exact ⟨fun c => by omega, fun _ => ⟨fun _ => hQ, fun c => absurd rfl c⟩⟩
    | succ j ih =>
      intro g l s hg hl hj hs he
      have hp : 2 ^ (j + 1) = 2 * 2 ^ j := by rw [Nat.pow_succ]; omega
      have hpb : 2 ^ j ≤ 2 ^ 26 := Nat.pow_le_pow_right (by omega) (by omega)
      refine v_fr_greatestDivisor_6 hG ?_
      have hz := cmpZ_in (l : Int) 0
      rw [show (100 : Int32) = iI 100 by decide, lL0, lg_cmpZ (by omega) (by omega) (by omega) (by omega)]
      simp (disch := omega) only [iI_add, iI_sub, iI_mul, iI_neg, iI_lt, iI_le, iI_eq, iI_cl, vp_iI, Classical.not_not, iLn1000000005, iLn1000000004, iLn1000000003, iLn1000000002, iLn1000000001, iLn99999, iLn9999, iLn2, iLn1, iL0, iL1, iL2, iL3, iL4, iL5, iL6, iL7, iL8, iL9, iL10, iL15, iL16, iL31, iL32, iL40, iL42, iL45, iL48, iL57, iL59, iL63, iL64, iL65, iL120, iL126, iL455, iL520, iL9999, iL99999, iN2, iN8, iN64, iN65, iN120, iN130, iN520, cmpZ_0]
      refine ⟨fun c => by omega, fun _ => ⟨fun c => ?_, fun c => ⟨?_, ?_⟩⟩⟩
      · have e : l = 0 := by omega
        subst e
        rw [Nat.gcd_zero_right] at he
        rw [← he] at hQ
        exact hQ
      · rw [lI_eq (by omega) (by omega) (by omega) (by omega)]
        exact c
      · have hl0 : 0 < l := by omega
        rw [lI_rem hl0 hg (by omega)]
        have hm := Nat.mod_lt g hl0
        refine v_fr_greatestDivisor_6 hG ?_
        have hz := cmpZ_in ((g % l : Nat) : Int) 0
        rw [show (100 : Int32) = iI 100 by decide, lL0, lg_cmpZ (by omega) (by omega) (by omega) (by omega)]
        simp (disch := omega) only [iI_add, iI_sub, iI_mul, iI_neg, iI_lt, iI_le, iI_eq, iI_cl, vp_iI, Classical.not_not, iLn1000000005, iLn1000000004, iLn1000000003, iLn1000000002, iLn1000000001, iLn99999, iLn9999, iLn2, iLn1, iL0, iL1, iL2, iL3, iL4, iL5, iL6, iL7, iL8, iL9, iL10, iL15, iL16, iL31, iL32, iL40, iL42, iL45, iL48, iL57, iL59, iL63, iL64, iL65, iL120, iL126, iL455, iL520, iL9999, iL99999, iN2, iN8, iN64, iN65, iN120, iN130, iN520, cmpZ_0]
        have he2 : Nat.gcd l (g % l) = Nat.gcd a b := by rw [← gcd_st]; exact he
        refine ⟨fun c => by omega, fun _ => ⟨fun c => ?_, fun c => ⟨?_, ?_⟩⟩⟩
        · have e : g % l = 0 := by omega
          rw [e, Nat.gcd_zero_right] at he2
          rw [← he2] at hQ
          exact hQ
        · rw [lI_eq (by omega) (by omega) (by omega) (by omega)]
          exact c
        · have hr0 : 0 < g % l := by omega
          rw [lI_rem hr0 (by omega) (by omega)]
          have hm2 := Nat.mod_lt l hr0
          have hhalf : l % (g % l) < 2 ^ j := by
            rcases Nat.lt_or_ge (2 ^ j) (g % l + 1) with q | q
            · have e : l % (g % l) = l - (g % l) := by
                rw [Nat.mod_eq_sub_mod (by omega), Nat.mod_eq_of_lt (by omega)]
              omega
            · omega
          refine ih (g % l) (l % (g % l)) (s + 2) (by omega) hhalf (by omega) (by omega) ?_
          rw [← gcd_st]
          exact he2
  simp (disch := omega) only [iI_add, iI_sub, iI_mul, iI_neg, iI_lt, iI_le, iI_eq, iI_cl, vp_iI, Classical.not_not, iLn1000000005, iLn1000000004, iLn1000000003, iLn1000000002, iLn1000000001, iLn99999, iLn9999, iLn2, iLn1, iL0, iL1, iL2, iL3, iL4, iL5, iL6, iL7, iL8, iL9, iL10, iL15, iL16, iL31, iL32, iL40, iL42, iL45, iL48, iL57, iL59, iL63, iL64, iL65, iL120, iL126, iL455, iL520, iL9999, iL99999, iN2, iN8, iN64, iN65, iN120, iN130, iN520]
  exact key 27 a b 0 h1 h2 (by omega) (by omega) rfl
/-- what a fraction's object holds -/
def cFr (M : qMem) (k a b : Nat) : Prop := M.2 k 0 = lI a ∧ M.2 k 1 = lI b
theorem cFr.fm {k a b : Nat} {M' : qMem} {A : List Nat} (h : cFr M k a b) (hF : qFm A M M') (h1 : k ∉ A) : cFr M' k a b := by
  unfold cFr
  rw [(hF k h1).2]
  exact h
theorem s_fr_exists (hG : qGood Ls xs P) {k a b : Nat} (hk : qFq k) (hR : cFr M k a b) (h2 : (b : Int) < 9223372036854775808) (hQ : Q (some (.int (iI (bZ (0 < b))))) M) : P 0 0 [(0, .ref k)] [] M Q := by
  refine v_fr_exists_0 hG hk ?_
  have hz := cmpZ_in (b : Int) 0
  rw [hR.2, lL0, lg_cmpZ (by omega) (by omega) (by omega) (by omega)]
  simp (disch := omega) only [iI_add, iI_sub, iI_mul, iI_neg, iI_lt, iI_le, iI_eq, iI_cl, vp_iI, Classical.not_not, iLn1000000005, iLn1000000004, iLn1000000003, iLn1000000002, iLn1000000001, iLn99999, iLn9999, iLn2, iLn1, iL0, iL1, iL2, iL3, iL4, iL5, iL6, iL7, iL8, iL9, iL10, iL15, iL16, iL31, iL32, iL40, iL42, iL45, iL48, iL57, iL59, iL63, iL64, iL65, iL120, iL126, iL455, iL520, iL9999, iL99999, iN2, iN8, iN64, iN65, iN120, iN130, iN520, cmpZ_le]
  exact ⟨fun c => q_b hQ (bZ_f (by omega)), fun c => q_b hQ (bZ_t (by omega))⟩
theorem s_fr_copyFrom (hG : qGood Ls xs P) {k k1 a b : Nat} (hk : qFq k) (hk1 : qFq k1) (hne : k1 ≠ k) (hR : cFr M k1 a b) (hQ : ∀ M', cFr M' k a b → qFm [k] M M' → Q none M') : P 2 0 [(0, .ref k), (1, .ref k1)] [] M Q := by
  refine v_fr_copyFrom_0 hG hk hk1 ?_
  rw [pJ_n hne, hR.1, hR.2]
  exact hQ _ ⟨by rw [pJ_nj (by decide)]; exact pJ_e, pJ_e⟩ ((qFm.pJ (by simp)).tr (qFm.pJ (by simp)))
theorem s_fr_become (hG : qGood Ls xs P) {k a b : Nat} (hk : qFq k) (h1 : (a : Int) < 9223372036854775808) (h2 : b < 2 ^ 27) (hQ : ∀ M', cFr M' k (if b = 0 then 0 else a / Nat.gcd a b) (if b = 0 then 0 else b / Nat.gcd a b) → qFm [k] M M' → Q none M') : P 1 0 [(0, .ref k), (1, .long (lI a)), (3, .long (lI b))] [] M Q := by
  refine v_fr_become_0 hG hk ?_
  refine s_fr_gcd hG h1 h2 ?_
  refine v_fr_become_3 hG hk ?_
  have hz := cmpZ_in (b : Int) 0
  have hz2 := cmpZ_in ((Nat.gcd a b : Nat) : Int) 0
  have hg : b ≠ 0 → Nat.gcd a b ≤ b := fun h => Nat.gcd_le_right a (by omega)
  have hg0 : b ≠ 0 → 0 < Nat.gcd a b := fun h => Nat.gcd_pos_of_pos_right a (by omega)
  have hb' : (Nat.gcd a b : Int) < 9223372036854775808 := by
    by_cases e : b = 0
    · rw [e, Nat.gcd_zero_right]
      exact h1
    · have := hg e
      omega
  rw [lL0, lg_cmpZ (by omega) (by omega) (by omega) (by omega), lg_cmpZ (by omega) (by omega) (by omega) (by omega), lI_eq (by omega) (by omega) (by omega) (by omega), lI_div h1 hb', lI_div (by omega) hb']
  simp (disch := omega) only [iI_add, iI_sub, iI_mul, iI_neg, iI_lt, iI_le, iI_eq, iI_cl, vp_iI, Classical.not_not, iLn1000000005, iLn1000000004, iLn1000000003, iLn1000000002, iLn1000000001, iLn99999, iLn9999, iLn2, iLn1, iL0, iL1, iL2, iL3, iL4, iL5, iL6, iL7, iL8, iL9, iL10, iL15, iL16, iL31, iL32, iL40, iL42, iL45, iL48, iL57, iL59, iL63, iL64, iL65, iL120, iL126, iL455, iL520, iL9999, iL99999, iN2, iN8, iN64, iN65, iN120, iN130, iN520, cmpZ_le, cmpZ_p]
  refine ⟨fun c => ?_, fun c => ⟨fun c2 => ⟨by omega, by omega, ?_⟩, fun c2 => ?_⟩⟩
  · have e : b = 0 := by omega
    subst e
    simp only [if_true] at hQ
    exact hQ _ ⟨by rw [pJ_nj (by decide)]; exact pJ_e, pJ_e⟩ ((qFm.pJ (by simp)).tr (qFm.pJ (by simp)))
  · rw [if_neg (by omega), if_neg (by omega)] at hQ
    exact hQ _ ⟨by rw [pJ_nj (by decide)]; exact pJ_e, pJ_e⟩ ((qFm.pJ (by simp)).tr (qFm.pJ (by simp)))
  · have := hg0 (by omega)
    omega
theorem s_fr_order (hG : qGood Ls xs P) {k k3 a b c d p q : Nat} (hk : qFq k) (hk3 : qFq k3) (hR : cFr M k a b) (hR3 : cFr M k3 c d) (hb : 0 < b) (hd : 0 < d) (hb2 : b < 2 ^ 27) (hd2 : d < 2 ^ 27) (hp : p * a < 2 ^ 60) (hq : q * c < 2 ^ 60) (hQ : Q (some (.int (iI (cmpZ (p * a * d : Nat) (q * c * b : Nat))))) M) : P 3 0 [(0, .ref k), (1, .long (lI p)), (3, .ref k3), (4, .long (lI q))] [] M Q := by
  refine v_fr_orderOfMultiples_0 hG hk hk3 ?_
  refine s_fr_exists hG hk hR (by omega) ?_
  rw [bZ_t hb]
  refine v_fr_orderOfMultiples_2 hG hk hk3 ?_
  simp (disch := omega) only [iI_add, iI_sub, iI_mul, iI_neg, iI_lt, iI_le, iI_eq, iI_cl, vp_iI, Classical.not_not, iLn1000000005, iLn1000000004, iLn1000000003, iLn1000000002, iLn1000000001, iLn99999, iLn9999, iLn2, iLn1, iL0, iL1, iL2, iL3, iL4, iL5, iL6, iL7, iL8, iL9, iL10, iL15, iL16, iL31, iL32, iL40, iL42, iL45, iL48, iL57, iL59, iL63, iL64, iL65, iL120, iL126, iL455, iL520, iL9999, iL99999, iN2, iN8, iN64, iN65, iN120, iN130, iN520]
  refine ⟨fun c => by omega, fun _ => ?_⟩
  refine s_fr_exists hG hk3 hR3 (by omega) ?_
  rw [bZ_t hd]
  refine v_fr_orderOfMultiples_5 hG hk hk3 ?_
  simp (disch := omega) only [iI_add, iI_sub, iI_mul, iI_neg, iI_lt, iI_le, iI_eq, iI_cl, vp_iI, Classical.not_not, iLn1000000005, iLn1000000004, iLn1000000003, iLn1000000002, iLn1000000001, iLn99999, iLn9999, iLn2, iLn1, iL0, iL1, iL2, iL3, iL4, iL5, iL6, iL7, iL8, iL9, iL10, iL15, iL16, iL31, iL32, iL40, iL42, iL45, iL48, iL57, iL59, iL63, iL64, iL65, iL120, iL126, iL455, iL520, iL9999, iL99999, iN2, iN8, iN64, iN65, iN120, iN130, iN520]
  refine ⟨fun _ => ?_, fun c => by omega⟩
  rw [hR.1, hR.2, hR3.1, hR3.2, lI_mul, lI_mul, lL0, lI_eq (by omega) (by omega) (by omega) (by omega), lI_eq (by omega) (by omega) (by omega) (by omega)]
  have e1 : (p : Int) * a = ((p * a : Nat) : Int) := by push_cast; rfl
  have e2 : (q : Int) * c = ((q * c : Nat) : Int) := by push_cast; rfl
  rw [e1, e2]
  generalize p * a = x at hp hQ ⊢
  generalize q * c = y at hq hQ ⊢
  rw [lI_div (by omega) (by omega), lI_div (by omega) (by omega)]
  have d1 := Nat.div_le_self x b
  have d2 := Nat.div_le_self y d
  have n1 : (0 : Int) ≤ ((x / b : Nat) : Int) := Int.natCast_nonneg _
  have n2 : (0 : Int) ≤ ((y / d : Nat) : Int) := Int.natCast_nonneg _
  refine ⟨by omega, by omega, ?_⟩
  refine s_longCompare hG (by omega) (by omega) (by omega) (by omega) ?_
  refine v_fr_orderOfMultiples_27 hG hk hk3 ?_
  have hz := cmpZ_in ((x / b : Nat) : Int) ((y / d : Nat) : Int)
  simp (disch := omega) only [iI_add, iI_sub, iI_mul, iI_neg, iI_lt, iI_le, iI_eq, iI_cl, vp_iI, Classical.not_not, iLn1000000005, iLn1000000004, iLn1000000003, iLn1000000002, iLn1000000001, iLn99999, iLn9999, iLn2, iLn1, iL0, iL1, iL2, iL3, iL4, iL5, iL6, iL7, iL8, iL9, iL10, iL15, iL16, iL31, iL32, iL40, iL42, iL45, iL48, iL57, iL59, iL63, iL64, iL65, iL120, iL126, iL455, iL520, iL9999, iL99999, iN2, iN8, iN64, iN65, iN120, iN130, iN520, cmpZ_0]
  refine ⟨fun c3 => ?_, fun c3 => ?_⟩
  · rw [hR.2, hR3.2, lL0, lI_eq (by omega) (by omega) (by omega) (by omega), lI_eq (by omega) (by omega) (by omega) (by omega), lI_rem hb (by omega) (by omega), lI_rem hd (by omega) (by omega), lI_mul, lI_mul]
    have m1 := Nat.mod_lt x hb
    have m2 := Nat.mod_lt y hd
    have u1 : (x % b) * d < 2 ^ 54 := by
      have z1 : (x % b) * d ≤ (2 ^ 27 - 1) * (2 ^ 27 - 1) := Nat.mul_le_mul (by omega) (by omega)
      omega
    have u2 : (y % d) * b < 2 ^ 54 := by
      have z1 : (y % d) * b ≤ (2 ^ 27 - 1) * (2 ^ 27 - 1) := Nat.mul_le_mul (by omega) (by omega)
      omega
    refine ⟨by omega, by omega, ?_⟩
    have e3 : ((x % b : Nat) : Int) * d = (((x % b) * d : Nat) : Int) := by push_cast; rfl
    have e4 : ((y % d : Nat) : Int) * b = (((y % d) * b : Nat) : Int) := by push_cast; rfl
    rw [e3, e4]
    refine s_longCompare hG (by omega) (by omega) (by omega) (by omega) ?_
    refine v_fr_orderOfMultiples_47 hG ?_
    rw [cmp_rm (by omega)]
    exact hQ
  · rw [cmp_wh hb hd (by omega)]
    exact hQ
def tr6 (a b : Nat) : Nat := a / b * 1000000 + a % b * 1000000 / b
theorem s_fr_times (hG : qGood Ls xs P) {k a b : Nat} (hk : qFq k) (hR : cFr M k a b) (hb : 0 < b) (hb2 : b < 2 ^ 27) (ha : a < 2 ^ 60) (hab : a / b < 2 ^ 40) (hQ : Q (some (.long (lI (tr6 a b)))) M) : P 4 0 [(0, .ref k), (1, .long (lI 1000000))] [] M Q := by
  refine v_fr_timesRoundedDown_0 hG hk ?_
  refine s_fr_exists hG hk hR (by omega) ?_
  rw [bZ_t hb]
  refine v_fr_timesRoundedDown_2 hG hk ?_
  simp (disch := omega) only [iI_add, iI_sub, iI_mul, iI_neg, iI_lt, iI_le, iI_eq, iI_cl, vp_iI, Classical.not_not, iLn1000000005, iLn1000000004, iLn1000000003, iLn1000000002, iLn1000000001, iLn99999, iLn9999, iLn2, iLn1, iL0, iL1, iL2, iL3, iL4, iL5, iL6, iL7, iL8, iL9, iL10, iL15, iL16, iL31, iL32, iL40, iL42, iL45, iL48, iL57, iL59, iL63, iL64, iL65, iL120, iL126, iL455, iL520, iL9999, iL99999, iN2, iN8, iN64, iN65, iN120, iN130, iN520]
  refine ⟨fun _ => ?_, fun c => by omega⟩
  have m1 := Nat.mod_lt a hb
  rw [hR.1, hR.2, lL0, lI_eq (by omega) (by omega) (by omega) (by omega), lI_rem hb (by omega) (by omega), lI_div (by omega) (by omega), lI_mul, lI_mul]
  have e3 : ((a % b : Nat) : Int) * 1000000 = ((a % b * 1000000 : Nat) : Int) := by omega
  have e4 : ((a / b : Nat) : Int) * 1000000 = ((a / b * 1000000 : Nat) : Int) := by omega
  rw [e3, e4, lI_div (by omega) (by omega), lI_add]
  exact ⟨by omega, by omega, by omega, hQ⟩
end FR
