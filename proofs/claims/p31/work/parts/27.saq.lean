/-! what the queries answer (for both sides), and the class's queries -/
def r32 (z : Int) : Prop := -2147483648 ≤ z ∧ z < 2147483648
def aReading (n : Nat) (f : Nat → Int) (i : Int) : Int := if 0 ≤ i ∧ i < n then f i.toNat else -1000000002
def aDiff (n : Nat) (f : Nat → Int) (o m i : Int) : Int := if (2 ≤ o ∧ o ≤ 4) ∧ (1 ≤ m ∧ m ≤ 31) ∧ 0 ≤ i then dif n f o m.toNat i else -1000000002
def aCount (n : Nat) (f : Nat → Int) (o m : Int) : Int := if (2 ≤ o ∧ o ≤ 4) ∧ (1 ≤ m ∧ m ≤ 31) then cnd n f o m.toNat else -1000000002
def aVar (n : Nat) (f : Nat → Int) (w m p : Int) : Int := if (0 ≤ w ∧ w ≤ 3) ∧ (1 ≤ m ∧ m ≤ 31) ∧ (0 ≤ p ∧ p ≤ 1) then (if vD n f w m.toNat = 0 then (-1000000001) else if p = 0 then (vN n f w m.toNat : Int) else (vD n f w m.toNat : Int)) else -1000000002
noncomputable def aDev (n : Nat) (f : Nat → Int) (w m : Int) : Int := if (0 ≤ w ∧ w ≤ 3) ∧ (1 ≤ m ∧ m ≤ 31) then (if vD n f w m.toNat = 0 then (-1000000001) else isq (tr6 (vN n f w m.toNat) (vD n f w m.toNat))) else -1000000002
def aCmp2 (n : Nat) (f : Nat → Int) (w : Int) (m o : Nat) : Int := cmpZ (vN n f w m * vD n f w o : Nat) (vN n f w o * vD n f w m : Nat)
def aCmp (n : Nat) (f : Nat → Int) (w m o : Int) : Int := if (0 ≤ w ∧ w ≤ 3) ∧ (1 ≤ m ∧ m ≤ 31) ∧ (1 ≤ o ∧ o ≤ 31) then (if vD n f w m.toNat = 0 ∨ vD n f w o.toNat = 0 then (-1000000001) else if aCmp2 n f w m.toNat o.toNat = 0 then 0 else if aCmp2 n f w m.toNat o.toNat < 0 then 1 else 2) else -1000000002
def bsz (n : Nat) (f : Nat → Int) (w : Int) : Nat → Nat
  | 0 => 0
  | k + 1 => if vD n f w (k + 1) ≠ 0 ∧ (bsz n f w k = 0 ∨ aCmp2 n f w (k + 1) (bsz n f w k) < 0) then k + 1 else bsz n f w k
def aBest (n : Nat) (f : Nat → Int) (w : Int) : Int := if 0 ≤ w ∧ w ≤ 3 then (if bsz n f w 31 = 0 then (-1000000001) else bsz n f w 31) else -1000000002
def nzc (n : Nat) (f : Nat → Int) (m F : Nat) : Int := cmpZ (F * vN n f 0 (2 * m) * vD n f 0 m : Nat) (3 * vN n f 0 m * vD n f 0 (2 * m) : Nat)
def knd (n : Nat) (f : Nat → Int) (m : Nat) : Int := if vD n f 0 m = 0 ∨ vD n f 0 (2 * m) = 0 ∨ vN n f 0 m = 0 then (-1000000001) else if nzc n f m 8 ≤ 0 then 0 else if nzc n f m 4 ≤ 0 then 1 else if nzc n f m 2 ≤ 0 then 2 else if nzc n f m 1 ≤ 0 then 3 else 4
def dof (k c m : Int) : Int := if k = 0 then (c + 1) * (c + 2 * m) / (2 * (c + m)) else if k = 1 then 3 * c * c / (2 * (c + m)) else if k = 2 then 5 * c * c / (4 * (c + 3 * m)) else c / m
def aNoise (n : Nat) (f : Nat → Int) (m : Int) : Int := if 1 ≤ m ∧ m ≤ 15 then knd n f m.toNat else -1000000002
def aFree (n : Nat) (f : Nat → Int) (m : Int) : Int := if 1 ≤ m ∧ m ≤ 15 then (if knd n f m.toNat = (-1000000001) then (-1000000001) else if dof (knd n f m.toNat) (cnd n f 2 m.toNat) m < 1 then 1 else dof (knd n f m.toNat) (cnd n f 2 m.toNat) m) else -1000000002
def aOutl (n : Nat) (f : Nat → Int) (lim : Int) : Int := if 0 ≤ lim ∧ lim ≤ 99999 then cz (otl n f lim) n else -1000000002
def aTold (n : Nat) (f : Nat → Int) (tl d w : Int) : Int := if w = 0 then n else if w = 1 then cz (fun j => decide (f j ≠ (-1000000001))) n else if w = 2 then lsz f n else if w = 3 then grz f n else if w = 4 then cz (stg f) n else if w = 5 then lgz n f n else if w = 6 then wdz n f 31 else if w = 7 then tl else if w = 8 then d else -1000000002
theorem knd_in (n : Nat) (f : Nat → Int) (m : Nat) : knd n f m = (-1000000001) ∨ (0 ≤ knd n f m ∧ knd n f m ≤ 4) := by
  unfold knd
  split
  · exact Or.inl rfl
  · right
    split
    · omega
    · split
      · omega
      · split
        · omega
        · split <;> omega
theorem bsz_in (n : Nat) (f : Nat → Int) (w : Int) : ∀ k, bsz n f w k ≤ k := by
  intro k
  induction k with
  | zero => exact Nat.le_refl _
  | succ k ih => unfold bsz; split <;> omega
theorem bsz_D (n : Nat) (f : Nat → Int) (w : Int) : ∀ k, bsz n f w k ≠ 0 → vD n f w (bsz n f w k) ≠ 0 := by
  intro k
  induction k with
  | zero => intro h; exact absurd rfl h
  | succ k ih =>
    unfold bsz
    split
    · rename_i c; intro _; exact c.1
    · exact ih
theorem vN_0 {n : Nat} {f : Nat → Int} {w : Int} {m : Nat} (h : vD n f w m = 0) (hf : ∀ j, j < n → okv (f j)) (hn : n ≤ 64) (hm : 1 ≤ m) (hm2 : m ≤ 31) (hw : wOK w) : vN n f w m = 0 := by
  have h1 := (vND hf hn hm hm2 hw).2.2.1.mp h
  unfold vN
  rw [if_pos h1]
theorem tr6_in {n : Nat} {f : Nat → Int} (hf : ∀ j, j < n → okv (f j)) (hn : n ≤ 64) {m : Nat} (hm : 1 ≤ m) (hm2 : m ≤ 31) {w : Int} (hw : wOK w) (hD : vD n f w m ≠ 0) : vN n f w m / vD n f w m ≤ 110000000000 ∧ tr6 (vN n f w m) (vD n f w m) < 200000000000000000 := by
  have h1 := vND hf hn hm hm2 hw
  have hpos : 0 < vD n f w m := by omega
  have h2 : vN n f w m / vD n f w m ≤ 110000000000 := by
    refine Nat.div_le_of_le_mul ?_
    rw [Nat.mul_comm]
    exact h1.2.2.2
  refine ⟨h2, ?_⟩
  have h3 := Nat.mod_lt (vN n f w m) hpos
  have h4 : vN n f w m % vD n f w m * 1000000 / vD n f w m ≤ 1000000 := by
    refine Nat.div_le_of_le_mul ?_
    exact Nat.mul_le_mul (by omega) (Nat.le_refl _)
  unfold tr6
  omega
section SAQ
variable {Ls : Nat} {xs : Nat → Int32} {P : qSem} {n : Nat} {f : Nat → Int} {M : qMem} {Q : qPost}
theorem s_sa_isPhase (hG : qGood Ls xs P) {v : Int} (h1 : -9223372036854775808 ≤ v) (h2 : v < 9223372036854775808) (hQ : Q (some (.int (iI (bZ (-99999 ≤ v ∧ v ≤ 99999))))) M) : P 55 0 [(0, .long (lI v))] [] M Q := by
  refine v_sa_isPhase_0 hG ?_
  rw [show (-99999 : Int64) = lI (-99999) by decide, show (99999 : Int64) = lI 99999 by decide, lg_cmpZ h1 h2 (by omega) (by omega), lg_cmpZ h1 h2 (by omega) (by omega)]
  have hz := cmpZ_in v (-99999)
  have hz2 := cmpZ_in v 99999
  have hl : ∀ a b : Int, cmpZ a b < 0 ↔ a < b := fun a b => by unfold cmpZ; split <;> (try split) <;> omega
  simp (disch := omega) only [iI_add, iI_sub, iI_mul, iI_neg, iI_lt, iI_le, iI_eq, iI_cl, vp_iI, Classical.not_not, iLn1000000005, iLn1000000004, iLn1000000003, iLn1000000002, iLn1000000001, iLn99999, iLn9999, iLn2, iLn1, iL0, iL1, iL2, iL3, iL4, iL5, iL6, iL7, iL8, iL9, iL10, iL15, iL16, iL31, iL32, iL40, iL42, iL45, iL48, iL57, iL59, iL63, iL64, iL65, iL120, iL126, iL455, iL520, iL9999, iL99999, iN2, iN8, iN64, iN65, iN120, iN130, iN520, cmpZ_p, hl]
  exact ⟨fun c => q_b hQ (bZ_f (by omega)), fun c => ⟨fun c2 => q_b hQ (bZ_f (by omega)), fun c2 => q_b hQ (bZ_t (by omega))⟩⟩
theorem s_sa_isLimit (hG : qGood Ls xs P) {v : Int} (h : r32 v) (hQ : Q (some (.int (iI (bZ (0 ≤ v ∧ v ≤ 99999))))) M) : P 56 0 [(0, .int (iI v))] [] M Q := by
  obtain ⟨h1, h2⟩ := h
  refine v_sa_isLimit_0 hG ?_
  simp (disch := omega) only [iI_add, iI_sub, iI_mul, iI_neg, iI_lt, iI_le, iI_eq, iI_cl, vp_iI, Classical.not_not, iLn1000000005, iLn1000000004, iLn1000000003, iLn1000000002, iLn1000000001, iLn99999, iLn9999, iLn2, iLn1, iL0, iL1, iL2, iL3, iL4, iL5, iL6, iL7, iL8, iL9, iL10, iL15, iL16, iL31, iL32, iL40, iL42, iL45, iL48, iL57, iL59, iL63, iL64, iL65, iL120, iL126, iL455, iL520, iL9999, iL99999, iN2, iN8, iN64, iN65, iN120, iN130, iN520]
  exact ⟨fun c => q_b hQ (bZ_f (by omega)), fun c => ⟨fun c2 => q_b hQ (bZ_f (by omega)), fun c2 => q_b hQ (bZ_t (by omega))⟩⟩
theorem s_sa_isOrder (hG : qGood Ls xs P) {v : Int} (h : r32 v) (hQ : Q (some (.int (iI (bZ (2 ≤ v ∧ v ≤ 4))))) M) : P 57 0 [(0, .int (iI v))] [] M Q := by
  obtain ⟨h1, h2⟩ := h
  refine v_sa_isOrder_0 hG ?_
  simp (disch := omega) only [iI_add, iI_sub, iI_mul, iI_neg, iI_lt, iI_le, iI_eq, iI_cl, vp_iI, Classical.not_not, iLn1000000005, iLn1000000004, iLn1000000003, iLn1000000002, iLn1000000001, iLn99999, iLn9999, iLn2, iLn1, iL0, iL1, iL2, iL3, iL4, iL5, iL6, iL7, iL8, iL9, iL10, iL15, iL16, iL31, iL32, iL40, iL42, iL45, iL48, iL57, iL59, iL63, iL64, iL65, iL120, iL126, iL455, iL520, iL9999, iL99999, iN2, iN8, iN64, iN65, iN120, iN130, iN520]
  exact ⟨fun c => q_b hQ (bZ_f (by omega)), fun c => ⟨fun c2 => q_b hQ (bZ_f (by omega)), fun c2 => q_b hQ (bZ_t (by omega))⟩⟩
theorem s_sa_isM (hG : qGood Ls xs P) {v : Int} (h : r32 v) (hQ : Q (some (.int (iI (bZ (1 ≤ v ∧ v ≤ 31))))) M) : P 58 0 [(0, .int (iI v))] [] M Q := by
  obtain ⟨h1, h2⟩ := h
  refine v_sa_isM_0 hG ?_
  simp (disch := omega) only [iI_add, iI_sub, iI_mul, iI_neg, iI_lt, iI_le, iI_eq, iI_cl, vp_iI, Classical.not_not, iLn1000000005, iLn1000000004, iLn1000000003, iLn1000000002, iLn1000000001, iLn99999, iLn9999, iLn2, iLn1, iL0, iL1, iL2, iL3, iL4, iL5, iL6, iL7, iL8, iL9, iL10, iL15, iL16, iL31, iL32, iL40, iL42, iL45, iL48, iL57, iL59, iL63, iL64, iL65, iL120, iL126, iL455, iL520, iL9999, iL99999, iN2, iN8, iN64, iN65, iN120, iN130, iN520]
  exact ⟨fun c => q_b hQ (bZ_f (by omega)), fun c => ⟨fun c2 => q_b hQ (bZ_f (by omega)), fun c2 => q_b hQ (bZ_t (by omega))⟩⟩
theorem s_sa_isVariance (hG : qGood Ls xs P) {v : Int} (h : r32 v) (hQ : Q (some (.int (iI (bZ (0 ≤ v ∧ v ≤ 3))))) M) : P 59 0 [(0, .int (iI v))] [] M Q := by
  obtain ⟨h1, h2⟩ := h
  refine v_sa_isVariance_0 hG ?_
  simp (disch := omega) only [iI_add, iI_sub, iI_mul, iI_neg, iI_lt, iI_le, iI_eq, iI_cl, vp_iI, Classical.not_not, iLn1000000005, iLn1000000004, iLn1000000003, iLn1000000002, iLn1000000001, iLn99999, iLn9999, iLn2, iLn1, iL0, iL1, iL2, iL3, iL4, iL5, iL6, iL7, iL8, iL9, iL10, iL15, iL16, iL31, iL32, iL40, iL42, iL45, iL48, iL57, iL59, iL63, iL64, iL65, iL120, iL126, iL455, iL520, iL9999, iL99999, iN2, iN8, iN64, iN65, iN120, iN130, iN520]
  exact ⟨fun c => q_b hQ (bZ_f (by omega)), fun c => ⟨fun c2 => q_b hQ (bZ_f (by omega)), fun c2 => q_b hQ (bZ_t (by omega))⟩⟩
theorem C_reading (hG : qGood Ls xs P) {i : Int} (hR : cRd M 1 n f) (hi : r32 i) (hQ : Q (some (.int (iI (aReading n f i)))) M) : P 46 0 [(0, .ref 0), (1, .int (iI i))] [] M Q := by
  obtain ⟨h1, h2⟩ := hi
  unfold aReading at hQ
  refine v_sa_reading_0 hG ?_
  refine s_rd_reaches hG q1Rd hR h1 h2 ?_
  refine v_sa_reading_4 hG ?_
  have hz := bZ_in (0 ≤ i ∧ i < n)
  simp (disch := omega) only [iI_add, iI_sub, iI_mul, iI_neg, iI_lt, iI_le, iI_eq, iI_cl, vp_iI, Classical.not_not, iLn1000000005, iLn1000000004, iLn1000000003, iLn1000000002, iLn1000000001, iLn99999, iLn9999, iLn2, iLn1, iL0, iL1, iL2, iL3, iL4, iL5, iL6, iL7, iL8, iL9, iL10, iL15, iL16, iL31, iL32, iL40, iL42, iL45, iL48, iL57, iL59, iL63, iL64, iL65, iL120, iL126, iL455, iL520, iL9999, iL99999, iN2, iN8, iN64, iN65, iN120, iN130, iN520, bZ_0]
  refine ⟨fun c => ?_, fun c => ?_⟩
  · rw [if_pos c] at hQ
    refine s_rd_at hG q1Rd hR h1 h2 ?_
    refine v_sa_reading_11 hG (q_i ?_ hQ)
    unfold vl
    rw [if_pos c]
  · rw [if_neg c] at hQ
    exact hQ
theorem C_difference (hG : qGood Ls xs P) {o m i : Int} (hR : cRd M 1 n f) (ho : r32 o) (hm : r32 m) (hi : r32 i) (hQ : Q (some (.int (iI (aDiff n f o m i)))) M) : P 47 0 [(0, .ref 0), (1, .int (iI o)), (2, .int (iI m)), (3, .int (iI i))] [] M Q := by
  unfold aDiff at hQ
  refine v_sa_difference_0 hG ?_
  refine s_sa_isOrder hG ho ?_
  refine v_sa_difference_2 hG ?_
  have hz := bZ_in (2 ≤ o ∧ o ≤ 4)
  simp (disch := omega) only [iI_add, iI_sub, iI_mul, iI_neg, iI_lt, iI_le, iI_eq, iI_cl, vp_iI, Classical.not_not, iLn1000000005, iLn1000000004, iLn1000000003, iLn1000000002, iLn1000000001, iLn99999, iLn9999, iLn2, iLn1, iL0, iL1, iL2, iL3, iL4, iL5, iL6, iL7, iL8, iL9, iL10, iL15, iL16, iL31, iL32, iL40, iL42, iL45, iL48, iL57, iL59, iL63, iL64, iL65, iL120, iL126, iL455, iL520, iL9999, iL99999, iN2, iN8, iN64, iN65, iN120, iN130, iN520, bZ_0]
  refine ⟨fun c => ?_, fun c => ?_⟩
  · rw [if_neg (fun z => c z.1)] at hQ
    exact hQ
  refine s_sa_isM hG hm ?_
  refine v_sa_difference_5 hG ?_
  have hz2 := bZ_in (1 ≤ m ∧ m ≤ 31)
  obtain ⟨h1, h2⟩ := id hi
  simp (disch := omega) only [iI_add, iI_sub, iI_mul, iI_neg, iI_lt, iI_le, iI_eq, iI_cl, vp_iI, Classical.not_not, iLn1000000005, iLn1000000004, iLn1000000003, iLn1000000002, iLn1000000001, iLn99999, iLn9999, iLn2, iLn1, iL0, iL1, iL2, iL3, iL4, iL5, iL6, iL7, iL8, iL9, iL10, iL15, iL16, iL31, iL32, iL40, iL42, iL45, iL48, iL57, iL59, iL63, iL64, iL65, iL120, iL126, iL455, iL520, iL9999, iL99999, iN2, iN8, iN64, iN65, iN120, iN130, iN520, bZ_0]
  refine ⟨fun c2 => ?_, fun c2 => ⟨fun c3 => ?_, fun c3 => ?_⟩⟩
  · rw [if_neg (fun z => c2 z.2.1)] at hQ
    exact hQ
  · rw [if_pos ⟨c, c2, c3⟩] at hQ
    have e : m = ((m.toNat : Nat) : Int) := by omega
    rw [e]
    refine s_rd_differenceAt hG q1Rd hR c.1 c.2 (by omega) h1 h2 ?_
    exact v_sa_difference_16 hG hQ
  · rw [if_neg (fun z => c3 z.2.2)] at hQ
    exact hQ
theorem C_count (hG : qGood Ls xs P) {o m : Int} (hR : cRd M 1 n f) (ho : r32 o) (hm : r32 m) (hQ : Q (some (.int (iI (aCount n f o m)))) M) : P 48 0 [(0, .ref 0), (1, .int (iI o)), (2, .int (iI m))] [] M Q := by
  unfold aCount at hQ
  refine v_sa_count_0 hG ?_
  refine s_sa_isOrder hG ho ?_
  refine v_sa_count_2 hG ?_
  have hz := bZ_in (2 ≤ o ∧ o ≤ 4)
  simp (disch := omega) only [iI_add, iI_sub, iI_mul, iI_neg, iI_lt, iI_le, iI_eq, iI_cl, vp_iI, Classical.not_not, iLn1000000005, iLn1000000004, iLn1000000003, iLn1000000002, iLn1000000001, iLn99999, iLn9999, iLn2, iLn1, iL0, iL1, iL2, iL3, iL4, iL5, iL6, iL7, iL8, iL9, iL10, iL15, iL16, iL31, iL32, iL40, iL42, iL45, iL48, iL57, iL59, iL63, iL64, iL65, iL120, iL126, iL455, iL520, iL9999, iL99999, iN2, iN8, iN64, iN65, iN120, iN130, iN520, bZ_0]
  refine ⟨fun c => ?_, fun c => ?_⟩
  · rw [if_neg (fun z => c z.1)] at hQ
    exact hQ
  refine s_sa_isM hG hm ?_
  refine v_sa_count_5 hG ?_
  have hz2 := bZ_in (1 ≤ m ∧ m ≤ 31)
  simp (disch := omega) only [iI_add, iI_sub, iI_mul, iI_neg, iI_lt, iI_le, iI_eq, iI_cl, vp_iI, Classical.not_not, iLn1000000005, iLn1000000004, iLn1000000003, iLn1000000002, iLn1000000001, iLn99999, iLn9999, iLn2, iLn1, iL0, iL1, iL2, iL3, iL4, iL5, iL6, iL7, iL8, iL9, iL10, iL15, iL16, iL31, iL32, iL40, iL42, iL45, iL48, iL57, iL59, iL63, iL64, iL65, iL120, iL126, iL455, iL520, iL9999, iL99999, iN2, iN8, iN64, iN65, iN120, iN130, iN520, bZ_0]
  refine ⟨fun c2 => ?_, fun c2 => ?_⟩
  · rw [if_pos ⟨c, c2⟩] at hQ
    have e : m = ((m.toNat : Nat) : Int) := by omega
    rw [e]
    refine s_rd_countOf hG q1Rd hR c.1 c.2 (by omega) ?_
    exact v_sa_count_13 hG hQ
  · rw [if_neg (fun z => c2 z.2)] at hQ
    exact hQ
theorem q34 : qFq 34 := rfl
theorem q35 : qFq 35 := rfl
theorem C_variance (hG : qGood Ls xs P) {w m p : Int} (hR : cRd M 1 n f) (hw : r32 w) (hm : r32 m) (hp : r32 p) (hQ : ∀ M', qFm [34, 35] M M' → Q (some (.long (lI (aVar n f w m p)))) M') : P 49 0 [(0, .ref 0), (1, .int (iI w)), (2, .int (iI m)), (3, .int (iI p))] [] M Q := by
  have hQ0 := hQ M qFm.rf
  unfold aVar at hQ hQ0
  refine v_sa_variance_0 hG ?_
  refine s_sa_isVariance hG hw ?_
  refine v_sa_variance_2 hG ?_
  rw [show (-1000000002 : Int64) = lI (-1000000002) by decide]
  have hz := bZ_in (0 ≤ w ∧ w ≤ 3)
  simp (disch := omega) only [iI_add, iI_sub, iI_mul, iI_neg, iI_lt, iI_le, iI_eq, iI_cl, vp_iI, Classical.not_not, iLn1000000005, iLn1000000004, iLn1000000003, iLn1000000002, iLn1000000001, iLn99999, iLn9999, iLn2, iLn1, iL0, iL1, iL2, iL3, iL4, iL5, iL6, iL7, iL8, iL9, iL10, iL15, iL16, iL31, iL32, iL40, iL42, iL45, iL48, iL57, iL59, iL63, iL64, iL65, iL120, iL126, iL455, iL520, iL9999, iL99999, iN2, iN8, iN64, iN65, iN120, iN130, iN520, bZ_0]
  refine ⟨fun c => ?_, fun c => ?_⟩
  · rw [if_neg (fun z => c z.1)] at hQ0
    exact hQ0
  refine s_sa_isM hG hm ?_
  refine v_sa_variance_5 hG ?_
  rw [show (-1000000002 : Int64) = lI (-1000000002) by decide]
  have hz2 := bZ_in (1 ≤ m ∧ m ≤ 31)
  obtain ⟨h1, h2⟩ := id hp
  simp (disch := omega) only [iI_add, iI_sub, iI_mul, iI_neg, iI_lt, iI_le, iI_eq, iI_cl, vp_iI, Classical.not_not, iLn1000000005, iLn1000000004, iLn1000000003, iLn1000000002, iLn1000000001, iLn99999, iLn9999, iLn2, iLn1, iL0, iL1, iL2, iL3, iL4, iL5, iL6, iL7, iL8, iL9, iL10, iL15, iL16, iL31, iL32, iL40, iL42, iL45, iL48, iL57, iL59, iL63, iL64, iL65, iL120, iL126, iL455, iL520, iL9999, iL99999, iN2, iN8, iN64, iN65, iN120, iN130, iN520, bZ_0]
  refine ⟨fun c2 => ?_, fun c2 => ⟨fun c3 => ?_, fun c3 => ⟨fun c4 => ?_, fun c4 => ?_⟩⟩⟩
  · rw [if_neg (fun z => c2 z.2.1)] at hQ0
    exact hQ0
  · rw [if_neg (by omega)] at hQ0
    exact hQ0
  · simp only [if_pos (show (0 ≤ w ∧ w ≤ 3) ∧ (1 ≤ m ∧ m ≤ 31) ∧ (0 ≤ p ∧ p ≤ 1) by omega)] at hQ
    have e : m = ((m.toNat : Nat) : Int) := by omega
    rw [e]
    have b := vND hR.ok hR.2.1 (m := m.toNat) (by omega) (by omega) (w := w) c
    refine s_sa_measure hG q34 hR c (by omega) (by omega) (fun M1 hF1 hFm => ?_)
    have hq := hQ M1 (hFm.up (by simp))
    refine v_sa_variance_19 hG ?_
    refine s_fr_exists hG q34 hF1 (by omega) ?_
    refine v_sa_variance_22 hG ?_
    rw [hF1.1, hF1.2, show (-1000000001 : Int64) = lI (-1000000001) by decide]
    have hz3 := bZ_in (0 < vD n f w m.toNat)
    simp (disch := omega) only [iI_add, iI_sub, iI_mul, iI_neg, iI_lt, iI_le, iI_eq, iI_cl, vp_iI, Classical.not_not, iLn1000000005, iLn1000000004, iLn1000000003, iLn1000000002, iLn1000000001, iLn99999, iLn9999, iLn2, iLn1, iL0, iL1, iL2, iL3, iL4, iL5, iL6, iL7, iL8, iL9, iL10, iL15, iL16, iL31, iL32, iL40, iL42, iL45, iL48, iL57, iL59, iL63, iL64, iL65, iL120, iL126, iL455, iL520, iL9999, iL99999, iN2, iN8, iN64, iN65, iN120, iN130, iN520, bZ_0]
    refine ⟨fun c5 => ⟨fun c6 => ?_, fun c6 => ?_⟩, fun c5 => ?_⟩
    · rw [if_neg (by omega), if_neg c6] at hq
      exact hq
    · rw [if_neg (by omega), if_pos c6] at hq
      exact hq
    · rw [if_pos (by omega)] at hq
      exact hq
  · rw [if_neg (by omega)] at hQ0
    exact hQ0
theorem C_deviation (hG : qGood Ls xs P) {w m : Int} (hR : cRd M 1 n f) (hw : r32 w) (hm : r32 m) (hQ : ∀ M', qFm [34, 35] M M' → Q (some (.long (lI (aDev n f w m)))) M') : P 50 0 [(0, .ref 0), (1, .int (iI w)), (2, .int (iI m))] [] M Q := by
  have hQ0 := hQ M qFm.rf
  unfold aDev at hQ hQ0
  refine v_sa_deviation_0 hG ?_
  refine s_sa_isVariance hG hw ?_
  refine v_sa_deviation_2 hG ?_
  rw [show (-1000000002 : Int64) = lI (-1000000002) by decide]
  have hz := bZ_in (0 ≤ w ∧ w ≤ 3)
  simp (disch := omega) only [iI_add, iI_sub, iI_mul, iI_neg, iI_lt, iI_le, iI_eq, iI_cl, vp_iI, Classical.not_not, iLn1000000005, iLn1000000004, iLn1000000003, iLn1000000002, iLn1000000001, iLn99999, iLn9999, iLn2, iLn1, iL0, iL1, iL2, iL3, iL4, iL5, iL6, iL7, iL8, iL9, iL10, iL15, iL16, iL31, iL32, iL40, iL42, iL45, iL48, iL57, iL59, iL63, iL64, iL65, iL120, iL126, iL455, iL520, iL9999, iL99999, iN2, iN8, iN64, iN65, iN120, iN130, iN520, bZ_0]
  refine ⟨fun c => ?_, fun c => ?_⟩
  · rw [if_neg (fun z => c z.1)] at hQ0
    exact hQ0
  refine s_sa_isM hG hm ?_
  refine v_sa_deviation_5 hG ?_
  rw [show (-1000000002 : Int64) = lI (-1000000002) by decide]
  have hz2 := bZ_in (1 ≤ m ∧ m ≤ 31)
  simp (disch := omega) only [iI_add, iI_sub, iI_mul, iI_neg, iI_lt, iI_le, iI_eq, iI_cl, vp_iI, Classical.not_not, iLn1000000005, iLn1000000004, iLn1000000003, iLn1000000002, iLn1000000001, iLn99999, iLn9999, iLn2, iLn1, iL0, iL1, iL2, iL3, iL4, iL5, iL6, iL7, iL8, iL9, iL10, iL15, iL16, iL31, iL32, iL40, iL42, iL45, iL48, iL57, iL59, iL63, iL64, iL65, iL120, iL126, iL455, iL520, iL9999, iL99999, iN2, iN8, iN64, iN65, iN120, iN130, iN520, bZ_0]
  refine ⟨fun c2 => ?_, fun c2 => ?_⟩
  · simp only [if_pos (show (0 ≤ w ∧ w ≤ 3) ∧ (1 ≤ m ∧ m ≤ 31) by omega)] at hQ
    have e : m = ((m.toNat : Nat) : Int) := by omega
    rw [e]
    have b := vND hR.ok hR.2.1 (m := m.toNat) (by omega) (by omega) (w := w) c
    refine s_sa_measure hG q34 hR c (by omega) (by omega) (fun M1 hF1 hFm => ?_)
    have hq := hQ M1 (hFm.up (by simp))
    refine v_sa_deviation_14 hG ?_
    refine s_fr_exists hG q34 hF1 (by omega) ?_
    refine v_sa_deviation_17 hG ?_
    rw [show (-1000000001 : Int64) = lI (-1000000001) by decide, show (1000000 : Int64) = lI 1000000 by decide]
    have hz3 := bZ_in (0 < vD n f w m.toNat)
    simp (disch := omega) only [iI_add, iI_sub, iI_mul, iI_neg, iI_lt, iI_le, iI_eq, iI_cl, vp_iI, Classical.not_not, iLn1000000005, iLn1000000004, iLn1000000003, iLn1000000002, iLn1000000001, iLn99999, iLn9999, iLn2, iLn1, iL0, iL1, iL2, iL3, iL4, iL5, iL6, iL7, iL8, iL9, iL10, iL15, iL16, iL31, iL32, iL40, iL42, iL45, iL48, iL57, iL59, iL63, iL64, iL65, iL120, iL126, iL455, iL520, iL9999, iL99999, iN2, iN8, iN64, iN65, iN120, iN130, iN520, bZ_0]
    refine ⟨fun c5 => ?_, fun c5 => ?_⟩
    · rw [if_neg (by omega)] at hq
      have b2 := tr6_in hR.ok hR.2.1 (m := m.toNat) (by omega) (by omega) (w := w) c (by omega)
      refine s_fr_times hG q34 hF1 c5 b.2.1 (by omega) (by omega) ?_
      refine v_sa_deviation_24 hG ?_
      refine s_sa_squareRoot hG (by omega) (by omega) ?_
      exact v_sa_deviation_25 hG hq
    · rw [if_pos (by omega)] at hq
      exact hq
  · rw [if_neg (fun z => c2 z.2)] at hQ0
    exact hQ0
theorem C_compare (hG : qGood Ls xs P) {w m o : Int} (hR : cRd M 1 n f) (hw : r32 w) (hm : r32 m) (ho : r32 o) (hQ : ∀ M', qFm [34, 35] M M' → Q (some (.int (iI (aCmp n f w m o)))) M') : P 51 0 [(0, .ref 0), (1, .int (iI w)), (2, .int (iI m)), (3, .int (iI o))] [] M Q := by
  have hQ0 := hQ M qFm.rf
  unfold aCmp at hQ hQ0
  refine v_sa_compare_0 hG ?_
  refine s_sa_isVariance hG hw ?_
  refine v_sa_compare_2 hG ?_
  have hz := bZ_in (0 ≤ w ∧ w ≤ 3)
  simp (disch := omega) only [iI_add, iI_sub, iI_mul, iI_neg, iI_lt, iI_le, iI_eq, iI_cl, vp_iI, Classical.not_not, iLn1000000005, iLn1000000004, iLn1000000003, iLn1000000002, iLn1000000001, iLn99999, iLn9999, iLn2, iLn1, iL0, iL1, iL2, iL3, iL4, iL5, iL6, iL7, iL8, iL9, iL10, iL15, iL16, iL31, iL32, iL40, iL42, iL45, iL48, iL57, iL59, iL63, iL64, iL65, iL120, iL126, iL455, iL520, iL9999, iL99999, iN2, iN8, iN64, iN65, iN120, iN130, iN520, bZ_0]
  refine ⟨fun c => ?_, fun c => ?_⟩
  · rw [if_neg (fun z => c z.1)] at hQ0
    exact hQ0
  refine s_sa_isM hG hm ?_
  refine v_sa_compare_5 hG ?_
  have hz2 := bZ_in (1 ≤ m ∧ m ≤ 31)
  simp (disch := omega) only [iI_add, iI_sub, iI_mul, iI_neg, iI_lt, iI_le, iI_eq, iI_cl, vp_iI, Classical.not_not, iLn1000000005, iLn1000000004, iLn1000000003, iLn1000000002, iLn1000000001, iLn99999, iLn9999, iLn2, iLn1, iL0, iL1, iL2, iL3, iL4, iL5, iL6, iL7, iL8, iL9, iL10, iL15, iL16, iL31, iL32, iL40, iL42, iL45, iL48, iL57, iL59, iL63, iL64, iL65, iL120, iL126, iL455, iL520, iL9999, iL99999, iN2, iN8, iN64, iN65, iN120, iN130, iN520, bZ_0]
  refine ⟨fun c2 => ?_, fun c2 => ?_⟩
  · rw [if_neg (fun z => c2 z.2.1)] at hQ0
    exact hQ0
  refine s_sa_isM hG ho ?_
  refine v_sa_compare_8 hG ?_
  have hz4 := bZ_in (1 ≤ o ∧ o ≤ 31)
  simp (disch := omega) only [iI_add, iI_sub, iI_mul, iI_neg, iI_lt, iI_le, iI_eq, iI_cl, vp_iI, Classical.not_not, iLn1000000005, iLn1000000004, iLn1000000003, iLn1000000002, iLn1000000001, iLn99999, iLn9999, iLn2, iLn1, iL0, iL1, iL2, iL3, iL4, iL5, iL6, iL7, iL8, iL9, iL10, iL15, iL16, iL31, iL32, iL40, iL42, iL45, iL48, iL57, iL59, iL63, iL64, iL65, iL120, iL126, iL455, iL520, iL9999, iL99999, iN2, iN8, iN64, iN65, iN120, iN130, iN520, bZ_0]
  refine ⟨fun c3 => ?_, fun c3 => ?_⟩
  · simp only [if_pos (show (0 ≤ w ∧ w ≤ 3) ∧ (1 ≤ m ∧ m ≤ 31) ∧ (1 ≤ o ∧ o ≤ 31) by omega)] at hQ
    have e : m = ((m.toNat : Nat) : Int) := by omega
    have e2 : o = ((o.toNat : Nat) : Int) := by omega
    rw [e, e2]
    have b := vND hR.ok hR.2.1 (m := m.toNat) (by omega) (by omega) (w := w) c
    have b2 := vND hR.ok hR.2.1 (m := o.toNat) (by omega) (by omega) (w := w) c
    refine s_sa_measure hG q34 hR c (by omega) (by omega) (fun M1 hF1 hFm => ?_)
    refine v_sa_compare_17 hG ?_
    refine s_sa_measure hG q35 (hR.fm hFm (by decide) (by decide)) c (by omega) (by omega) (fun M2 hF2 hFm2 => ?_)
    have hq := hQ M2 ((hFm.up (by simp)).tr (hFm2.up (by simp)))
    have hF1 := hF1.fm hFm2 (by decide)
    refine v_sa_compare_23 hG ?_
    refine s_fr_exists hG q34 hF1 (by omega) ?_
    refine v_sa_compare_26 hG ?_
    have hz3 := bZ_in (0 < vD n f w m.toNat)
    simp (disch := omega) only [iI_add, iI_sub, iI_mul, iI_neg, iI_lt, iI_le, iI_eq, iI_cl, vp_iI, Classical.not_not, iLn1000000005, iLn1000000004, iLn1000000003, iLn1000000002, iLn1000000001, iLn99999, iLn9999, iLn2, iLn1, iL0, iL1, iL2, iL3, iL4, iL5, iL6, iL7, iL8, iL9, iL10, iL15, iL16, iL31, iL32, iL40, iL42, iL45, iL48, iL57, iL59, iL63, iL64, iL65, iL120, iL126, iL455, iL520, iL9999, iL99999, iN2, iN8, iN64, iN65, iN120, iN130, iN520, bZ_0]
    refine ⟨fun c5 => ?_, fun c5 => ?_⟩
    · rw [if_pos (by omega)] at hq
      exact hq
    refine s_fr_exists hG q35 hF2 (by omega) ?_
    refine v_sa_compare_30 hG ?_
    have hz5 := bZ_in (0 < vD n f w o.toNat)
    rw [show (1 : Int64) = lI ((1 : Nat) : Int) by decide]
    simp (disch := omega) only [iI_add, iI_sub, iI_mul, iI_neg, iI_lt, iI_le, iI_eq, iI_cl, vp_iI, Classical.not_not, iLn1000000005, iLn1000000004, iLn1000000003, iLn1000000002, iLn1000000001, iLn99999, iLn9999, iLn2, iLn1, iL0, iL1, iL2, iL3, iL4, iL5, iL6, iL7, iL8, iL9, iL10, iL15, iL16, iL31, iL32, iL40, iL42, iL45, iL48, iL57, iL59, iL63, iL64, iL65, iL120, iL126, iL455, iL520, iL9999, iL99999, iN2, iN8, iN64, iN65, iN120, iN130, iN520, bZ_0]
    refine ⟨fun c6 => ?_, fun c6 => ?_⟩
    · rw [if_neg (by omega)] at hq
      refine s_fr_order (p := 1) (q := 1) hG q34 q35 hF1 hF2 c5 c6 b.2.1 b2.2.1 (by omega) (by omega) ?_
      refine v_sa_compare_40 hG ?_
      rw [Nat.one_mul, Nat.one_mul]
      have hz6 := cmpZ_in (vN n f w m.toNat * vD n f w o.toNat : Nat) (vN n f w o.toNat * vD n f w m.toNat : Nat)
      unfold aCmp2 at hq
      generalize cmpZ (vN n f w m.toNat * vD n f w o.toNat : Nat) (vN n f w o.toNat * vD n f w m.toNat : Nat) = cc at *
      simp (disch := omega) only [iI_add, iI_sub, iI_mul, iI_neg, iI_lt, iI_le, iI_eq, iI_cl, vp_iI, Classical.not_not, iLn1000000005, iLn1000000004, iLn1000000003, iLn1000000002, iLn1000000001, iLn99999, iLn9999, iLn2, iLn1, iL0, iL1, iL2, iL3, iL4, iL5, iL6, iL7, iL8, iL9, iL10, iL15, iL16, iL31, iL32, iL40, iL42, iL45, iL48, iL57, iL59, iL63, iL64, iL65, iL120, iL126, iL455, iL520, iL9999, iL99999, iN2, iN8, iN64, iN65, iN120, iN130, iN520]
      refine ⟨fun c7 => ⟨fun c8 => ?_, fun c8 => ?_⟩, fun c7 => ?_⟩
      · rw [if_neg c7, if_neg (by omega)] at hq
        exact hq
      · rw [if_neg c7, if_pos (by omega)] at hq
        exact hq
      · rw [if_pos c7] at hq
        exact hq
    · rw [if_pos (by omega)] at hq
      exact hq
  · rw [if_neg (fun z => c3 z.2.2)] at hQ0
    exact hQ0
theorem bsz_s (n : Nat) (f : Nat → Int) (w : Int) (k : Nat) : bsz n f w (k + 1) = if vD n f w (k + 1) ≠ 0 ∧ (bsz n f w k = 0 ∨ aCmp2 n f w (k + 1) (bsz n f w k) < 0) then k + 1 else bsz n f w k := rfl
theorem C_best (hG : qGood Ls xs P) {w : Int} (hR : cRd M 1 n f) (hw : r32 w) (hQ : ∀ M', qFm [34, 35] M M' → Q (some (.int (iI (aBest n f w)))) M') : P 52 0 [(0, .ref 0), (1, .int (iI w))] [] M Q := by
  have hQ0 := hQ M qFm.rf
  unfold aBest at hQ hQ0
  refine v_sa_best_0 hG ?_
  refine s_sa_isVariance hG hw ?_
  refine v_sa_best_2 hG ?_
  have hz := bZ_in (0 ≤ w ∧ w ≤ 3)
  simp (disch := omega) only [iI_add, iI_sub, iI_mul, iI_neg, iI_lt, iI_le, iI_eq, iI_cl, vp_iI, Classical.not_not, iLn1000000005, iLn1000000004, iLn1000000003, iLn1000000002, iLn1000000001, iLn99999, iLn9999, iLn2, iLn1, iL0, iL1, iL2, iL3, iL4, iL5, iL6, iL7, iL8, iL9, iL10, iL15, iL16, iL31, iL32, iL40, iL42, iL45, iL48, iL57, iL59, iL63, iL64, iL65, iL120, iL126, iL455, iL520, iL9999, iL99999, iN2, iN8, iN64, iN65, iN120, iN130, iN520, bZ_0]
  refine ⟨fun c => ?_, fun c => ?_⟩
  · simp only [if_pos c] at hQ
    have key : ∀ (d j : Nat) (M1 : qMem), j + d = 31 → qFm [34, 35] M M1 → (bsz n f w j ≠ 0 → cFr M1 35 (vN n f w (bsz n f w j)) (vD n f w (bsz n f w j))) → P 52 9 [(0, .ref 0), (1, .int (iI w)), (2, .int (iI (if bsz n f w j = 0 then (-1000000001) else bsz n f w j))), (3, .int (iI (j + 1 : Nat)))] [] M1 Q := by
      intro d
      induction d with
      | zero =>
        intro j M1 hj hFm hF2
        have e : j = 31 := by omega
        subst e
        refine v_sa_best_9 hG ?_
        simp (disch := omega) only [iI_add, iI_sub, iI_mul, iI_neg, iI_lt, iI_le, iI_eq, iI_cl, vp_iI, Classical.not_not, iLn1000000005, iLn1000000004, iLn1000000003, iLn1000000002, iLn1000000001, iLn99999, iLn9999, iLn2, iLn1, iL0, iL1, iL2, iL3, iL4, iL5, iL6, iL7, iL8, iL9, iL10, iL15, iL16, iL31, iL32, iL40, iL42, iL45, iL48, iL57, iL59, iL63, iL64, iL65, iL120, iL126, iL455, iL520, iL9999, iL99999, iN2, iN8, iN64, iN65, iN120, iN130, iN520]
        exact ⟨fun _ => hQ M1 hFm, fun c2 => by omega⟩
      | succ d ih =>
        intro j M1 hj hFm hF2
        have hbi := bsz_in n f w j
        have b := vND hR.ok hR.2.1 (m := j + 1) (by omega) (by omega) (w := w) c
        refine v_sa_best_9 hG ?_
        simp (disch := omega) only [iI_add, iI_sub, iI_mul, iI_neg, iI_lt, iI_le, iI_eq, iI_cl, vp_iI, Classical.not_not, iLn1000000005, iLn1000000004, iLn1000000003, iLn1000000002, iLn1000000001, iLn99999, iLn9999, iLn2, iLn1, iL0, iL1, iL2, iL3, iL4, iL5, iL6, iL7, iL8, iL9, iL10, iL15, iL16, iL31, iL32, iL40, iL42, iL45, iL48, iL57, iL59, iL63, iL64, iL65, iL120, iL126, iL455, iL520, iL9999, iL99999, iN2, iN8, iN64, iN65, iN120, iN130, iN520]
        refine ⟨fun c2 => by omega, fun _ => ?_⟩
        refine s_sa_measure hG q34 (hR.fm hFm (by decide) (by decide)) c (by omega) (by omega) (fun M2 hF1 hFm2 => ?_)
        have hFm3 : qFm [34, 35] M M2 := hFm.tr (hFm2.up (by simp))
        refine v_sa_best_18 hG ?_
        refine s_fr_exists hG q34 hF1 (by omega) ?_
        refine v_sa_best_21 hG ?_
        have hz3 := bZ_in (0 < vD n f w (j + 1))
        have hrange : -1000000001 ≤ (if bsz n f w j = 0 then ((-1000000001) : Int) else bsz n f w j) ∧ (if bsz n f w j = 0 then ((-1000000001) : Int) else bsz n f w j) ≤ 31 := by split <;> omega
        have hNN : ((if bsz n f w j = 0 then ((-1000000001) : Int) else bsz n f w j) = (-1000000001)) ↔ bsz n f w j = 0 := by split <;> omega
        rw [show (1 : Int64) = lI ((1 : Nat) : Int) by decide]
        simp (disch := omega) only [iI_add, iI_sub, iI_mul, iI_neg, iI_lt, iI_le, iI_eq, iI_cl, vp_iI, Classical.not_not, iLn1000000005, iLn1000000004, iLn1000000003, iLn1000000002, iLn1000000001, iLn99999, iLn9999, iLn2, iLn1, iL0, iL1, iL2, iL3, iL4, iL5, iL6, iL7, iL8, iL9, iL10, iL15, iL16, iL31, iL32, iL40, iL42, iL45, iL48, iL57, iL59, iL63, iL64, iL65, iL120, iL126, iL455, iL520, iL9999, iL99999, iN2, iN8, iN64, iN65, iN120, iN130, iN520, bZ_0, hNN]
        have hcp : ∀ M3 : qMem, qFm [34, 35] M M3 → cFr M3 34 (vN n f w (j + 1)) (vD n f w (j + 1)) → bsz n f w (j + 1) = j + 1 → P 2 0 [(0, .ref 35), (1, .ref 34)] [] M3 (fun v M' => P 52 38 [(0, .ref 0), (1, .int (iI w)), (3, .int (iI (j + 1 : Nat)))] (v.toList ++ []) M' Q) := by
          intro M3 hF3 hc1 hb1
          refine s_fr_copyFrom hG q35 q34 (by decide) hc1 (fun M4 hc4 hF4 => ?_)
          refine v_sa_best_38 hG ?_
          simp (disch := omega) only [iI_add, iI_sub, iI_mul, iI_neg, iI_lt, iI_le, iI_eq, iI_cl, vp_iI, Classical.not_not, iLn1000000005, iLn1000000004, iLn1000000003, iLn1000000002, iLn1000000001, iLn99999, iLn9999, iLn2, iLn1, iL0, iL1, iL2, iL3, iL4, iL5, iL6, iL7, iL8, iL9, iL10, iL15, iL16, iL31, iL32, iL40, iL42, iL45, iL48, iL57, iL59, iL63, iL64, iL65, iL120, iL126, iL455, iL520, iL9999, iL99999, iN2, iN8, iN64, iN65, iN120, iN130, iN520]
          have hI := ih (j + 1) M4 (by omega) (hF3.tr (hF4.up (by simp))) (fun _ => by rw [hb1]; exact hc4)
          rw [hb1, if_neg (by omega)] at hI
          exact hI
        refine ⟨fun c3 => ?_, fun c3 => ⟨fun c4 => ?_, fun c4 => ?_⟩⟩
        · have hb1 : bsz n f w (j + 1) = bsz n f w j := by
            rw [bsz_s, if_neg (by omega)]
          have hI := ih (j + 1) M2 (by omega) hFm3 (fun z => by rw [hb1] at z ⊢; exact (hF2 z).fm hFm2 (by decide))
          rw [hb1] at hI
          exact hI
        · refine hcp M2 hFm3 hF1 ?_
          rw [bsz_s, if_pos ⟨by omega, Or.inl c4⟩]
        · have hD2 := bsz_D n f w j c4
          have b3 := vND hR.ok hR.2.1 (m := bsz n f w j) (by omega) (by omega) (w := w) c
          refine s_fr_order (p := 1) (q := 1) hG q34 q35 hF1 ((hF2 c4).fm hFm2 (by decide)) c3 (by omega) b.2.1 b3.2.1 (by omega) (by omega) ?_
          refine v_sa_best_32 hG ?_
          rw [Nat.one_mul, Nat.one_mul]
          have hz6 := cmpZ_in (vN n f w (j + 1) * vD n f w (bsz n f w j) : Nat) (vN n f w (bsz n f w j) * vD n f w (j + 1) : Nat)
          have hcc : aCmp2 n f w (j + 1) (bsz n f w j) = cmpZ (vN n f w (j + 1) * vD n f w (bsz n f w j) : Nat) (vN n f w (bsz n f w j) * vD n f w (j + 1) : Nat) := rfl
          rw [← hcc] at hz6 ⊢
          simp (disch := omega) only [iI_add, iI_sub, iI_mul, iI_neg, iI_lt, iI_le, iI_eq, iI_cl, vp_iI, Classical.not_not, iLn1000000005, iLn1000000004, iLn1000000003, iLn1000000002, iLn1000000001, iLn99999, iLn9999, iLn2, iLn1, iL0, iL1, iL2, iL3, iL4, iL5, iL6, iL7, iL8, iL9, iL10, iL15, iL16, iL31, iL32, iL40, iL42, iL45, iL48, iL57, iL59, iL63, iL64, iL65, iL120, iL126, iL455, iL520, iL9999, iL99999, iN2, iN8, iN64, iN65, iN120, iN130, iN520]
          refine ⟨fun c5 => ?_, fun c5 => ?_⟩
          · have hb1 : bsz n f w (j + 1) = bsz n f w j := by
              rw [bsz_s, if_neg (by omega)]
            have hI := ih (j + 1) M2 (by omega) hFm3 (fun z => by rw [hb1] at z ⊢; exact (hF2 z).fm hFm2 (by decide))
            rw [hb1] at hI
            exact hI
          · refine hcp M2 hFm3 hF1 ?_
            rw [bsz_s, if_pos ⟨by omega, Or.inr (by omega)⟩]
    exact key 31 0 M (by omega) qFm.rf (fun z => absurd rfl z)
  · rw [if_neg c] at hQ0
    exact hQ0
theorem knd_c {m : Nat} (hf : ∀ j, j < n → okv (f j)) (hn : n ≤ 64) (hm : 1 ≤ m) (hm2 : m ≤ 15) (h : knd n f m ≠ (-1000000001)) : 1 ≤ cnd n f 2 m := by
  have w0 : wOK 0 := ⟨by decide, by decide⟩
  have b := vND hf hn (m := m) (by omega) (by omega) w0
  have b2 := (vB_c (n := n) (f := f) hn (m := m) (by omega) (by omega) w0).2.2
  have hb := cz_in (fun j => decide (dif n f 2 m j ≠ (-1000000001))) n
  have e : cnd n f 2 m = cz (fun j => decide (dif n f 2 m j ≠ (-1000000001))) n := rfl
  have e2 : od 0 = 2 := rfl
  rw [e2] at b2
  rcases Int.lt_or_le (cnd n f 2 m) 1 with q | q
  · exfalso
    apply h
    unfold knd
    rw [if_pos (Or.inl (b.2.2.1.mpr (b2.mpr (by omega))))]
  · exact q
theorem dof_in {k c m : Int} (hk : 0 ≤ k ∧ k ≤ 4) (hc : 1 ≤ c ∧ c ≤ 64) (hm : 1 ≤ m ∧ m ≤ 15) : 0 ≤ dof k c m ∧ dof k c m ≤ 100000 := by
  have m1 := mul_bd (A := 65) (C := 94) (a := c + 1) (c := c + 2 * m) (by omega) (by omega) (by omega) (by omega)
  have m2 := mul_bd (A := 192) (C := 64) (a := 3 * c) (c := c) (by omega) (by omega) (by omega) (by omega)
  have m3 := mul_bd (A := 320) (C := 64) (a := 5 * c) (c := c) (by omega) (by omega) (by omega) (by omega)
  have p1 := Int.mul_nonneg (a := c + 1) (b := c + 2 * m) (by omega) (by omega)
  have p2 := Int.mul_nonneg (a := 3 * c) (b := c) (by omega) (by omega)
  have p3 := Int.mul_nonneg (a := 5 * c) (b := c) (by omega) (by omega)
  have g : ∀ x y : Int, 0 ≤ x → x ≤ 100000 → 0 < y → 0 ≤ x / y ∧ x / y ≤ 100000 := by
    intro x y h1 h2 h3
    have h4 := Int.ediv_nonneg h1 (Int.le_of_lt h3)
    have h5 := Int.ediv_le_self y h1
    omega
  unfold dof
  split
  · exact g _ _ p1 (by omega) (by omega)
  · split
    · exact g _ _ p2 (by omega) (by omega)
    · split
      · exact g _ _ p3 (by omega) (by omega)
      · exact g _ _ (by omega) (by omega) (by omega)
theorem wdz_s (n : Nat) (f : Nat → Int) (k : Nat) : wdz n f (k + 1) = if 0 < cnd n f 2 (k + 1) then ((k + 1 : Nat) : Int) else wdz n f k := rfl
theorem s_sa_greatestM (hG : qGood Ls xs P) (hR : cRd M 1 n f) (hQ : Q (some (.int (iI (wdz n f 31)))) M) : P 65 0 [(0, .ref 0)] [] M Q := by
  have hn := hR.2.1
  refine v_sa_greatestM_0 hG ?_
  have key : ∀ (j : Nat), j ≤ 31 → wdz n f 31 = wdz n f j → P 65 2 [(0, .ref 0), (1, .int (iI j))] [] M Q := by
    intro j
    induction j with
    | zero =>
      intro hj he
      refine v_sa_greatestM_2 hG ?_
      simp (disch := omega) only [iI_add, iI_sub, iI_mul, iI_neg, iI_lt, iI_le, iI_eq, iI_cl, vp_iI, Classical.not_not, iLn1000000005, iLn1000000004, iLn1000000003, iLn1000000002, iLn1000000001, iLn99999, iLn9999, iLn2, iLn1, iL0, iL1, iL2, iL3, iL4, iL5, iL6, iL7, iL8, iL9, iL10, iL15, iL16, iL31, iL32, iL40, iL42, iL45, iL48, iL57, iL59, iL63, iL64, iL65, iL120, iL126, iL455, iL520, iL9999, iL99999, iN2, iN8, iN64, iN65, iN120, iN130, iN520]
      refine ⟨fun _ => ?_, fun c => by omega⟩
      rw [he] at hQ
      exact hQ
    | succ j ih =>
      intro hj he
      have hb := cz_in (fun i => decide (dif n f 2 (j + 1) i ≠ (-1000000001))) n
      have hc2 : cnd n f 2 (j + 1) = cz (fun i => decide (dif n f 2 (j + 1) i ≠ (-1000000001))) n := rfl
      refine v_sa_greatestM_2 hG ?_
      simp (disch := omega) only [iI_add, iI_sub, iI_mul, iI_neg, iI_lt, iI_le, iI_eq, iI_cl, vp_iI, Classical.not_not, iLn1000000005, iLn1000000004, iLn1000000003, iLn1000000002, iLn1000000001, iLn99999, iLn9999, iLn2, iLn1, iL0, iL1, iL2, iL3, iL4, iL5, iL6, iL7, iL8, iL9, iL10, iL15, iL16, iL31, iL32, iL40, iL42, iL45, iL48, iL57, iL59, iL63, iL64, iL65, iL120, iL126, iL455, iL520, iL9999, iL99999, iN2, iN8, iN64, iN65, iN120, iN130, iN520]
      refine ⟨fun c => by omega, fun _ => ?_⟩
      refine s_rd_countOf hG q1Rd hR (by omega) (by omega) (by omega) ?_
      refine v_sa_greatestM_10 hG ?_
      rw [← hc2] at hb ⊢
      simp (disch := omega) only [iI_add, iI_sub, iI_mul, iI_neg, iI_lt, iI_le, iI_eq, iI_cl, vp_iI, Classical.not_not, iLn1000000005, iLn1000000004, iLn1000000003, iLn1000000002, iLn1000000001, iLn99999, iLn9999, iLn2, iLn1, iL0, iL1, iL2, iL3, iL4, iL5, iL6, iL7, iL8, iL9, iL10, iL15, iL16, iL31, iL32, iL40, iL42, iL45, iL48, iL57, iL59, iL63, iL64, iL65, iL120, iL126, iL455, iL520, iL9999, iL99999, iN2, iN8, iN64, iN65, iN120, iN130, iN520]
      rw [wdz_s n f j] at he
      refine ⟨fun c => ?_, fun c => ?_⟩
      · rw [if_neg (by omega)] at he
        rw [show ((j + 1 : Nat) : Int) + -1 = ((j : Nat) : Int) by omega]
        exact ih (by omega) he
      · rw [if_pos (by omega)] at he
        rw [he] at hQ
        exact hQ
  simp (disch := omega) only [iI_add, iI_sub, iI_mul, iI_neg, iI_lt, iI_le, iI_eq, iI_cl, vp_iI, Classical.not_not, iLn1000000005, iLn1000000004, iLn1000000003, iLn1000000002, iLn1000000001, iLn99999, iLn9999, iLn2, iLn1, iL0, iL1, iL2, iL3, iL4, iL5, iL6, iL7, iL8, iL9, iL10, iL15, iL16, iL31, iL32, iL40, iL42, iL45, iL48, iL57, iL59, iL63, iL64, iL65, iL120, iL126, iL455, iL520, iL9999, iL99999, iN2, iN8, iN64, iN65, iN120, iN130, iN520]
  exact key 31 (by omega) rfl
theorem C_told (hG : qGood Ls xs P) {w tl d : Int} (hR : cRd M 1 n f) (hT : M.1 31 1 = iI tl) (hD : M.1 6 2 = iI d) (hw : r32 w) (hQ : Q (some (.int (iI (aTold n f tl d w)))) M) : P 45 0 [(0, .ref 0), (1, .int (iI w))] [] M Q := by
  obtain ⟨h1, h2⟩ := hw
  unfold aTold at hQ
  refine v_sa_told_0 hG ?_
  rw [show Int32.ofInt 0 = iI 0 from rfl, show Int32.ofInt 1 = iI 1 from rfl, show Int32.ofInt 2 = iI 2 from rfl, show Int32.ofInt 3 = iI 3 from rfl, show Int32.ofInt 4 = iI 4 from rfl, show Int32.ofInt 5 = iI 5 from rfl, show Int32.ofInt 6 = iI 6 from rfl, show Int32.ofInt 7 = iI 7 from rfl, show Int32.ofInt 8 = iI 8 from rfl]
  simp (disch := omega) only [iI_add, iI_sub, iI_mul, iI_neg, iI_lt, iI_le, iI_eq, iI_cl, vp_iI, Classical.not_not, iLn1000000005, iLn1000000004, iLn1000000003, iLn1000000002, iLn1000000001, iLn99999, iLn9999, iLn2, iLn1, iL0, iL1, iL2, iL3, iL4, iL5, iL6, iL7, iL8, iL9, iL10, iL15, iL16, iL31, iL32, iL40, iL42, iL45, iL48, iL57, iL59, iL63, iL64, iL65, iL120, iL126, iL455, iL520, iL9999, iL99999, iN2, iN8, iN64, iN65, iN120, iN130, iN520]
  refine ⟨fun c => ?_, fun c => ?_⟩
  · rw [if_pos c] at hQ
    exact s_rd_size hG q1Rd hR (v_sa_told_5 hG hQ)
  rw [if_neg c] at hQ
  refine ⟨fun c => ?_, fun c => ?_⟩
  · rw [if_pos c] at hQ
    exact s_rd_present hG q1Rd hR (v_sa_told_9 hG hQ)
  rw [if_neg c] at hQ
  refine ⟨fun c => ?_, fun c => ?_⟩
  · rw [if_pos c] at hQ
    exact s_rd_least hG q1Rd hR (v_sa_told_13 hG hQ)
  rw [if_neg c] at hQ
  refine ⟨fun c => ?_, fun c => ?_⟩
  · rw [if_pos c] at hQ
    exact s_rd_greatest hG q1Rd hR (v_sa_told_17 hG hQ)
  rw [if_neg c] at hQ
  refine ⟨fun c => ?_, fun c => ?_⟩
  · rw [if_pos c] at hQ
    exact s_rd_gaps hG q1Rd hR (v_sa_told_21 hG hQ)
  rw [if_neg c] at hQ
  refine ⟨fun c => ?_, fun c => ?_⟩
  · rw [if_pos c] at hQ
    exact s_rd_longestGap hG q1Rd hR (v_sa_told_25 hG hQ)
  rw [if_neg c] at hQ
  refine ⟨fun c => ?_, fun c => ?_⟩
  · rw [if_pos c] at hQ
    exact s_sa_greatestM hG hR (v_sa_told_28 hG hQ)
  rw [if_neg c] at hQ
  refine ⟨fun c => ?_, fun c => ?_⟩
  · rw [if_pos c] at hQ
    refine v_tx_size_0 hG ?_
    rw [hT]
    exact v_sa_told_32 hG hQ
  rw [if_neg c] at hQ
  refine ⟨fun c => ?_, fun c => ?_⟩
  · rw [if_pos c] at hQ
    refine v_hi_depth_0 hG ?_
    rw [hD]
    exact v_sa_told_36 hG hQ
  rw [if_neg c] at hQ
  exact hQ
end SAQ
